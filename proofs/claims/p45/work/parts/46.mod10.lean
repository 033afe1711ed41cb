/-! The model, 10: calls that change texts and row -/
theorem rngL {n : Nat} (hn : n < 2 ^ 31) {x : Int32} : (nI 0 ≤ x ∧ x ≤ nI n - nI 1) ↔ ∃ a9 : Nat, a9 < n ∧ x = nI a9 := by
  rcases Nat.eq_zero_or_pos n with q | q
  · subst q
    constructor
    · intro ⟨h1, h2⟩
      exact absurd (Int32.le_trans h1 h2) (by decide)
    · rintro ⟨i, hi, -⟩; exact absurd hi (Nat.not_lt_zero i)
  · rw [pk_sub (a := n) (b := 1) (by omega)]
    rw [rngI (n := n - 1) (by omega)]
    constructor
    · rintro ⟨i, h1, h2⟩; exact ⟨i, by omega, h2⟩
    · rintro ⟨i, h1, h2⟩; exact ⟨i, by omega, h2⟩
theorem knT_le {i : Nat} (h : i < 7) : (knT i).length ≤ 4 ∧ okc (knT i) := by
  have k : ∀ j : Fin 7, (knT j.1).length ≤ 4 ∧ ∀ q : Fin 4, (knT j.1).getD q.1 0 < 256 := by decide +kernel
  obtain ⟨h1, h2⟩ := k ⟨i, h⟩
  refine ⟨h1, fun j => ?_⟩
  rcases Nat.lt_or_ge j 4 with q | q
  · exact h2 ⟨j, q⟩
  · rw [List.getD_eq_getElem?_getD, List.getElem?_eq_none (Nat.le_trans h1 q)]; decide
section MWS2
variable {G : Cx} {A : Nat → Prop} {am xa : Nat} {X : Nat → List Nat} {P : List (List Nat)} {k th : Int32} {H H1 : Heap} {s : State}
/-- a fresh row becomes the row -/
theorem MWx_lay {ra pa : Nat} {tx : Nat → Nat} (hK : va_K G.1 vwCl (tyL G.2.1) s) (h : MWx G A am xa ra pa tx X P k th H) {H2 : Heap} {r : Nat} {t : List Nat} (hk : kp (nw H.size) H H2) (hrn : H.size ≤ r) (hr : IA0 G r t H2) (hO : va_at G.1 vwCl (am, .inr (8, [.int th, .ref xa, .ref r, .ref pa, .int k])) H1) (oq : ∀ q : Nat, q ≠ am → H1[q]? = H2[q]?) (hAr : A r) (ht : okc t ∧ t.length ≤ 60) : MWx G A am xa r pa tx (updT X 11 t) P k th H1 := by
  have hO0 := h.obj
  obtain ⟨a1, a2, a3, a4, b1, b2, b3, b4, b5, b6, b7, b8⟩ := h
  have hne : ∀ (q : Nat) (fs : ClassId × vp_A) (t0 : Nat) (ty : FieldType), va_at G.1 vwCl (q, .inl fs) H → (tyL G.2.1)[t0]? = some (fs.1, ty) → q ≠ am := fun q fs t0 ty hq ht => Ne.symm (at_ne_oa hK hO0 (r := (RX4, TX4, 5)) rfl hq t0 ht)
  have hq : ∀ q : Nat, q < H.size → q ≠ am → H1[q]? = H[q]? := fun q h1 h2 => (oq q h2).trans (hk.2 q h1 (Nat.not_le_of_lt h1))
  have hI : ∀ {q : Nat} {t : List Nat}, IA0 G q t H → IA0 G q t H1 := fun {q t} hz => by
    obtain ⟨f, q1, q2⟩ := hz
    exact ⟨f, q1.kept (hq _ q1.lt (hne q _ 0 _ q1 rfl)), q2⟩
  have ham := b4.lt
  refine ⟨a1, a2, fun i hi => ?_, a4, hAr, b2, b3, hO, b5.kept (hq _ b5.lt (hne xa _ 4 _ b5 rfl)), fun j hj => ?_, ?_, ?_⟩
  · unfold updT; split
    · exact ht
    · exact a3 i hi
  · rw [updT_n (by omega)]; exact ⟨hI (b6 j hj).1, by have := (b6 j hj).1.lt; omega⟩
  · rw [updT_s]; exact hr.o oq (by omega)
  · obtain ⟨h0, h | ⟨md, ed, cap, f, pe, h1, h2, h3, h4, h5, h6⟩⟩ := b8
    · obtain ⟨e, md, h⟩ := h
      exact ⟨h0, Or.inl ⟨e, md, h.kept (hq _ h.lt b3)⟩⟩
    · exact ⟨h0, Or.inr ⟨md, ed, cap, f, pe, h1.kept (hq _ h1.lt b3), h2.kept (hq _ h2.lt (hne ed _ 5 _ h2 rfl)), h3, h4, h5, fun i hi => ⟨(h6 i hi).1, hI (h6 i hi).2.1, by have := (h6 i hi).2.1.lt; omega⟩⟩⟩
end MWS2
theorem dX4_part_0 : decode cX4_part 0 = .ok (.aload_n 0, 1) := by decide +kernel
theorem dX4_part_1 : decode cX4_part 1 = .ok (.iload_n 1, 1) := by decide +kernel
theorem dX4_part_2 : decode cX4_part 2 = .ok (.invokestatic 107, 3) := by decide +kernel
theorem dX4_part_5 : decode cX4_part 5 = .ok (.ifCond .ne 20, 3) := by decide +kernel
theorem dX4_part_8 : decode cX4_part 8 = .ok (.iload 4, 2) := by decide +kernel
theorem dX4_part_10 : decode cX4_part 10 = .ok (.invokestatic 107, 3) := by decide +kernel
theorem dX4_part_13 : decode cX4_part 13 = .ok (.ifCond .ne 12, 3) := by decide +kernel
theorem dX4_part_16 : decode cX4_part 16 = .ok (.iload_n 2, 1) := by decide +kernel
theorem dX4_part_17 : decode cX4_part 17 = .ok (.ifCond .lt 8, 3) := by decide +kernel
theorem dX4_part_20 : decode cX4_part 20 = .ok (.iload_n 3, 1) := by decide +kernel
theorem dX4_part_21 : decode cX4_part 21 = .ok (.iload_n 2, 1) := by decide +kernel
theorem dX4_part_22 : decode cX4_part 22 = .ok (.if_icmp .ge 7, 3) := by decide +kernel
theorem dX4_part_25 : decode cX4_part 25 = .ok (.iconst 1, 1) := by decide +kernel
theorem dX4_part_26 : decode cX4_part 26 = .ok (.goto 4, 3) := by decide +kernel
theorem dX4_part_29 : decode cX4_part 29 = .ok (.iconst 0, 1) := by decide +kernel
theorem dX4_part_30 : decode cX4_part 30 = .ok (.iconst 1, 1) := by decide +kernel
theorem dX4_part_31 : decode cX4_part 31 = .ok (.invokevirtual 110, 3) := by decide +kernel
theorem dX4_part_34 : decode cX4_part 34 = .ok (.ifCond .ne 27, 3) := by decide +kernel
theorem dX4_part_37 : decode cX4_part 37 = .ok (.aload_n 0, 1) := by decide +kernel
theorem dX4_part_38 : decode cX4_part 38 = .ok (.iload_n 3, 1) := by decide +kernel
theorem dX4_part_39 : decode cX4_part 39 = .ok (.aload_n 0, 1) := by decide +kernel
theorem dX4_part_40 : decode cX4_part 40 = .ok (.getfield 72, 3) := by decide +kernel
theorem dX4_part_43 : decode cX4_part 43 = .ok (.iload_n 1, 1) := by decide +kernel
theorem dX4_part_44 : decode cX4_part 44 = .ok (.aaload, 1) := by decide +kernel
theorem dX4_part_45 : decode cX4_part 45 = .ok (.arraylength, 1) := by decide +kernel
theorem dX4_part_46 : decode cX4_part 46 = .ok (.if_icmp .le 7, 3) := by decide +kernel
theorem dX4_part_49 : decode cX4_part 49 = .ok (.iconst 1, 1) := by decide +kernel
theorem dX4_part_50 : decode cX4_part 50 = .ok (.goto 4, 3) := by decide +kernel
theorem dX4_part_53 : decode cX4_part 53 = .ok (.iconst 0, 1) := by decide +kernel
theorem dX4_part_54 : decode cX4_part 54 = .ok (.iconst 1, 1) := by decide +kernel
theorem dX4_part_55 : decode cX4_part 55 = .ok (.invokevirtual 86, 3) := by decide +kernel
theorem dX4_part_58 : decode cX4_part 58 = .ok (.ifCond .eq 5, 3) := by decide +kernel
theorem dX4_part_61 : decode cX4_part 61 = .ok (.iconst 0, 1) := by decide +kernel
theorem dX4_part_62 : decode cX4_part 62 = .ok (.ireturn, 1) := by decide +kernel
theorem dX4_part_63 : decode cX4_part 63 = .ok (.aload_n 0, 1) := by decide +kernel
theorem dX4_part_64 : decode cX4_part 64 = .ok (.iload 4, 2) := by decide +kernel
theorem dX4_part_66 : decode cX4_part 66 = .ok (.aload_n 0, 1) := by decide +kernel
theorem dX4_part_67 : decode cX4_part 67 = .ok (.getfield 72, 3) := by decide +kernel
theorem dX4_part_70 : decode cX4_part 70 = .ok (.iload_n 1, 1) := by decide +kernel
theorem dX4_part_71 : decode cX4_part 71 = .ok (.aaload, 1) := by decide +kernel
theorem dX4_part_72 : decode cX4_part 72 = .ok (.iload_n 2, 1) := by decide +kernel
theorem dX4_part_73 : decode cX4_part 73 = .ok (.iload_n 3, 1) := by decide +kernel
theorem dX4_part_74 : decode cX4_part 74 = .ok (.invokestatic 31, 3) := by decide +kernel
theorem dX4_part_77 : decode cX4_part 77 = .ok (.invokevirtual 113, 3) := by decide +kernel
theorem dX4_part_80 : decode cX4_part 80 = .ok (.ireturn, 1) := by decide +kernel
theorem dX4_tail_0 : decode cX4_tail 0 = .ok (.aload_n 0, 1) := by decide +kernel
theorem dX4_tail_1 : decode cX4_tail 1 = .ok (.iload_n 1, 1) := by decide +kernel
theorem dX4_tail_2 : decode cX4_tail 2 = .ok (.invokestatic 107, 3) := by decide +kernel
theorem dX4_tail_5 : decode cX4_tail 5 = .ok (.ifCond .ne 14, 3) := by decide +kernel
theorem dX4_tail_8 : decode cX4_tail 8 = .ok (.iload_n 3, 1) := by decide +kernel
theorem dX4_tail_9 : decode cX4_tail 9 = .ok (.invokestatic 107, 3) := by decide +kernel
theorem dX4_tail_12 : decode cX4_tail 12 = .ok (.ifCond .ne 7, 3) := by decide +kernel
theorem dX4_tail_15 : decode cX4_tail 15 = .ok (.iload_n 2, 1) := by decide +kernel
theorem dX4_tail_16 : decode cX4_tail 16 = .ok (.ifCond .ge 7, 3) := by decide +kernel
theorem dX4_tail_19 : decode cX4_tail 19 = .ok (.iconst 1, 1) := by decide +kernel
theorem dX4_tail_20 : decode cX4_tail 20 = .ok (.goto 4, 3) := by decide +kernel
theorem dX4_tail_23 : decode cX4_tail 23 = .ok (.iconst 0, 1) := by decide +kernel
theorem dX4_tail_24 : decode cX4_tail 24 = .ok (.iconst 1, 1) := by decide +kernel
theorem dX4_tail_25 : decode cX4_tail 25 = .ok (.invokevirtual 110, 3) := by decide +kernel
theorem dX4_tail_28 : decode cX4_tail 28 = .ok (.ifCond .ne 27, 3) := by decide +kernel
theorem dX4_tail_31 : decode cX4_tail 31 = .ok (.aload_n 0, 1) := by decide +kernel
theorem dX4_tail_32 : decode cX4_tail 32 = .ok (.iload_n 2, 1) := by decide +kernel
theorem dX4_tail_33 : decode cX4_tail 33 = .ok (.aload_n 0, 1) := by decide +kernel
theorem dX4_tail_34 : decode cX4_tail 34 = .ok (.getfield 72, 3) := by decide +kernel
theorem dX4_tail_37 : decode cX4_tail 37 = .ok (.iload_n 1, 1) := by decide +kernel
theorem dX4_tail_38 : decode cX4_tail 38 = .ok (.aaload, 1) := by decide +kernel
theorem dX4_tail_39 : decode cX4_tail 39 = .ok (.arraylength, 1) := by decide +kernel
theorem dX4_tail_40 : decode cX4_tail 40 = .ok (.if_icmp .le 7, 3) := by decide +kernel
theorem dX4_tail_43 : decode cX4_tail 43 = .ok (.iconst 1, 1) := by decide +kernel
theorem dX4_tail_44 : decode cX4_tail 44 = .ok (.goto 4, 3) := by decide +kernel
theorem dX4_tail_47 : decode cX4_tail 47 = .ok (.iconst 0, 1) := by decide +kernel
theorem dX4_tail_48 : decode cX4_tail 48 = .ok (.iconst 1, 1) := by decide +kernel
theorem dX4_tail_49 : decode cX4_tail 49 = .ok (.invokevirtual 86, 3) := by decide +kernel
theorem dX4_tail_52 : decode cX4_tail 52 = .ok (.ifCond .eq 5, 3) := by decide +kernel
theorem dX4_tail_55 : decode cX4_tail 55 = .ok (.iconst 0, 1) := by decide +kernel
theorem dX4_tail_56 : decode cX4_tail 56 = .ok (.ireturn, 1) := by decide +kernel
theorem dX4_tail_57 : decode cX4_tail 57 = .ok (.aload_n 0, 1) := by decide +kernel
theorem dX4_tail_58 : decode cX4_tail 58 = .ok (.iload_n 3, 1) := by decide +kernel
theorem dX4_tail_59 : decode cX4_tail 59 = .ok (.aload_n 0, 1) := by decide +kernel
theorem dX4_tail_60 : decode cX4_tail 60 = .ok (.getfield 72, 3) := by decide +kernel
theorem dX4_tail_63 : decode cX4_tail 63 = .ok (.iload_n 1, 1) := by decide +kernel
theorem dX4_tail_64 : decode cX4_tail 64 = .ok (.aaload, 1) := by decide +kernel
theorem dX4_tail_65 : decode cX4_tail 65 = .ok (.iload_n 2, 1) := by decide +kernel
theorem dX4_tail_66 : decode cX4_tail 66 = .ok (.aload_n 0, 1) := by decide +kernel
theorem dX4_tail_67 : decode cX4_tail 67 = .ok (.getfield 72, 3) := by decide +kernel
theorem dX4_tail_70 : decode cX4_tail 70 = .ok (.iload_n 1, 1) := by decide +kernel
theorem dX4_tail_71 : decode cX4_tail 71 = .ok (.aaload, 1) := by decide +kernel
theorem dX4_tail_72 : decode cX4_tail 72 = .ok (.arraylength, 1) := by decide +kernel
theorem dX4_tail_73 : decode cX4_tail 73 = .ok (.invokestatic 31, 3) := by decide +kernel
theorem dX4_tail_76 : decode cX4_tail 76 = .ok (.invokevirtual 113, 3) := by decide +kernel
theorem dX4_tail_79 : decode cX4_tail 79 = .ok (.ireturn, 1) := by decide +kernel
theorem dX4_join_0 : decode cX4_join 0 = .ok (.aload_n 0, 1) := by decide +kernel
theorem dX4_join_1 : decode cX4_join 1 = .ok (.iload_n 1, 1) := by decide +kernel
theorem dX4_join_2 : decode cX4_join 2 = .ok (.invokestatic 107, 3) := by decide +kernel
theorem dX4_join_5 : decode cX4_join 5 = .ok (.ifCond .ne 17, 3) := by decide +kernel
theorem dX4_join_8 : decode cX4_join 8 = .ok (.iload_n 2, 1) := by decide +kernel
theorem dX4_join_9 : decode cX4_join 9 = .ok (.invokestatic 107, 3) := by decide +kernel
theorem dX4_join_12 : decode cX4_join 12 = .ok (.ifCond .ne 10, 3) := by decide +kernel
theorem dX4_join_15 : decode cX4_join 15 = .ok (.iload_n 3, 1) := by decide +kernel
theorem dX4_join_16 : decode cX4_join 16 = .ok (.invokestatic 107, 3) := by decide +kernel
theorem dX4_join_19 : decode cX4_join 19 = .ok (.ifCond .eq 7, 3) := by decide +kernel
theorem dX4_join_22 : decode cX4_join 22 = .ok (.iconst 1, 1) := by decide +kernel
theorem dX4_join_23 : decode cX4_join 23 = .ok (.goto 4, 3) := by decide +kernel
theorem dX4_join_26 : decode cX4_join 26 = .ok (.iconst 0, 1) := by decide +kernel
theorem dX4_join_27 : decode cX4_join 27 = .ok (.iconst 1, 1) := by decide +kernel
theorem dX4_join_28 : decode cX4_join 28 = .ok (.invokevirtual 110, 3) := by decide +kernel
theorem dX4_join_31 : decode cX4_join 31 = .ok (.ifCond .ne 36, 3) := by decide +kernel
theorem dX4_join_34 : decode cX4_join 34 = .ok (.aload_n 0, 1) := by decide +kernel
theorem dX4_join_35 : decode cX4_join 35 = .ok (.aload_n 0, 1) := by decide +kernel
theorem dX4_join_36 : decode cX4_join 36 = .ok (.getfield 72, 3) := by decide +kernel
theorem dX4_join_39 : decode cX4_join 39 = .ok (.iload_n 1, 1) := by decide +kernel
theorem dX4_join_40 : decode cX4_join 40 = .ok (.aaload, 1) := by decide +kernel
theorem dX4_join_41 : decode cX4_join 41 = .ok (.arraylength, 1) := by decide +kernel
theorem dX4_join_42 : decode cX4_join 42 = .ok (.aload_n 0, 1) := by decide +kernel
theorem dX4_join_43 : decode cX4_join 43 = .ok (.getfield 72, 3) := by decide +kernel
theorem dX4_join_46 : decode cX4_join 46 = .ok (.iload_n 2, 1) := by decide +kernel
theorem dX4_join_47 : decode cX4_join 47 = .ok (.aaload, 1) := by decide +kernel
theorem dX4_join_48 : decode cX4_join 48 = .ok (.arraylength, 1) := by decide +kernel
theorem dX4_join_49 : decode cX4_join 49 = .ok (.iadd, 1) := by decide +kernel
theorem dX4_join_50 : decode cX4_join 50 = .ok (.bipush 60, 2) := by decide +kernel
theorem dX4_join_52 : decode cX4_join 52 = .ok (.if_icmp .le 7, 3) := by decide +kernel
theorem dX4_join_55 : decode cX4_join 55 = .ok (.iconst 1, 1) := by decide +kernel
theorem dX4_join_56 : decode cX4_join 56 = .ok (.goto 4, 3) := by decide +kernel
theorem dX4_join_59 : decode cX4_join 59 = .ok (.iconst 0, 1) := by decide +kernel
theorem dX4_join_60 : decode cX4_join 60 = .ok (.iconst 2, 1) := by decide +kernel
theorem dX4_join_61 : decode cX4_join 61 = .ok (.invokevirtual 86, 3) := by decide +kernel
theorem dX4_join_64 : decode cX4_join 64 = .ok (.ifCond .eq 5, 3) := by decide +kernel
theorem dX4_join_67 : decode cX4_join 67 = .ok (.iconst 0, 1) := by decide +kernel
theorem dX4_join_68 : decode cX4_join 68 = .ok (.ireturn, 1) := by decide +kernel
theorem dX4_join_69 : decode cX4_join 69 = .ok (.aload_n 0, 1) := by decide +kernel
theorem dX4_join_70 : decode cX4_join 70 = .ok (.iload_n 3, 1) := by decide +kernel
theorem dX4_join_71 : decode cX4_join 71 = .ok (.aload_n 0, 1) := by decide +kernel
theorem dX4_join_72 : decode cX4_join 72 = .ok (.getfield 72, 3) := by decide +kernel
theorem dX4_join_75 : decode cX4_join 75 = .ok (.iload_n 1, 1) := by decide +kernel
theorem dX4_join_76 : decode cX4_join 76 = .ok (.aaload, 1) := by decide +kernel
theorem dX4_join_77 : decode cX4_join 77 = .ok (.aload_n 0, 1) := by decide +kernel
theorem dX4_join_78 : decode cX4_join 78 = .ok (.getfield 72, 3) := by decide +kernel
theorem dX4_join_81 : decode cX4_join 81 = .ok (.iload_n 2, 1) := by decide +kernel
theorem dX4_join_82 : decode cX4_join 82 = .ok (.aaload, 1) := by decide +kernel
theorem dX4_join_83 : decode cX4_join 83 = .ok (.invokestatic 103, 3) := by decide +kernel
theorem dX4_join_86 : decode cX4_join 86 = .ok (.invokevirtual 113, 3) := by decide +kernel
theorem dX4_join_89 : decode cX4_join 89 = .ok (.ireturn, 1) := by decide +kernel
theorem dX4_lay_0 : decode cX4_lay 0 = .ok (.aload_n 0, 1) := by decide +kernel
theorem dX4_lay_1 : decode cX4_lay 1 = .ok (.iload_n 1, 1) := by decide +kernel
theorem dX4_lay_2 : decode cX4_lay 2 = .ok (.invokestatic 107, 3) := by decide +kernel
theorem dX4_lay_5 : decode cX4_lay 5 = .ok (.iconst 1, 1) := by decide +kernel
theorem dX4_lay_6 : decode cX4_lay 6 = .ok (.invokevirtual 110, 3) := by decide +kernel
theorem dX4_lay_9 : decode cX4_lay 9 = .ok (.ifCond .eq 5, 3) := by decide +kernel
theorem dX4_lay_12 : decode cX4_lay 12 = .ok (.iconst 0, 1) := by decide +kernel
theorem dX4_lay_13 : decode cX4_lay 13 = .ok (.ireturn, 1) := by decide +kernel
theorem dX4_lay_14 : decode cX4_lay 14 = .ok (.aload_n 0, 1) := by decide +kernel
theorem dX4_lay_15 : decode cX4_lay 15 = .ok (.aload_n 0, 1) := by decide +kernel
theorem dX4_lay_16 : decode cX4_lay 16 = .ok (.getfield 72, 3) := by decide +kernel
theorem dX4_lay_19 : decode cX4_lay 19 = .ok (.iload_n 1, 1) := by decide +kernel
theorem dX4_lay_20 : decode cX4_lay 20 = .ok (.aaload, 1) := by decide +kernel
theorem dX4_lay_21 : decode cX4_lay 21 = .ok (.iconst 0, 1) := by decide +kernel
theorem dX4_lay_22 : decode cX4_lay 22 = .ok (.aload_n 0, 1) := by decide +kernel
theorem dX4_lay_23 : decode cX4_lay 23 = .ok (.getfield 72, 3) := by decide +kernel
theorem dX4_lay_26 : decode cX4_lay 26 = .ok (.iload_n 1, 1) := by decide +kernel
theorem dX4_lay_27 : decode cX4_lay 27 = .ok (.aaload, 1) := by decide +kernel
theorem dX4_lay_28 : decode cX4_lay 28 = .ok (.arraylength, 1) := by decide +kernel
theorem dX4_lay_29 : decode cX4_lay 29 = .ok (.invokestatic 31, 3) := by decide +kernel
theorem dX4_lay_32 : decode cX4_lay 32 = .ok (.putfield 75, 3) := by decide +kernel
theorem dX4_lay_35 : decode cX4_lay 35 = .ok (.aload_n 0, 1) := by decide +kernel
theorem dX4_lay_36 : decode cX4_lay 36 = .ok (.getfield 75, 3) := by decide +kernel
theorem dX4_lay_39 : decode cX4_lay 39 = .ok (.arraylength, 1) := by decide +kernel
theorem dX4_lay_40 : decode cX4_lay 40 = .ok (.ireturn, 1) := by decide +kernel
theorem dX4_isNoPlace_0 : decode cX4_isNoPlace 0 = .ok (.iload_n 1, 1) := by decide +kernel
theorem dX4_isNoPlace_1 : decode cX4_isNoPlace 1 = .ok (.iconst 0, 1) := by decide +kernel
theorem dX4_isNoPlace_2 : decode cX4_isNoPlace 2 = .ok (.aload_n 0, 1) := by decide +kernel
theorem dX4_isNoPlace_3 : decode cX4_isNoPlace 3 = .ok (.getfield 75, 3) := by decide +kernel
theorem dX4_isNoPlace_6 : decode cX4_isNoPlace 6 = .ok (.arraylength, 1) := by decide +kernel
theorem dX4_isNoPlace_7 : decode cX4_isNoPlace 7 = .ok (.iconst 1, 1) := by decide +kernel
theorem dX4_isNoPlace_8 : decode cX4_isNoPlace 8 = .ok (.isub, 1) := by decide +kernel
theorem dX4_isNoPlace_9 : decode cX4_isNoPlace 9 = .ok (.invokestatic 90, 3) := by decide +kernel
theorem dX4_isNoPlace_12 : decode cX4_isNoPlace 12 = .ok (.ifCond .ne 7, 3) := by decide +kernel
theorem dX4_isNoPlace_15 : decode cX4_isNoPlace 15 = .ok (.iconst 1, 1) := by decide +kernel
theorem dX4_isNoPlace_16 : decode cX4_isNoPlace 16 = .ok (.goto 4, 3) := by decide +kernel
theorem dX4_isNoPlace_19 : decode cX4_isNoPlace 19 = .ok (.iconst 0, 1) := by decide +kernel
theorem dX4_isNoPlace_20 : decode cX4_isNoPlace 20 = .ok (.ireturn, 1) := by decide +kernel
abbrev rmX4_part : Room := { frames := 3, cells := 1, slots := 61, locals := 64 }
theorem mX4_part {l : Launch} {G : Cx} {A : Nat → Prop} {am xa : Nat} {X : Nat → List Nat} {P : List (List Nat)} {k : Int32} {x f9 t9 y th : Int32} : Met l yX4_part (.code yX4_part cX4_part 5 (some .int) :: GW) rmX4_part (PC G A [.ref am, .int x, .int f9, .int t9, .int y] (MW G A am xa X P k th)) (qI A (fun r H => ((NT x ∨ NT y ∨ ¬ (∃ i a9 b9 : Nat, i < 4 ∧ x = nI i ∧ f9 = nI a9 ∧ t9 = nI b9 ∧ a9 ≤ b9 ∧ b9 ≤ (X i).length)) ∧ r = 0 ∧ MW G A am xa X P k 1 H) ∨ ∃ i j a9 b9 : Nat, i < 4 ∧ x = nI i ∧ j < 4 ∧ y = nI j ∧ f9 = nI a9 ∧ t9 = nI b9 ∧ a9 ≤ b9 ∧ b9 ≤ (X i).length ∧ r = nI (cutL (X i) a9 b9).length ∧ MW G A am xa (updT X j (cutL (X i) a9 b9)) P k 0 H)) 1 61 (A) := by
  refine mstart "SigntextModel" (by decide +kernel) rfl (Nat.le_of_ble_eq_true rfl) ?_
  intro p e s m below meth c ls hx hb hr hts hown hml hlocks hname hC hA hW hl
  have hl : lv_has ls 5 [(0, .ref am), (1, .int x), (2, .int f9), (3, .int t9), (4, .int y)] := hl
  have hK := hC.1
  have hS : va_S A s.heap s.heap [] := va_S.rf
  obtain ⟨ra, pa, tx, hW⟩ := hW
  have hO := hW.obj
  have hAm := hW.1
  refine lv_aload_n hx hb dX4_part_0 rfl (lv_at hl 0 rfl) ?_
  refine lv_iload_n hx hb dX4_part_1 rfl (lv_at hl 1 rfl) ?_
  refine kS_i (A := A) (As := [.int x]) (rest := .ref am :: []) ⟨hx, hb, hml, hown, hts⟩ (mX4_isNone (A := A) ) (va_cwS 1 hts (gS tw_4_203 tw_4_204 tw_1_8 tw_4_205) rfl rfl rfl (by decide +kernel) ⟨Nat.le_of_ble_eq_true rfl, Nat.le_of_ble_eq_true rfl⟩) hC hS hA  trivial rfl rfl hl.1 (Nat.le_of_ble_eq_true rfl) ⟨Nat.zero_le _, Nat.zero_le _⟩ dX4_part_2 (fun r_1 hr_1 => ?_)
  obtain ⟨r_1v, hr_1v, rfl⟩ := hr_1
  refine f_ne (tgt := 25) hx hb dX4_part_5 (by decide) (fun c_2 => ?_) (fun c_2 => ?_)
  · refine lv_iconst (v := nI 1) hx hb dX4_part_25 (by decide) ?_
    refine lv_goto (tgt := 30) hx hb dX4_part_26 (by decide) ?_
    refine lv_iconst (v := nI 1) hx hb dX4_part_30 (by decide) ?_
    refine qI_V (A := A) (A1 := A) (b := am) (As := [.int (bI true), .int (nI 1)]) (rest := []) ⟨hx, hb, hml, hown, hts⟩ (mX4_start (A := A) (X := X) (P := P) (k := k) (xa := xa) (b := true) (w9 := 1) (by decide)) (cwV 2 hts (gV tw_4_206 tw_4_208 sel_X4_start tw_1_8 tw_4_209) rfl rfl rfl (by decide +kernel) ⟨Nat.le_of_ble_eq_true rfl, Nat.le_of_ble_eq_true rfl⟩) hC hS (fun _ h => h) (fun q h => hA q (Nat.le_trans hS.1 h)) (hW.recv hK) ⟨ra, pa, tx, hW⟩ rfl rfl hl.1 (Nat.le_of_ble_eq_true rfl) ⟨Nat.zero_le _, Nat.zero_le _⟩ dX4_part_31 (fun rv3 H3 L3 hP3 hk3 hS => ?_)
    have hZ3 := hS.1
    obtain ⟨hr3, hM3⟩ := hP3
    subst hr3
    obtain ⟨ra, pa, tx, hW⟩ := hM3
    have hW : MWx G A am xa ra pa tx X P k (nI 1) H3 := hW
    have hO := hW.obj
    have hAm := hW.1
    refine f_ne (tgt := 61) hx hb dX4_part_34 (by decide) (fun c_4 => ?_) (fun c_4 => ?_)
    · refine lv_iconst (v := nI 0) hx hb dX4_part_61 (by decide) ?_
      exact q_i hx hb hr hlocks dX4_part_62 hS (by omega) (by omega) (Or.inl ⟨(Or.inl (hr_1v.mp c_2)), rfl, ra, pa, tx, hW⟩)
    · exact absurd c_4 (by decide)
  · obtain ⟨i, hi, rfl⟩ : ∃ i : Nat, i < 4 ∧ x = nI i := Classical.byContradiction (fun q => absurd (hr_1v.mpr q) (by rw [c_2]; decide))
    refine lv_iload hx hb dX4_part_8 (lv_at hl 4 rfl) ?_
    refine kS_i (A := A) (As := [.int y]) (rest := .ref am :: []) ⟨hx, hb, hml, hown, hts⟩ (mX4_isNone (A := A) ) (va_cwS 1 hts (gS tw_4_203 tw_4_204 tw_1_8 tw_4_205) rfl rfl rfl (by decide +kernel) ⟨Nat.le_of_ble_eq_true rfl, Nat.le_of_ble_eq_true rfl⟩) hC hS hA  trivial rfl rfl hl.1 (Nat.le_of_ble_eq_true rfl) ⟨Nat.zero_le _, Nat.zero_le _⟩ dX4_part_10 (fun r_5 hr_5 => ?_)
    obtain ⟨r_5v, hr_5v, rfl⟩ := hr_5
    refine f_ne (tgt := 25) hx hb dX4_part_13 (by decide) (fun c_6 => ?_) (fun c_6 => ?_)
    · refine lv_iconst (v := nI 1) hx hb dX4_part_25 (by decide) ?_
      refine lv_goto (tgt := 30) hx hb dX4_part_26 (by decide) ?_
      refine lv_iconst (v := nI 1) hx hb dX4_part_30 (by decide) ?_
      refine qI_V (A := A) (A1 := A) (b := am) (As := [.int (bI true), .int (nI 1)]) (rest := []) ⟨hx, hb, hml, hown, hts⟩ (mX4_start (A := A) (X := X) (P := P) (k := k) (xa := xa) (b := true) (w9 := 1) (by decide)) (cwV 2 hts (gV tw_4_206 tw_4_208 sel_X4_start tw_1_8 tw_4_209) rfl rfl rfl (by decide +kernel) ⟨Nat.le_of_ble_eq_true rfl, Nat.le_of_ble_eq_true rfl⟩) hC hS (fun _ h => h) (fun q h => hA q (Nat.le_trans hS.1 h)) (hW.recv hK) ⟨ra, pa, tx, hW⟩ rfl rfl hl.1 (Nat.le_of_ble_eq_true rfl) ⟨Nat.zero_le _, Nat.zero_le _⟩ dX4_part_31 (fun rv7 H7 L7 hP7 hk7 hS => ?_)
      have hZ7 := hS.1
      obtain ⟨hr7, hM7⟩ := hP7
      subst hr7
      obtain ⟨ra, pa, tx, hW⟩ := hM7
      have hW : MWx G A am xa ra pa tx X P k (nI 1) H7 := hW
      have hO := hW.obj
      have hAm := hW.1
      refine f_ne (tgt := 61) hx hb dX4_part_34 (by decide) (fun c_8 => ?_) (fun c_8 => ?_)
      · refine lv_iconst (v := nI 0) hx hb dX4_part_61 (by decide) ?_
        exact q_i hx hb hr hlocks dX4_part_62 hS (by omega) (by omega) (Or.inl ⟨(Or.inr (Or.inl (hr_5v.mp c_6))), rfl, ra, pa, tx, hW⟩)
      · exact absurd c_8 (by decide)
    · obtain ⟨j, hj, rfl⟩ : ∃ j : Nat, j < 4 ∧ y = nI j := Classical.byContradiction (fun q => absurd (hr_5v.mpr q) (by rw [c_6]; decide))
      refine lv_iload_n hx hb dX4_part_16 rfl (lv_at hl 2 rfl) ?_
      have x60i := hW.2.2.1 i (Or.inl (by omega))
      have i60 := x60i.2
      refine lv_if_lt (tgt := 25) hx hb dX4_part_17 (by decide) (fun c_9 => ?_) (fun c_9 => ?_)
      · refine lv_iconst (v := nI 1) hx hb dX4_part_25 (by decide) ?_
        refine lv_goto (tgt := 30) hx hb dX4_part_26 (by decide) ?_
        refine lv_iconst (v := nI 1) hx hb dX4_part_30 (by decide) ?_
        refine qI_V (A := A) (A1 := A) (b := am) (As := [.int (bI true), .int (nI 1)]) (rest := []) ⟨hx, hb, hml, hown, hts⟩ (mX4_start (A := A) (X := X) (P := P) (k := k) (xa := xa) (b := true) (w9 := 1) (by decide)) (cwV 2 hts (gV tw_4_206 tw_4_208 sel_X4_start tw_1_8 tw_4_209) rfl rfl rfl (by decide +kernel) ⟨Nat.le_of_ble_eq_true rfl, Nat.le_of_ble_eq_true rfl⟩) hC hS (fun _ h => h) (fun q h => hA q (Nat.le_trans hS.1 h)) (hW.recv hK) ⟨ra, pa, tx, hW⟩ rfl rfl hl.1 (Nat.le_of_ble_eq_true rfl) ⟨Nat.zero_le _, Nat.zero_le _⟩ dX4_part_31 (fun rv10 H10 L10 hP10 hk10 hS => ?_)
        have hZ10 := hS.1
        obtain ⟨hr10, hM10⟩ := hP10
        subst hr10
        obtain ⟨ra, pa, tx, hW⟩ := hM10
        have hW : MWx G A am xa ra pa tx X P k (nI 1) H10 := hW
        have hO := hW.obj
        have hAm := hW.1
        refine f_ne (tgt := 61) hx hb dX4_part_34 (by decide) (fun c_11 => ?_) (fun c_11 => ?_)
        · refine lv_iconst (v := nI 0) hx hb dX4_part_61 (by decide) ?_
          exact q_i hx hb hr hlocks dX4_part_62 hS (by omega) (by omega) (Or.inl ⟨(Or.inr (Or.inr (fun ⟨i9, a0, b0, w1, w2, w3, w4, w5, w6⟩ => by rw [w3] at c_9; exact nI_pos (by have w7 : i9 = i := (nI_eq (by omega) (by omega)).mp w2.symm; rw [w7] at w6; omega) c_9))), rfl, ra, pa, tx, hW⟩)
        · exact absurd c_11 (by decide)
      · obtain ⟨a9, ha31, rfl⟩ := nI_of c_9
        refine lv_iload_n hx hb dX4_part_20 rfl (lv_at hl 3 rfl) ?_
        refine lv_iload_n hx hb dX4_part_21 rfl (lv_at hl 2 rfl) ?_
        refine lv_icmp_ge (tgt := 29) hx hb dX4_part_22 (by decide) (fun c_12 => ?_) (fun c_12 => ?_)
        · have hb0 : ¬ t9 < 0 := fun q => absurd (Int32.lt_of_lt_of_le q (nI_pos' (n := a9) (by omega))) (Int32.not_lt.mpr c_12)
          obtain ⟨b9, hb31, rfl⟩ := nI_of hb0
          have hab : a9 ≤ b9 := (nI_leI (by omega) (by omega)).mp c_12
          refine lv_iconst (v := nI 0) hx hb dX4_part_29 (by decide) ?_
          refine lv_iconst (v := nI 1) hx hb dX4_part_30 (by decide) ?_
          refine qI_V (A := A) (A1 := A) (b := am) (As := [.int (bI false), .int (nI 1)]) (rest := []) ⟨hx, hb, hml, hown, hts⟩ (mX4_start (A := A) (X := X) (P := P) (k := k) (xa := xa) (b := false) (w9 := 1) (by decide)) (cwV 2 hts (gV tw_4_206 tw_4_208 sel_X4_start tw_1_8 tw_4_209) rfl rfl rfl (by decide +kernel) ⟨Nat.le_of_ble_eq_true rfl, Nat.le_of_ble_eq_true rfl⟩) hC hS (fun _ h => h) (fun q h => hA q (Nat.le_trans hS.1 h)) (hW.recv hK) ⟨ra, pa, tx, hW⟩ rfl rfl hl.1 (Nat.le_of_ble_eq_true rfl) ⟨Nat.zero_le _, Nat.zero_le _⟩ dX4_part_31 (fun rv13 H13 L13 hP13 hk13 hS => ?_)
          have hZ13 := hS.1
          obtain ⟨hr13, hM13⟩ := hP13
          subst hr13
          obtain ⟨ra, pa, tx, hW⟩ := hM13
          have hW : MWx G A am xa ra pa tx X P k (nI 0) H13 := hW
          have hO := hW.obj
          have hAm := hW.1
          refine f_ne (tgt := 61) hx hb dX4_part_34 (by decide) (fun c_14 => ?_) (fun c_14 => ?_)
          · exact absurd c_14 (by decide)
          · refine lv_aload_n hx hb dX4_part_37 rfl (lv_at hl 0 rfl) ?_
            refine lv_iload_n hx hb dX4_part_38 rfl (lv_at hl 3 rfl) ?_
            refine lv_aload_n hx hb dX4_part_39 rfl (lv_at hl 0 rfl) ?_
            refine va_get (D := G.1) (ci := 8) (C := RX4) (T := TX4) (N := 5) hx hb hts inX4 hown hK (at_P hO) 0 rfl rfl 1 (by decide) (hts _ tw_4_173) (fun _ h9 => h9) rfl dX4_part_40 ?_
            refine lv_iload_n hx hb dX4_part_43 rfl (lv_at hl 1 rfl) ?_
            refine h_aaldI (D := G.1) hx hb hK 4 hW.txs rfl (vp_in_nI (n := i) (N := 4) (by omega) (by omega)) dX4_part_44 ?_
            refine v_cv (show va_rf _ = .ref (tx i) from by rw [nI_clamp (n := i) (by omega)]; rfl) ?_
            have hTi := (hW.tx (j := i) (by omega)).ia hC.2.1.2
            have x60i := hW.2.2.1 i (Or.inl (by omega))
            refine h_ilen hx hb hC.2.1 hTi dX4_part_45 ?_
            refine b_le (tgt := 53) hx hb dX4_part_46 (by decide) (by omega) (by omega) (fun c_15 => ?_) (fun c_15 => ?_)
            · refine lv_iconst (v := nI 0) hx hb dX4_part_53 (by decide) ?_
              refine lv_iconst (v := nI 1) hx hb dX4_part_54 (by decide) ?_
              refine qI_V (A := A) (A1 := A) (b := am) (As := [.int (bI false), .int (nI 1)]) (rest := []) ⟨hx, hb, hml, hown, hts⟩ (mX4_refuse (A := A) (X := X) (P := P) (k := k) (xa := xa) (b := false) (th := 0) (w9 := 1) (by decide) (by decide)) (cwV 2 hts (gV tw_4_210 tw_4_212 sel_X4_refuse tw_1_8 tw_4_213) rfl rfl rfl (by decide +kernel) ⟨Nat.le_of_ble_eq_true rfl, Nat.le_of_ble_eq_true rfl⟩) hC hS (fun _ h => h) (fun q h => hA q (Nat.le_trans hS.1 h)) (hW.recv hK) ⟨ra, pa, tx, hW⟩ rfl rfl hl.1 (Nat.le_of_ble_eq_true rfl) ⟨Nat.zero_le _, Nat.zero_le _⟩ dX4_part_55 (fun rv16 H16 L16 hP16 hk16 hS => ?_)
              have hZ16 := hS.1
              obtain ⟨hr16, hM16⟩ := hP16
              subst hr16
              obtain ⟨ra, pa, tx, hW⟩ := hM16
              have hW : MWx G A am xa ra pa tx X P k (nI 0) H16 := hW
              have hO := hW.obj
              have hAm := hW.1
              refine f_eq (tgt := 63) hx hb dX4_part_58 (by decide) (fun c_17 => ?_) (fun c_17 => ?_)
              · refine lv_aload_n hx hb dX4_part_63 rfl (lv_at hl 0 rfl) ?_
                refine lv_iload hx hb dX4_part_64 (lv_at hl 4 rfl) ?_
                refine lv_aload_n hx hb dX4_part_66 rfl (lv_at hl 0 rfl) ?_
                refine va_get (D := G.1) (ci := 8) (C := RX4) (T := TX4) (N := 5) hx hb hts inX4 hown hK (at_P hO) 0 rfl rfl 1 (by decide) (hts _ tw_4_173) (fun _ h9 => h9) rfl dX4_part_67 ?_
                refine lv_iload_n hx hb dX4_part_70 rfl (lv_at hl 1 rfl) ?_
                refine h_aaldI (D := G.1) hx hb hK 4 hW.txs rfl (vp_in_nI (n := i) (N := 4) (by omega) (by omega)) dX4_part_71 ?_
                refine v_cv (show va_rf _ = .ref (tx i) from by rw [nI_clamp (n := i) (by omega)]; rfl) ?_
                have hTi := (hW.tx (j := i) (by omega)).ia hC.2.1.2
                have x60i := hW.2.2.1 i (Or.inl (by omega))
                refine lv_iload_n hx hb dX4_part_72 rfl (lv_at hl 2 rfl) ?_
                refine lv_iload_n hx hb dX4_part_73 rfl (lv_at hl 3 rfl) ?_
                have hra := hW.row.lt
                refine qR_S (A := A) (A1 := nw H16.size)  (As := [.ref (tx i), .int (nI a9), .int (nI b9)]) (rest := .int (nI j) :: .ref am :: []) ⟨hx, hb, hml, hown, hts⟩ (mX4_cut (A := nw H16.size) (sz := H16.size) (t := X i) (i := a9) (i2 := b9) hab c_15 (by omega)) (va_cwS 3 hts (gS tw_4_226 tw_4_227 tw_1_8 tw_4_228) rfl rfl rfl (by decide +kernel) ⟨Nat.le_of_ble_eq_true rfl, Nat.le_of_ble_eq_true rfl⟩) hC hS (nw_in hA hS.1) nw_n  ⟨rfl, hTi⟩ rfl rfl hl.1 (Nat.le_of_ble_eq_true rfl) ⟨Nat.le_trans (show 0 + 1 ≤ 1 by omega) (Nat.le_of_ble_eq_true rfl), Nat.le_trans (show 0 + 61 ≤ 61 by omega) (Nat.le_of_ble_eq_true rfl)⟩ dX4_part_74 (fun rv18 H18 L18 hP18 hk18 hS => ?_)
                have hZ18 := hS.1
                have hW := hW.nw hk18
                refine qI_V (A := A) (A1 := A) (b := am) (As := [.int (nI j), .ref rv18]) (rest := []) ⟨hx, hb, hml, hown, hts⟩ (mX4_become (A := A) (X := X) (P := P) (k := k) (xa := xa) (t := cutL (X i) a9 b9) hj ⟨okc_cut x60i.1 _ _, Nat.le_trans (cutL_le _ _ _) x60i.2⟩) (cwV 2 hts (gV tw_4_214 tw_4_216 sel_X4_become tw_1_8 tw_4_217) rfl rfl rfl (by decide +kernel) ⟨Nat.le_of_ble_eq_true rfl, Nat.le_of_ble_eq_true rfl⟩) hC hS (fun _ h => h) (fun q h => hA q (Nat.le_trans hS.1 h)) (hW.recv hK) ⟨ra, pa, tx, hW, hP18.2, (by have := hP18.1; omega)⟩ rfl rfl hl.1 (Nat.le_of_ble_eq_true rfl) ⟨Nat.le_trans (show (0 + 1) ≤ 1 by omega) (Nat.le_of_ble_eq_true rfl), Nat.le_trans (show (0 + 61) ≤ 61 by omega) (Nat.le_of_ble_eq_true rfl)⟩ dX4_part_77 (fun rv19 H19 L19 hP19 hk19 hS => ?_)
                have hZ19 := hS.1
                exact q_i hx hb hr hlocks dX4_part_80 hS (by omega) (by omega) (Or.inr (⟨i, j, a9, b9, hi, rfl, hj, rfl, rfl, rfl, hab, c_15, hP19.1, hP19.2⟩))
              · exact absurd c_17 (by decide)
            · refine lv_iconst (v := nI 1) hx hb dX4_part_49 (by decide) ?_
              refine lv_goto (tgt := 54) hx hb dX4_part_50 (by decide) ?_
              refine lv_iconst (v := nI 1) hx hb dX4_part_54 (by decide) ?_
              refine qI_V (A := A) (A1 := A) (b := am) (As := [.int (bI true), .int (nI 1)]) (rest := []) ⟨hx, hb, hml, hown, hts⟩ (mX4_refuse (A := A) (X := X) (P := P) (k := k) (xa := xa) (b := true) (th := 0) (w9 := 1) (by decide) (by decide)) (cwV 2 hts (gV tw_4_210 tw_4_212 sel_X4_refuse tw_1_8 tw_4_213) rfl rfl rfl (by decide +kernel) ⟨Nat.le_of_ble_eq_true rfl, Nat.le_of_ble_eq_true rfl⟩) hC hS (fun _ h => h) (fun q h => hA q (Nat.le_trans hS.1 h)) (hW.recv hK) ⟨ra, pa, tx, hW⟩ rfl rfl hl.1 (Nat.le_of_ble_eq_true rfl) ⟨Nat.zero_le _, Nat.zero_le _⟩ dX4_part_55 (fun rv20 H20 L20 hP20 hk20 hS => ?_)
              have hZ20 := hS.1
              obtain ⟨hr20, hM20⟩ := hP20
              subst hr20
              obtain ⟨ra, pa, tx, hW⟩ := hM20
              have hW : MWx G A am xa ra pa tx X P k (nI 1) H20 := hW
              have hO := hW.obj
              have hAm := hW.1
              refine f_eq (tgt := 63) hx hb dX4_part_58 (by decide) (fun c_21 => ?_) (fun c_21 => ?_)
              · exact absurd c_21 (by decide)
              · refine lv_iconst (v := nI 0) hx hb dX4_part_61 (by decide) ?_
                exact q_i hx hb hr hlocks dX4_part_62 hS (by omega) (by omega) (Or.inl ⟨(Or.inr (Or.inr (fun ⟨i9, a0, b0, w1, w2, w3, w4, w5, w6⟩ => by have w7 : i9 = i := (nI_eq (by omega) (by omega)).mp w2.symm; rw [w7] at w6; have w8 : b0 = b9 := (nI_eq (by omega) (by omega)).mp w4.symm; omega))), rfl, ra, pa, tx, hW⟩)
        · refine lv_iconst (v := nI 1) hx hb dX4_part_25 (by decide) ?_
          refine lv_goto (tgt := 30) hx hb dX4_part_26 (by decide) ?_
          refine lv_iconst (v := nI 1) hx hb dX4_part_30 (by decide) ?_
          refine qI_V (A := A) (A1 := A) (b := am) (As := [.int (bI true), .int (nI 1)]) (rest := []) ⟨hx, hb, hml, hown, hts⟩ (mX4_start (A := A) (X := X) (P := P) (k := k) (xa := xa) (b := true) (w9 := 1) (by decide)) (cwV 2 hts (gV tw_4_206 tw_4_208 sel_X4_start tw_1_8 tw_4_209) rfl rfl rfl (by decide +kernel) ⟨Nat.le_of_ble_eq_true rfl, Nat.le_of_ble_eq_true rfl⟩) hC hS (fun _ h => h) (fun q h => hA q (Nat.le_trans hS.1 h)) (hW.recv hK) ⟨ra, pa, tx, hW⟩ rfl rfl hl.1 (Nat.le_of_ble_eq_true rfl) ⟨Nat.zero_le _, Nat.zero_le _⟩ dX4_part_31 (fun rv22 H22 L22 hP22 hk22 hS => ?_)
          have hZ22 := hS.1
          obtain ⟨hr22, hM22⟩ := hP22
          subst hr22
          obtain ⟨ra, pa, tx, hW⟩ := hM22
          have hW : MWx G A am xa ra pa tx X P k (nI 1) H22 := hW
          have hO := hW.obj
          have hAm := hW.1
          refine f_ne (tgt := 61) hx hb dX4_part_34 (by decide) (fun c_23 => ?_) (fun c_23 => ?_)
          · refine lv_iconst (v := nI 0) hx hb dX4_part_61 (by decide) ?_
            exact q_i hx hb hr hlocks dX4_part_62 hS (by omega) (by omega) (Or.inl ⟨(Or.inr (Or.inr (fun ⟨i9, a0, b0, w1, w2, w3, w4, w5, w6⟩ => by rw [w3, w4] at c_12; exact c_12 (nI_le w5 (by have w7 : i9 = i := (nI_eq (by omega) (by omega)).mp w2.symm; rw [w7] at w6; omega))))), rfl, ra, pa, tx, hW⟩)
          · exact absurd c_23 (by decide)

abbrev rmX4_tail : Room := { frames := 3, cells := 1, slots := 61, locals := 64 }
theorem mX4_tail {l : Launch} {G : Cx} {A : Nat → Prop} {am xa : Nat} {X : Nat → List Nat} {P : List (List Nat)} {k : Int32} {x f9 y th : Int32} : Met l yX4_tail (.code yX4_tail cX4_tail 4 (some .int) :: GW) rmX4_tail (PC G A [.ref am, .int x, .int f9, .int y] (MW G A am xa X P k th)) (qI A (fun r H => ((NT x ∨ NT y ∨ ¬ (∃ i a9 : Nat, i < 4 ∧ x = nI i ∧ f9 = nI a9 ∧ a9 ≤ (X i).length)) ∧ r = 0 ∧ MW G A am xa X P k 1 H) ∨ ∃ i j a9 : Nat, i < 4 ∧ x = nI i ∧ j < 4 ∧ y = nI j ∧ f9 = nI a9 ∧ a9 ≤ (X i).length ∧ r = nI (cutL (X i) a9 (X i).length).length ∧ MW G A am xa (updT X j (cutL (X i) a9 (X i).length)) P k 0 H)) 1 61 (A) := by
  refine mstart "SigntextModel" (by decide +kernel) rfl (Nat.le_of_ble_eq_true rfl) ?_
  intro p e s m below meth c ls hx hb hr hts hown hml hlocks hname hC hA hW hl
  have hl : lv_has ls 4 [(0, .ref am), (1, .int x), (2, .int f9), (3, .int y)] := hl
  have hK := hC.1
  have hS : va_S A s.heap s.heap [] := va_S.rf
  obtain ⟨ra, pa, tx, hW⟩ := hW
  have hO := hW.obj
  have hAm := hW.1
  refine lv_aload_n hx hb dX4_tail_0 rfl (lv_at hl 0 rfl) ?_
  refine lv_iload_n hx hb dX4_tail_1 rfl (lv_at hl 1 rfl) ?_
  refine kS_i (A := A) (As := [.int x]) (rest := .ref am :: []) ⟨hx, hb, hml, hown, hts⟩ (mX4_isNone (A := A) ) (va_cwS 1 hts (gS tw_4_203 tw_4_204 tw_1_8 tw_4_205) rfl rfl rfl (by decide +kernel) ⟨Nat.le_of_ble_eq_true rfl, Nat.le_of_ble_eq_true rfl⟩) hC hS hA  trivial rfl rfl hl.1 (Nat.le_of_ble_eq_true rfl) ⟨Nat.zero_le _, Nat.zero_le _⟩ dX4_tail_2 (fun r_24 hr_24 => ?_)
  obtain ⟨r_24v, hr_24v, rfl⟩ := hr_24
  refine f_ne (tgt := 19) hx hb dX4_tail_5 (by decide) (fun c_25 => ?_) (fun c_25 => ?_)
  · refine lv_iconst (v := nI 1) hx hb dX4_tail_19 (by decide) ?_
    refine lv_goto (tgt := 24) hx hb dX4_tail_20 (by decide) ?_
    refine lv_iconst (v := nI 1) hx hb dX4_tail_24 (by decide) ?_
    refine qI_V (A := A) (A1 := A) (b := am) (As := [.int (bI true), .int (nI 1)]) (rest := []) ⟨hx, hb, hml, hown, hts⟩ (mX4_start (A := A) (X := X) (P := P) (k := k) (xa := xa) (b := true) (w9 := 1) (by decide)) (cwV 2 hts (gV tw_4_206 tw_4_208 sel_X4_start tw_1_8 tw_4_209) rfl rfl rfl (by decide +kernel) ⟨Nat.le_of_ble_eq_true rfl, Nat.le_of_ble_eq_true rfl⟩) hC hS (fun _ h => h) (fun q h => hA q (Nat.le_trans hS.1 h)) (hW.recv hK) ⟨ra, pa, tx, hW⟩ rfl rfl hl.1 (Nat.le_of_ble_eq_true rfl) ⟨Nat.zero_le _, Nat.zero_le _⟩ dX4_tail_25 (fun rv26 H26 L26 hP26 hk26 hS => ?_)
    have hZ26 := hS.1
    obtain ⟨hr26, hM26⟩ := hP26
    subst hr26
    obtain ⟨ra, pa, tx, hW⟩ := hM26
    have hW : MWx G A am xa ra pa tx X P k (nI 1) H26 := hW
    have hO := hW.obj
    have hAm := hW.1
    refine f_ne (tgt := 55) hx hb dX4_tail_28 (by decide) (fun c_27 => ?_) (fun c_27 => ?_)
    · refine lv_iconst (v := nI 0) hx hb dX4_tail_55 (by decide) ?_
      exact q_i hx hb hr hlocks dX4_tail_56 hS (by omega) (by omega) (Or.inl ⟨(Or.inl (hr_24v.mp c_25)), rfl, ra, pa, tx, hW⟩)
    · exact absurd c_27 (by decide)
  · obtain ⟨i, hi, rfl⟩ : ∃ i : Nat, i < 4 ∧ x = nI i := Classical.byContradiction (fun q => absurd (hr_24v.mpr q) (by rw [c_25]; decide))
    refine lv_iload_n hx hb dX4_tail_8 rfl (lv_at hl 3 rfl) ?_
    refine kS_i (A := A) (As := [.int y]) (rest := .ref am :: []) ⟨hx, hb, hml, hown, hts⟩ (mX4_isNone (A := A) ) (va_cwS 1 hts (gS tw_4_203 tw_4_204 tw_1_8 tw_4_205) rfl rfl rfl (by decide +kernel) ⟨Nat.le_of_ble_eq_true rfl, Nat.le_of_ble_eq_true rfl⟩) hC hS hA  trivial rfl rfl hl.1 (Nat.le_of_ble_eq_true rfl) ⟨Nat.zero_le _, Nat.zero_le _⟩ dX4_tail_9 (fun r_28 hr_28 => ?_)
    obtain ⟨r_28v, hr_28v, rfl⟩ := hr_28
    refine f_ne (tgt := 19) hx hb dX4_tail_12 (by decide) (fun c_29 => ?_) (fun c_29 => ?_)
    · refine lv_iconst (v := nI 1) hx hb dX4_tail_19 (by decide) ?_
      refine lv_goto (tgt := 24) hx hb dX4_tail_20 (by decide) ?_
      refine lv_iconst (v := nI 1) hx hb dX4_tail_24 (by decide) ?_
      refine qI_V (A := A) (A1 := A) (b := am) (As := [.int (bI true), .int (nI 1)]) (rest := []) ⟨hx, hb, hml, hown, hts⟩ (mX4_start (A := A) (X := X) (P := P) (k := k) (xa := xa) (b := true) (w9 := 1) (by decide)) (cwV 2 hts (gV tw_4_206 tw_4_208 sel_X4_start tw_1_8 tw_4_209) rfl rfl rfl (by decide +kernel) ⟨Nat.le_of_ble_eq_true rfl, Nat.le_of_ble_eq_true rfl⟩) hC hS (fun _ h => h) (fun q h => hA q (Nat.le_trans hS.1 h)) (hW.recv hK) ⟨ra, pa, tx, hW⟩ rfl rfl hl.1 (Nat.le_of_ble_eq_true rfl) ⟨Nat.zero_le _, Nat.zero_le _⟩ dX4_tail_25 (fun rv30 H30 L30 hP30 hk30 hS => ?_)
      have hZ30 := hS.1
      obtain ⟨hr30, hM30⟩ := hP30
      subst hr30
      obtain ⟨ra, pa, tx, hW⟩ := hM30
      have hW : MWx G A am xa ra pa tx X P k (nI 1) H30 := hW
      have hO := hW.obj
      have hAm := hW.1
      refine f_ne (tgt := 55) hx hb dX4_tail_28 (by decide) (fun c_31 => ?_) (fun c_31 => ?_)
      · refine lv_iconst (v := nI 0) hx hb dX4_tail_55 (by decide) ?_
        exact q_i hx hb hr hlocks dX4_tail_56 hS (by omega) (by omega) (Or.inl ⟨(Or.inr (Or.inl (hr_28v.mp c_29))), rfl, ra, pa, tx, hW⟩)
      · exact absurd c_31 (by decide)
    · obtain ⟨j, hj, rfl⟩ : ∃ j : Nat, j < 4 ∧ y = nI j := Classical.byContradiction (fun q => absurd (hr_28v.mpr q) (by rw [c_29]; decide))
      refine lv_iload_n hx hb dX4_tail_15 rfl (lv_at hl 2 rfl) ?_
      have x60i := hW.2.2.1 i (Or.inl (by omega))
      have i60 := x60i.2
      refine lv_if_ge (tgt := 23) hx hb dX4_tail_16 (by decide) (fun c_32 => ?_) (fun c_32 => ?_)
      · have hf0 : ¬ f9 < 0 := Int32.not_lt.mpr c_32
        obtain ⟨a9, ha31, rfl⟩ := nI_of hf0
        refine lv_iconst (v := nI 0) hx hb dX4_tail_23 (by decide) ?_
        refine lv_iconst (v := nI 1) hx hb dX4_tail_24 (by decide) ?_
        refine qI_V (A := A) (A1 := A) (b := am) (As := [.int (bI false), .int (nI 1)]) (rest := []) ⟨hx, hb, hml, hown, hts⟩ (mX4_start (A := A) (X := X) (P := P) (k := k) (xa := xa) (b := false) (w9 := 1) (by decide)) (cwV 2 hts (gV tw_4_206 tw_4_208 sel_X4_start tw_1_8 tw_4_209) rfl rfl rfl (by decide +kernel) ⟨Nat.le_of_ble_eq_true rfl, Nat.le_of_ble_eq_true rfl⟩) hC hS (fun _ h => h) (fun q h => hA q (Nat.le_trans hS.1 h)) (hW.recv hK) ⟨ra, pa, tx, hW⟩ rfl rfl hl.1 (Nat.le_of_ble_eq_true rfl) ⟨Nat.zero_le _, Nat.zero_le _⟩ dX4_tail_25 (fun rv33 H33 L33 hP33 hk33 hS => ?_)
        have hZ33 := hS.1
        obtain ⟨hr33, hM33⟩ := hP33
        subst hr33
        obtain ⟨ra, pa, tx, hW⟩ := hM33
        have hW : MWx G A am xa ra pa tx X P k (nI 0) H33 := hW
        have hO := hW.obj
        have hAm := hW.1
        refine f_ne (tgt := 55) hx hb dX4_tail_28 (by decide) (fun c_34 => ?_) (fun c_34 => ?_)
        · exact absurd c_34 (by decide)
        · refine lv_aload_n hx hb dX4_tail_31 rfl (lv_at hl 0 rfl) ?_
          refine lv_iload_n hx hb dX4_tail_32 rfl (lv_at hl 2 rfl) ?_
          refine lv_aload_n hx hb dX4_tail_33 rfl (lv_at hl 0 rfl) ?_
          refine va_get (D := G.1) (ci := 8) (C := RX4) (T := TX4) (N := 5) hx hb hts inX4 hown hK (at_P hO) 0 rfl rfl 1 (by decide) (hts _ tw_4_173) (fun _ h9 => h9) rfl dX4_tail_34 ?_
          refine lv_iload_n hx hb dX4_tail_37 rfl (lv_at hl 1 rfl) ?_
          refine h_aaldI (D := G.1) hx hb hK 4 hW.txs rfl (vp_in_nI (n := i) (N := 4) (by omega) (by omega)) dX4_tail_38 ?_
          refine v_cv (show va_rf _ = .ref (tx i) from by rw [nI_clamp (n := i) (by omega)]; rfl) ?_
          have hTi := (hW.tx (j := i) (by omega)).ia hC.2.1.2
          have x60i := hW.2.2.1 i (Or.inl (by omega))
          refine h_ilen hx hb hC.2.1 hTi dX4_tail_39 ?_
          refine b_le (tgt := 47) hx hb dX4_tail_40 (by decide) (by omega) (by omega) (fun c_35 => ?_) (fun c_35 => ?_)
          · refine lv_iconst (v := nI 0) hx hb dX4_tail_47 (by decide) ?_
            refine lv_iconst (v := nI 1) hx hb dX4_tail_48 (by decide) ?_
            refine qI_V (A := A) (A1 := A) (b := am) (As := [.int (bI false), .int (nI 1)]) (rest := []) ⟨hx, hb, hml, hown, hts⟩ (mX4_refuse (A := A) (X := X) (P := P) (k := k) (xa := xa) (b := false) (th := 0) (w9 := 1) (by decide) (by decide)) (cwV 2 hts (gV tw_4_210 tw_4_212 sel_X4_refuse tw_1_8 tw_4_213) rfl rfl rfl (by decide +kernel) ⟨Nat.le_of_ble_eq_true rfl, Nat.le_of_ble_eq_true rfl⟩) hC hS (fun _ h => h) (fun q h => hA q (Nat.le_trans hS.1 h)) (hW.recv hK) ⟨ra, pa, tx, hW⟩ rfl rfl hl.1 (Nat.le_of_ble_eq_true rfl) ⟨Nat.zero_le _, Nat.zero_le _⟩ dX4_tail_49 (fun rv36 H36 L36 hP36 hk36 hS => ?_)
            have hZ36 := hS.1
            obtain ⟨hr36, hM36⟩ := hP36
            subst hr36
            obtain ⟨ra, pa, tx, hW⟩ := hM36
            have hW : MWx G A am xa ra pa tx X P k (nI 0) H36 := hW
            have hO := hW.obj
            have hAm := hW.1
            refine f_eq (tgt := 57) hx hb dX4_tail_52 (by decide) (fun c_37 => ?_) (fun c_37 => ?_)
            · refine lv_aload_n hx hb dX4_tail_57 rfl (lv_at hl 0 rfl) ?_
              refine lv_iload_n hx hb dX4_tail_58 rfl (lv_at hl 3 rfl) ?_
              refine lv_aload_n hx hb dX4_tail_59 rfl (lv_at hl 0 rfl) ?_
              refine va_get (D := G.1) (ci := 8) (C := RX4) (T := TX4) (N := 5) hx hb hts inX4 hown hK (at_P hO) 0 rfl rfl 1 (by decide) (hts _ tw_4_173) (fun _ h9 => h9) rfl dX4_tail_60 ?_
              refine lv_iload_n hx hb dX4_tail_63 rfl (lv_at hl 1 rfl) ?_
              refine h_aaldI (D := G.1) hx hb hK 4 hW.txs rfl (vp_in_nI (n := i) (N := 4) (by omega) (by omega)) dX4_tail_64 ?_
              refine v_cv (show va_rf _ = .ref (tx i) from by rw [nI_clamp (n := i) (by omega)]; rfl) ?_
              have hTi := (hW.tx (j := i) (by omega)).ia hC.2.1.2
              have x60i := hW.2.2.1 i (Or.inl (by omega))
              refine lv_iload_n hx hb dX4_tail_65 rfl (lv_at hl 2 rfl) ?_
              refine lv_aload_n hx hb dX4_tail_66 rfl (lv_at hl 0 rfl) ?_
              refine va_get (D := G.1) (ci := 8) (C := RX4) (T := TX4) (N := 5) hx hb hts inX4 hown hK (at_P hO) 0 rfl rfl 1 (by decide) (hts _ tw_4_173) (fun _ h9 => h9) rfl dX4_tail_67 ?_
              refine lv_iload_n hx hb dX4_tail_70 rfl (lv_at hl 1 rfl) ?_
              refine h_aaldI (D := G.1) hx hb hK 4 hW.txs rfl (vp_in_nI (n := i) (N := 4) (by omega) (by omega)) dX4_tail_71 ?_
              refine v_cv (show va_rf _ = .ref (tx i) from by rw [nI_clamp (n := i) (by omega)]; rfl) ?_
              refine h_ilen hx hb hC.2.1 hTi dX4_tail_72 ?_
              have hra := hW.row.lt
              refine qR_S (A := A) (A1 := nw H36.size)  (As := [.ref (tx i), .int (nI a9), .int (nI ((X i).length))]) (rest := .int (nI j) :: .ref am :: []) ⟨hx, hb, hml, hown, hts⟩ (mX4_cut (A := nw H36.size) (sz := H36.size) (t := X i) (i := a9) (i2 := (X i).length) c_35 (Nat.le_refl _) (by omega)) (va_cwS 3 hts (gS tw_4_226 tw_4_227 tw_1_8 tw_4_228) rfl rfl rfl (by decide +kernel) ⟨Nat.le_of_ble_eq_true rfl, Nat.le_of_ble_eq_true rfl⟩) hC hS (nw_in hA hS.1) nw_n  ⟨rfl, hTi⟩ rfl rfl hl.1 (Nat.le_of_ble_eq_true rfl) ⟨Nat.le_trans (show 0 + 1 ≤ 1 by omega) (Nat.le_of_ble_eq_true rfl), Nat.le_trans (show 0 + 61 ≤ 61 by omega) (Nat.le_of_ble_eq_true rfl)⟩ dX4_tail_73 (fun rv38 H38 L38 hP38 hk38 hS => ?_)
              have hZ38 := hS.1
              have hW := hW.nw hk38
              refine qI_V (A := A) (A1 := A) (b := am) (As := [.int (nI j), .ref rv38]) (rest := []) ⟨hx, hb, hml, hown, hts⟩ (mX4_become (A := A) (X := X) (P := P) (k := k) (xa := xa) (t := cutL (X i) a9 (X i).length) hj ⟨okc_cut x60i.1 _ _, Nat.le_trans (cutL_le _ _ _) x60i.2⟩) (cwV 2 hts (gV tw_4_214 tw_4_216 sel_X4_become tw_1_8 tw_4_217) rfl rfl rfl (by decide +kernel) ⟨Nat.le_of_ble_eq_true rfl, Nat.le_of_ble_eq_true rfl⟩) hC hS (fun _ h => h) (fun q h => hA q (Nat.le_trans hS.1 h)) (hW.recv hK) ⟨ra, pa, tx, hW, hP38.2, (by have := hP38.1; omega)⟩ rfl rfl hl.1 (Nat.le_of_ble_eq_true rfl) ⟨Nat.le_trans (show (0 + 1) ≤ 1 by omega) (Nat.le_of_ble_eq_true rfl), Nat.le_trans (show (0 + 61) ≤ 61 by omega) (Nat.le_of_ble_eq_true rfl)⟩ dX4_tail_76 (fun rv39 H39 L39 hP39 hk39 hS => ?_)
              have hZ39 := hS.1
              exact q_i hx hb hr hlocks dX4_tail_79 hS (by omega) (by omega) (Or.inr (⟨i, j, a9, hi, rfl, hj, rfl, rfl, c_35, hP39.1, hP39.2⟩))
            · exact absurd c_37 (by decide)
          · refine lv_iconst (v := nI 1) hx hb dX4_tail_43 (by decide) ?_
            refine lv_goto (tgt := 48) hx hb dX4_tail_44 (by decide) ?_
            refine lv_iconst (v := nI 1) hx hb dX4_tail_48 (by decide) ?_
            refine qI_V (A := A) (A1 := A) (b := am) (As := [.int (bI true), .int (nI 1)]) (rest := []) ⟨hx, hb, hml, hown, hts⟩ (mX4_refuse (A := A) (X := X) (P := P) (k := k) (xa := xa) (b := true) (th := 0) (w9 := 1) (by decide) (by decide)) (cwV 2 hts (gV tw_4_210 tw_4_212 sel_X4_refuse tw_1_8 tw_4_213) rfl rfl rfl (by decide +kernel) ⟨Nat.le_of_ble_eq_true rfl, Nat.le_of_ble_eq_true rfl⟩) hC hS (fun _ h => h) (fun q h => hA q (Nat.le_trans hS.1 h)) (hW.recv hK) ⟨ra, pa, tx, hW⟩ rfl rfl hl.1 (Nat.le_of_ble_eq_true rfl) ⟨Nat.zero_le _, Nat.zero_le _⟩ dX4_tail_49 (fun rv40 H40 L40 hP40 hk40 hS => ?_)
            have hZ40 := hS.1
            obtain ⟨hr40, hM40⟩ := hP40
            subst hr40
            obtain ⟨ra, pa, tx, hW⟩ := hM40
            have hW : MWx G A am xa ra pa tx X P k (nI 1) H40 := hW
            have hO := hW.obj
            have hAm := hW.1
            refine f_eq (tgt := 57) hx hb dX4_tail_52 (by decide) (fun c_41 => ?_) (fun c_41 => ?_)
            · exact absurd c_41 (by decide)
            · refine lv_iconst (v := nI 0) hx hb dX4_tail_55 (by decide) ?_
              exact q_i hx hb hr hlocks dX4_tail_56 hS (by omega) (by omega) (Or.inl ⟨(Or.inr (Or.inr (fun ⟨i9, a0, w1, w2, w3, w6⟩ => by have w7 : i9 = i := (nI_eq (by omega) (by omega)).mp w2.symm; rw [w7] at w6; have w8 : a0 = a9 := (nI_eq (by omega) (by omega)).mp w3.symm; omega))), rfl, ra, pa, tx, hW⟩)
      · refine lv_iconst (v := nI 1) hx hb dX4_tail_19 (by decide) ?_
        refine lv_goto (tgt := 24) hx hb dX4_tail_20 (by decide) ?_
        refine lv_iconst (v := nI 1) hx hb dX4_tail_24 (by decide) ?_
        refine qI_V (A := A) (A1 := A) (b := am) (As := [.int (bI true), .int (nI 1)]) (rest := []) ⟨hx, hb, hml, hown, hts⟩ (mX4_start (A := A) (X := X) (P := P) (k := k) (xa := xa) (b := true) (w9 := 1) (by decide)) (cwV 2 hts (gV tw_4_206 tw_4_208 sel_X4_start tw_1_8 tw_4_209) rfl rfl rfl (by decide +kernel) ⟨Nat.le_of_ble_eq_true rfl, Nat.le_of_ble_eq_true rfl⟩) hC hS (fun _ h => h) (fun q h => hA q (Nat.le_trans hS.1 h)) (hW.recv hK) ⟨ra, pa, tx, hW⟩ rfl rfl hl.1 (Nat.le_of_ble_eq_true rfl) ⟨Nat.zero_le _, Nat.zero_le _⟩ dX4_tail_25 (fun rv42 H42 L42 hP42 hk42 hS => ?_)
        have hZ42 := hS.1
        obtain ⟨hr42, hM42⟩ := hP42
        subst hr42
        obtain ⟨ra, pa, tx, hW⟩ := hM42
        have hW : MWx G A am xa ra pa tx X P k (nI 1) H42 := hW
        have hO := hW.obj
        have hAm := hW.1
        refine f_ne (tgt := 55) hx hb dX4_tail_28 (by decide) (fun c_43 => ?_) (fun c_43 => ?_)
        · refine lv_iconst (v := nI 0) hx hb dX4_tail_55 (by decide) ?_
          exact q_i hx hb hr hlocks dX4_tail_56 hS (by omega) (by omega) (Or.inl ⟨(Or.inr (Or.inr (fun ⟨i9, a0, w1, w2, w3, w6⟩ => by rw [w3] at c_32; exact c_32 (nI_pos' (by have w7 : i9 = i := (nI_eq (by omega) (by omega)).mp w2.symm; rw [w7] at w6; omega))))), rfl, ra, pa, tx, hW⟩)
        · exact absurd c_43 (by decide)

abbrev rmX4_join : Room := { frames := 3, cells := 1, slots := 61, locals := 64 }
theorem mX4_join {l : Launch} {G : Cx} {A : Nat → Prop} {am xa : Nat} {X : Nat → List Nat} {P : List (List Nat)} {k : Int32} {x y z th : Int32} : Met l yX4_join (.code yX4_join cX4_join 4 (some .int) :: GW) rmX4_join (PC G A [.ref am, .int x, .int y, .int z] (MW G A am xa X P k th)) (qI A (fun r H => ((NT x ∨ NT y ∨ NT z) ∧ r = 0 ∧ MW G A am xa X P k 1 H) ∨ ((∃ i j q : Nat, i < 4 ∧ x = nI i ∧ j < 4 ∧ y = nI j ∧ q < 4 ∧ z = nI q ∧ 60 < (X i ++ X j).length) ∧ r = 0 ∧ MW G A am xa X P k 2 H) ∨ ∃ i j q : Nat, i < 4 ∧ x = nI i ∧ j < 4 ∧ y = nI j ∧ q < 4 ∧ z = nI q ∧ (X i ++ X j).length ≤ 60 ∧ r = nI (X i ++ X j).length ∧ MW G A am xa (updT X q (X i ++ X j)) P k 0 H)) 1 61 (A) := by
  refine mstart "SigntextModel" (by decide +kernel) rfl (Nat.le_of_ble_eq_true rfl) ?_
  intro p e s m below meth c ls hx hb hr hts hown hml hlocks hname hC hA hW hl
  have hl : lv_has ls 4 [(0, .ref am), (1, .int x), (2, .int y), (3, .int z)] := hl
  have hK := hC.1
  have hS : va_S A s.heap s.heap [] := va_S.rf
  obtain ⟨ra, pa, tx, hW⟩ := hW
  have hO := hW.obj
  have hAm := hW.1
  refine lv_aload_n hx hb dX4_join_0 rfl (lv_at hl 0 rfl) ?_
  refine lv_iload_n hx hb dX4_join_1 rfl (lv_at hl 1 rfl) ?_
  refine kS_i (A := A) (As := [.int x]) (rest := .ref am :: []) ⟨hx, hb, hml, hown, hts⟩ (mX4_isNone (A := A) ) (va_cwS 1 hts (gS tw_4_203 tw_4_204 tw_1_8 tw_4_205) rfl rfl rfl (by decide +kernel) ⟨Nat.le_of_ble_eq_true rfl, Nat.le_of_ble_eq_true rfl⟩) hC hS hA  trivial rfl rfl hl.1 (Nat.le_of_ble_eq_true rfl) ⟨Nat.zero_le _, Nat.zero_le _⟩ dX4_join_2 (fun r_44 hr_44 => ?_)
  obtain ⟨r_44v, hr_44v, rfl⟩ := hr_44
  refine f_ne (tgt := 22) hx hb dX4_join_5 (by decide) (fun c_45 => ?_) (fun c_45 => ?_)
  · refine lv_iconst (v := nI 1) hx hb dX4_join_22 (by decide) ?_
    refine lv_goto (tgt := 27) hx hb dX4_join_23 (by decide) ?_
    refine lv_iconst (v := nI 1) hx hb dX4_join_27 (by decide) ?_
    refine qI_V (A := A) (A1 := A) (b := am) (As := [.int (bI true), .int (nI 1)]) (rest := []) ⟨hx, hb, hml, hown, hts⟩ (mX4_start (A := A) (X := X) (P := P) (k := k) (xa := xa) (b := true) (w9 := 1) (by decide)) (cwV 2 hts (gV tw_4_206 tw_4_208 sel_X4_start tw_1_8 tw_4_209) rfl rfl rfl (by decide +kernel) ⟨Nat.le_of_ble_eq_true rfl, Nat.le_of_ble_eq_true rfl⟩) hC hS (fun _ h => h) (fun q h => hA q (Nat.le_trans hS.1 h)) (hW.recv hK) ⟨ra, pa, tx, hW⟩ rfl rfl hl.1 (Nat.le_of_ble_eq_true rfl) ⟨Nat.zero_le _, Nat.zero_le _⟩ dX4_join_28 (fun rv46 H46 L46 hP46 hk46 hS => ?_)
    have hZ46 := hS.1
    obtain ⟨hr46, hM46⟩ := hP46
    subst hr46
    obtain ⟨ra, pa, tx, hW⟩ := hM46
    have hW : MWx G A am xa ra pa tx X P k (nI 1) H46 := hW
    have hO := hW.obj
    have hAm := hW.1
    refine f_ne (tgt := 67) hx hb dX4_join_31 (by decide) (fun c_47 => ?_) (fun c_47 => ?_)
    · refine lv_iconst (v := nI 0) hx hb dX4_join_67 (by decide) ?_
      exact q_i hx hb hr hlocks dX4_join_68 hS (by omega) (by omega) (Or.inl ⟨(Or.inl (hr_44v.mp c_45)), rfl, ra, pa, tx, hW⟩)
    · exact absurd c_47 (by decide)
  · obtain ⟨i, hi, rfl⟩ : ∃ i : Nat, i < 4 ∧ x = nI i := Classical.byContradiction (fun q => absurd (hr_44v.mpr q) (by rw [c_45]; decide))
    refine lv_iload_n hx hb dX4_join_8 rfl (lv_at hl 2 rfl) ?_
    refine kS_i (A := A) (As := [.int y]) (rest := .ref am :: []) ⟨hx, hb, hml, hown, hts⟩ (mX4_isNone (A := A) ) (va_cwS 1 hts (gS tw_4_203 tw_4_204 tw_1_8 tw_4_205) rfl rfl rfl (by decide +kernel) ⟨Nat.le_of_ble_eq_true rfl, Nat.le_of_ble_eq_true rfl⟩) hC hS hA  trivial rfl rfl hl.1 (Nat.le_of_ble_eq_true rfl) ⟨Nat.zero_le _, Nat.zero_le _⟩ dX4_join_9 (fun r_48 hr_48 => ?_)
    obtain ⟨r_48v, hr_48v, rfl⟩ := hr_48
    refine f_ne (tgt := 22) hx hb dX4_join_12 (by decide) (fun c_49 => ?_) (fun c_49 => ?_)
    · refine lv_iconst (v := nI 1) hx hb dX4_join_22 (by decide) ?_
      refine lv_goto (tgt := 27) hx hb dX4_join_23 (by decide) ?_
      refine lv_iconst (v := nI 1) hx hb dX4_join_27 (by decide) ?_
      refine qI_V (A := A) (A1 := A) (b := am) (As := [.int (bI true), .int (nI 1)]) (rest := []) ⟨hx, hb, hml, hown, hts⟩ (mX4_start (A := A) (X := X) (P := P) (k := k) (xa := xa) (b := true) (w9 := 1) (by decide)) (cwV 2 hts (gV tw_4_206 tw_4_208 sel_X4_start tw_1_8 tw_4_209) rfl rfl rfl (by decide +kernel) ⟨Nat.le_of_ble_eq_true rfl, Nat.le_of_ble_eq_true rfl⟩) hC hS (fun _ h => h) (fun q h => hA q (Nat.le_trans hS.1 h)) (hW.recv hK) ⟨ra, pa, tx, hW⟩ rfl rfl hl.1 (Nat.le_of_ble_eq_true rfl) ⟨Nat.zero_le _, Nat.zero_le _⟩ dX4_join_28 (fun rv50 H50 L50 hP50 hk50 hS => ?_)
      have hZ50 := hS.1
      obtain ⟨hr50, hM50⟩ := hP50
      subst hr50
      obtain ⟨ra, pa, tx, hW⟩ := hM50
      have hW : MWx G A am xa ra pa tx X P k (nI 1) H50 := hW
      have hO := hW.obj
      have hAm := hW.1
      refine f_ne (tgt := 67) hx hb dX4_join_31 (by decide) (fun c_51 => ?_) (fun c_51 => ?_)
      · refine lv_iconst (v := nI 0) hx hb dX4_join_67 (by decide) ?_
        exact q_i hx hb hr hlocks dX4_join_68 hS (by omega) (by omega) (Or.inl ⟨(Or.inr (Or.inl (hr_48v.mp c_49))), rfl, ra, pa, tx, hW⟩)
      · exact absurd c_51 (by decide)
    · obtain ⟨j, hj, rfl⟩ : ∃ j : Nat, j < 4 ∧ y = nI j := Classical.byContradiction (fun q => absurd (hr_48v.mpr q) (by rw [c_49]; decide))
      refine lv_iload_n hx hb dX4_join_15 rfl (lv_at hl 3 rfl) ?_
      refine kS_i (A := A) (As := [.int z]) (rest := .ref am :: []) ⟨hx, hb, hml, hown, hts⟩ (mX4_isNone (A := A) ) (va_cwS 1 hts (gS tw_4_203 tw_4_204 tw_1_8 tw_4_205) rfl rfl rfl (by decide +kernel) ⟨Nat.le_of_ble_eq_true rfl, Nat.le_of_ble_eq_true rfl⟩) hC hS hA  trivial rfl rfl hl.1 (Nat.le_of_ble_eq_true rfl) ⟨Nat.zero_le _, Nat.zero_le _⟩ dX4_join_16 (fun r_52 hr_52 => ?_)
      obtain ⟨r_52v, hr_52v, rfl⟩ := hr_52
      refine f_eq (tgt := 26) hx hb dX4_join_19 (by decide) (fun c_53 => ?_) (fun c_53 => ?_)
      · obtain ⟨q, hq, rfl⟩ : ∃ q : Nat, q < 4 ∧ z = nI q := Classical.byContradiction (fun q => absurd (hr_52v.mpr q) (by rw [c_53]; decide))
        refine lv_iconst (v := nI 0) hx hb dX4_join_26 (by decide) ?_
        refine lv_iconst (v := nI 1) hx hb dX4_join_27 (by decide) ?_
        refine qI_V (A := A) (A1 := A) (b := am) (As := [.int (bI false), .int (nI 1)]) (rest := []) ⟨hx, hb, hml, hown, hts⟩ (mX4_start (A := A) (X := X) (P := P) (k := k) (xa := xa) (b := false) (w9 := 1) (by decide)) (cwV 2 hts (gV tw_4_206 tw_4_208 sel_X4_start tw_1_8 tw_4_209) rfl rfl rfl (by decide +kernel) ⟨Nat.le_of_ble_eq_true rfl, Nat.le_of_ble_eq_true rfl⟩) hC hS (fun _ h => h) (fun q h => hA q (Nat.le_trans hS.1 h)) (hW.recv hK) ⟨ra, pa, tx, hW⟩ rfl rfl hl.1 (Nat.le_of_ble_eq_true rfl) ⟨Nat.zero_le _, Nat.zero_le _⟩ dX4_join_28 (fun rv54 H54 L54 hP54 hk54 hS => ?_)
        have hZ54 := hS.1
        obtain ⟨hr54, hM54⟩ := hP54
        subst hr54
        obtain ⟨ra, pa, tx, hW⟩ := hM54
        have hW : MWx G A am xa ra pa tx X P k (nI 0) H54 := hW
        have hO := hW.obj
        have hAm := hW.1
        refine f_ne (tgt := 67) hx hb dX4_join_31 (by decide) (fun c_55 => ?_) (fun c_55 => ?_)
        · exact absurd c_55 (by decide)
        · refine lv_aload_n hx hb dX4_join_34 rfl (lv_at hl 0 rfl) ?_
          refine lv_aload_n hx hb dX4_join_35 rfl (lv_at hl 0 rfl) ?_
          refine va_get (D := G.1) (ci := 8) (C := RX4) (T := TX4) (N := 5) hx hb hts inX4 hown hK (at_P hO) 0 rfl rfl 1 (by decide) (hts _ tw_4_173) (fun _ h9 => h9) rfl dX4_join_36 ?_
          refine lv_iload_n hx hb dX4_join_39 rfl (lv_at hl 1 rfl) ?_
          refine h_aaldI (D := G.1) hx hb hK 4 hW.txs rfl (vp_in_nI (n := i) (N := 4) (by omega) (by omega)) dX4_join_40 ?_
          refine v_cv (show va_rf _ = .ref (tx i) from by rw [nI_clamp (n := i) (by omega)]; rfl) ?_
          have hTi := (hW.tx (j := i) (by omega)).ia hC.2.1.2
          have x60i := hW.2.2.1 i (Or.inl (by omega))
          refine h_ilen hx hb hC.2.1 hTi dX4_join_41 ?_
          refine lv_aload_n hx hb dX4_join_42 rfl (lv_at hl 0 rfl) ?_
          refine va_get (D := G.1) (ci := 8) (C := RX4) (T := TX4) (N := 5) hx hb hts inX4 hown hK (at_P hO) 0 rfl rfl 1 (by decide) (hts _ tw_4_173) (fun _ h9 => h9) rfl dX4_join_43 ?_
          refine lv_iload_n hx hb dX4_join_46 rfl (lv_at hl 2 rfl) ?_
          refine h_aaldI (D := G.1) hx hb hK 4 hW.txs rfl (vp_in_nI (n := j) (N := 4) (by omega) (by omega)) dX4_join_47 ?_
          refine v_cv (show va_rf _ = .ref (tx j) from by rw [nI_clamp (n := j) (by omega)]; rfl) ?_
          have hTj := (hW.tx (j := j) (by omega)).ia hC.2.1.2
          have x60j := hW.2.2.1 j (Or.inl (by omega))
          have i60 := x60i.2
          have j60 := x60j.2
          have la := List.length_append (as := X i) (bs := X j)
          refine h_ilen hx hb hC.2.1 hTj dX4_join_48 ?_
          refine lv_iadd hx hb dX4_join_49 ?_
          refine lv_cv (nI_add ((X i).length) ((X j).length)) ?_
          refine lv_bipush (v := nI 60) hx hb dX4_join_50 (by decide) ?_
          refine b_le (tgt := 59) hx hb dX4_join_52 (by decide) (by omega) (by omega) (fun c_56 => ?_) (fun c_56 => ?_)
          · refine lv_iconst (v := nI 0) hx hb dX4_join_59 (by decide) ?_
            refine lv_iconst (v := nI 2) hx hb dX4_join_60 (by decide) ?_
            refine qI_V (A := A) (A1 := A) (b := am) (As := [.int (bI false), .int (nI 2)]) (rest := []) ⟨hx, hb, hml, hown, hts⟩ (mX4_refuse (A := A) (X := X) (P := P) (k := k) (xa := xa) (b := false) (th := 0) (w9 := 2) (by decide) (by decide)) (cwV 2 hts (gV tw_4_210 tw_4_212 sel_X4_refuse tw_1_8 tw_4_213) rfl rfl rfl (by decide +kernel) ⟨Nat.le_of_ble_eq_true rfl, Nat.le_of_ble_eq_true rfl⟩) hC hS (fun _ h => h) (fun q h => hA q (Nat.le_trans hS.1 h)) (hW.recv hK) ⟨ra, pa, tx, hW⟩ rfl rfl hl.1 (Nat.le_of_ble_eq_true rfl) ⟨Nat.zero_le _, Nat.zero_le _⟩ dX4_join_61 (fun rv57 H57 L57 hP57 hk57 hS => ?_)
            have hZ57 := hS.1
            obtain ⟨hr57, hM57⟩ := hP57
            subst hr57
            obtain ⟨ra, pa, tx, hW⟩ := hM57
            have hW : MWx G A am xa ra pa tx X P k (nI 0) H57 := hW
            have hO := hW.obj
            have hAm := hW.1
            refine f_eq (tgt := 69) hx hb dX4_join_64 (by decide) (fun c_58 => ?_) (fun c_58 => ?_)
            · refine lv_aload_n hx hb dX4_join_69 rfl (lv_at hl 0 rfl) ?_
              refine lv_iload_n hx hb dX4_join_70 rfl (lv_at hl 3 rfl) ?_
              refine lv_aload_n hx hb dX4_join_71 rfl (lv_at hl 0 rfl) ?_
              refine va_get (D := G.1) (ci := 8) (C := RX4) (T := TX4) (N := 5) hx hb hts inX4 hown hK (at_P hO) 0 rfl rfl 1 (by decide) (hts _ tw_4_173) (fun _ h9 => h9) rfl dX4_join_72 ?_
              refine lv_iload_n hx hb dX4_join_75 rfl (lv_at hl 1 rfl) ?_
              refine h_aaldI (D := G.1) hx hb hK 4 hW.txs rfl (vp_in_nI (n := i) (N := 4) (by omega) (by omega)) dX4_join_76 ?_
              refine v_cv (show va_rf _ = .ref (tx i) from by rw [nI_clamp (n := i) (by omega)]; rfl) ?_
              have hTi := (hW.tx (j := i) (by omega)).ia hC.2.1.2
              have x60i := hW.2.2.1 i (Or.inl (by omega))
              refine lv_aload_n hx hb dX4_join_77 rfl (lv_at hl 0 rfl) ?_
              refine va_get (D := G.1) (ci := 8) (C := RX4) (T := TX4) (N := 5) hx hb hts inX4 hown hK (at_P hO) 0 rfl rfl 1 (by decide) (hts _ tw_4_173) (fun _ h9 => h9) rfl dX4_join_78 ?_
              refine lv_iload_n hx hb dX4_join_81 rfl (lv_at hl 2 rfl) ?_
              refine h_aaldI (D := G.1) hx hb hK 4 hW.txs rfl (vp_in_nI (n := j) (N := 4) (by omega) (by omega)) dX4_join_82 ?_
              refine v_cv (show va_rf _ = .ref (tx j) from by rw [nI_clamp (n := j) (by omega)]; rfl) ?_
              have hTj := (hW.tx (j := j) (by omega)).ia hC.2.1.2
              have x60j := hW.2.2.1 j (Or.inl (by omega))
              have hra := hW.row.lt
              refine qR_S (A := A) (A1 := nw H57.size)  (As := [.ref (tx i), .ref (tx j)]) (rest := .int (nI q) :: .ref am :: []) ⟨hx, hb, hml, hown, hts⟩ (mX4_joined (A := nw H57.size) (sz := H57.size) (t := X i) (u := X j) (by omega)) (va_cwS 2 hts (gS tw_4_200 tw_4_201 tw_1_8 tw_4_202) rfl rfl rfl (by decide +kernel) ⟨Nat.le_of_ble_eq_true rfl, Nat.le_of_ble_eq_true rfl⟩) hC hS (nw_in hA hS.1) nw_n  ⟨rfl, hTi, hTj⟩ rfl rfl hl.1 (Nat.le_of_ble_eq_true rfl) ⟨Nat.le_trans (show 0 + 1 ≤ 1 by omega) (Nat.le_of_ble_eq_true rfl), Nat.le_trans (show 0 + 61 ≤ 61 by omega) (Nat.le_of_ble_eq_true rfl)⟩ dX4_join_83 (fun rv59 H59 L59 hP59 hk59 hS => ?_)
              have hZ59 := hS.1
              have hW := hW.nw hk59
              refine qI_V (A := A) (A1 := A) (b := am) (As := [.int (nI q), .ref rv59]) (rest := []) ⟨hx, hb, hml, hown, hts⟩ (mX4_become (A := A) (X := X) (P := P) (k := k) (xa := xa) (t := X i ++ X j) hq ⟨okc_app x60i.1 x60j.1, by omega⟩) (cwV 2 hts (gV tw_4_214 tw_4_216 sel_X4_become tw_1_8 tw_4_217) rfl rfl rfl (by decide +kernel) ⟨Nat.le_of_ble_eq_true rfl, Nat.le_of_ble_eq_true rfl⟩) hC hS (fun _ h => h) (fun q h => hA q (Nat.le_trans hS.1 h)) (hW.recv hK) ⟨ra, pa, tx, hW, hP59.2, (by have := hP59.1; omega)⟩ rfl rfl hl.1 (Nat.le_of_ble_eq_true rfl) ⟨Nat.le_trans (show (0 + 1) ≤ 1 by omega) (Nat.le_of_ble_eq_true rfl), Nat.le_trans (show (0 + 61) ≤ 61 by omega) (Nat.le_of_ble_eq_true rfl)⟩ dX4_join_86 (fun rv60 H60 L60 hP60 hk60 hS => ?_)
              have hZ60 := hS.1
              exact q_i hx hb hr hlocks dX4_join_89 hS (by omega) (by omega) (Or.inr (Or.inr (⟨i, j, q, hi, rfl, hj, rfl, hq, rfl, by omega, hP60.1, hP60.2⟩)))
            · exact absurd c_58 (by decide)
          · refine lv_iconst (v := nI 1) hx hb dX4_join_55 (by decide) ?_
            refine lv_goto (tgt := 60) hx hb dX4_join_56 (by decide) ?_
            refine lv_iconst (v := nI 2) hx hb dX4_join_60 (by decide) ?_
            refine qI_V (A := A) (A1 := A) (b := am) (As := [.int (bI true), .int (nI 2)]) (rest := []) ⟨hx, hb, hml, hown, hts⟩ (mX4_refuse (A := A) (X := X) (P := P) (k := k) (xa := xa) (b := true) (th := 0) (w9 := 2) (by decide) (by decide)) (cwV 2 hts (gV tw_4_210 tw_4_212 sel_X4_refuse tw_1_8 tw_4_213) rfl rfl rfl (by decide +kernel) ⟨Nat.le_of_ble_eq_true rfl, Nat.le_of_ble_eq_true rfl⟩) hC hS (fun _ h => h) (fun q h => hA q (Nat.le_trans hS.1 h)) (hW.recv hK) ⟨ra, pa, tx, hW⟩ rfl rfl hl.1 (Nat.le_of_ble_eq_true rfl) ⟨Nat.zero_le _, Nat.zero_le _⟩ dX4_join_61 (fun rv61 H61 L61 hP61 hk61 hS => ?_)
            have hZ61 := hS.1
            obtain ⟨hr61, hM61⟩ := hP61
            subst hr61
            obtain ⟨ra, pa, tx, hW⟩ := hM61
            have hW : MWx G A am xa ra pa tx X P k (nI 2) H61 := hW
            have hO := hW.obj
            have hAm := hW.1
            refine f_eq (tgt := 69) hx hb dX4_join_64 (by decide) (fun c_62 => ?_) (fun c_62 => ?_)
            · exact absurd c_62 (by decide)
            · refine lv_iconst (v := nI 0) hx hb dX4_join_67 (by decide) ?_
              exact q_i hx hb hr hlocks dX4_join_68 hS (by omega) (by omega) (Or.inr (Or.inl ⟨⟨i, j, q, hi, rfl, hj, rfl, hq, rfl, by omega⟩, rfl, ra, pa, tx, hW⟩))
      · refine lv_iconst (v := nI 1) hx hb dX4_join_22 (by decide) ?_
        refine lv_goto (tgt := 27) hx hb dX4_join_23 (by decide) ?_
        refine lv_iconst (v := nI 1) hx hb dX4_join_27 (by decide) ?_
        refine qI_V (A := A) (A1 := A) (b := am) (As := [.int (bI true), .int (nI 1)]) (rest := []) ⟨hx, hb, hml, hown, hts⟩ (mX4_start (A := A) (X := X) (P := P) (k := k) (xa := xa) (b := true) (w9 := 1) (by decide)) (cwV 2 hts (gV tw_4_206 tw_4_208 sel_X4_start tw_1_8 tw_4_209) rfl rfl rfl (by decide +kernel) ⟨Nat.le_of_ble_eq_true rfl, Nat.le_of_ble_eq_true rfl⟩) hC hS (fun _ h => h) (fun q h => hA q (Nat.le_trans hS.1 h)) (hW.recv hK) ⟨ra, pa, tx, hW⟩ rfl rfl hl.1 (Nat.le_of_ble_eq_true rfl) ⟨Nat.zero_le _, Nat.zero_le _⟩ dX4_join_28 (fun rv63 H63 L63 hP63 hk63 hS => ?_)
        have hZ63 := hS.1
        obtain ⟨hr63, hM63⟩ := hP63
        subst hr63
        obtain ⟨ra, pa, tx, hW⟩ := hM63
        have hW : MWx G A am xa ra pa tx X P k (nI 1) H63 := hW
        have hO := hW.obj
        have hAm := hW.1
        refine f_ne (tgt := 67) hx hb dX4_join_31 (by decide) (fun c_64 => ?_) (fun c_64 => ?_)
        · refine lv_iconst (v := nI 0) hx hb dX4_join_67 (by decide) ?_
          exact q_i hx hb hr hlocks dX4_join_68 hS (by omega) (by omega) (Or.inl ⟨(Or.inr (Or.inr (hr_52v.mp c_53))), rfl, ra, pa, tx, hW⟩)
        · exact absurd c_64 (by decide)

abbrev rmX4_lay : Room := { frames := 3, cells := 1, slots := 61, locals := 64 }
theorem mX4_lay {l : Launch} {G : Cx} {A : Nat → Prop} {am xa : Nat} {X : Nat → List Nat} {P : List (List Nat)} {k : Int32} {x th : Int32} : Met l yX4_lay (.code yX4_lay cX4_lay 2 (some .int) :: GW) rmX4_lay (PC G A [.ref am, .int x] (MW G A am xa X P k th)) (qI A (fun r H => ((NT x) ∧ r = 0 ∧ MW G A am xa X P k 1 H) ∨ ∃ i : Nat, i < 4 ∧ x = nI i ∧ r = nI (X i).length ∧ MW G A am xa (updT X 11 (X i)) P k 0 H)) 1 61 (A) := by
  refine mstart "SigntextModel" (by decide +kernel) rfl (Nat.le_of_ble_eq_true rfl) ?_
  intro p e s m below meth c ls hx hb hr hts hown hml hlocks hname hC hA hW hl
  have hl : lv_has ls 2 [(0, .ref am), (1, .int x)] := hl
  have hK := hC.1
  have hS : va_S A s.heap s.heap [] := va_S.rf
  obtain ⟨ra, pa, tx, hW⟩ := hW
  have hO := hW.obj
  have hAm := hW.1
  refine lv_aload_n hx hb dX4_lay_0 rfl (lv_at hl 0 rfl) ?_
  refine lv_iload_n hx hb dX4_lay_1 rfl (lv_at hl 1 rfl) ?_
  refine kS_i (A := A) (As := [.int x]) (rest := .ref am :: []) ⟨hx, hb, hml, hown, hts⟩ (mX4_isNone (A := A) ) (va_cwS 1 hts (gS tw_4_203 tw_4_204 tw_1_8 tw_4_205) rfl rfl rfl (by decide +kernel) ⟨Nat.le_of_ble_eq_true rfl, Nat.le_of_ble_eq_true rfl⟩) hC hS hA  trivial rfl rfl hl.1 (Nat.le_of_ble_eq_true rfl) ⟨Nat.zero_le _, Nat.zero_le _⟩ dX4_lay_2 (fun r_65 hr_65 => ?_)
  obtain ⟨r_65v, hr_65v, rfl⟩ := hr_65
  refine lv_iconst (v := nI 1) hx hb dX4_lay_5 (by decide) ?_
  cases r_65v
  · obtain ⟨i, hi, rfl⟩ : ∃ i : Nat, i < 4 ∧ x = nI i := Classical.byContradiction (fun q => Bool.noConfusion (hr_65v.mpr q))
    refine qI_V (A := A) (A1 := A) (b := am) (As := [.int (bI false), .int (nI 1)]) (rest := []) ⟨hx, hb, hml, hown, hts⟩ (mX4_start (A := A) (X := X) (P := P) (k := k) (xa := xa) (b := false) (w9 := 1) (by decide)) (cwV 2 hts (gV tw_4_206 tw_4_208 sel_X4_start tw_1_8 tw_4_209) rfl rfl rfl (by decide +kernel) ⟨Nat.le_of_ble_eq_true rfl, Nat.le_of_ble_eq_true rfl⟩) hC hS (fun _ h => h) (fun q h => hA q (Nat.le_trans hS.1 h)) (hW.recv hK) ⟨ra, pa, tx, hW⟩ rfl rfl hl.1 (Nat.le_of_ble_eq_true rfl) ⟨Nat.zero_le _, Nat.zero_le _⟩ dX4_lay_6 (fun rv66 H66 L66 hP66 hk66 hS => ?_)
    have hZ66 := hS.1
    obtain ⟨hr66, hM66⟩ := hP66
    subst hr66
    obtain ⟨ra, pa, tx, hW⟩ := hM66
    have hW : MWx G A am xa ra pa tx X P k (nI 0) H66 := hW
    have hO := hW.obj
    have hAm := hW.1
    refine f_eq (tgt := 14) hx hb dX4_lay_9 (by decide) (fun c_67 => ?_) (fun c_67 => ?_)
    · refine lv_aload_n hx hb dX4_lay_14 rfl (lv_at hl 0 rfl) ?_
      refine lv_aload_n hx hb dX4_lay_15 rfl (lv_at hl 0 rfl) ?_
      refine va_get (D := G.1) (ci := 8) (C := RX4) (T := TX4) (N := 5) hx hb hts inX4 hown hK (at_P hO) 0 rfl rfl 1 (by decide) (hts _ tw_4_173) (fun _ h9 => h9) rfl dX4_lay_16 ?_
      refine lv_iload_n hx hb dX4_lay_19 rfl (lv_at hl 1 rfl) ?_
      refine h_aaldI (D := G.1) hx hb hK 4 hW.txs rfl (vp_in_nI (n := i) (N := 4) (by omega) (by omega)) dX4_lay_20 ?_
      refine v_cv (show va_rf _ = .ref (tx i) from by rw [nI_clamp (n := i) (by omega)]; rfl) ?_
      have hTi := (hW.tx (j := i) (by omega)).ia hC.2.1.2
      have x60i := hW.2.2.1 i (Or.inl (by omega))
      refine lv_iconst (v := nI 0) hx hb dX4_lay_21 (by decide) ?_
      refine lv_aload_n hx hb dX4_lay_22 rfl (lv_at hl 0 rfl) ?_
      refine va_get (D := G.1) (ci := 8) (C := RX4) (T := TX4) (N := 5) hx hb hts inX4 hown hK (at_P hO) 0 rfl rfl 1 (by decide) (hts _ tw_4_173) (fun _ h9 => h9) rfl dX4_lay_23 ?_
      refine lv_iload_n hx hb dX4_lay_26 rfl (lv_at hl 1 rfl) ?_
      refine h_aaldI (D := G.1) hx hb hK 4 hW.txs rfl (vp_in_nI (n := i) (N := 4) (by omega) (by omega)) dX4_lay_27 ?_
      refine v_cv (show va_rf _ = .ref (tx i) from by rw [nI_clamp (n := i) (by omega)]; rfl) ?_
      refine h_ilen hx hb hC.2.1 hTi dX4_lay_28 ?_
      have hW0 := hW
      have hra := hW.row.lt
      refine qR_S (A := A) (A1 := nw H66.size)  (As := [.ref (tx i), .int (nI 0), .int (nI ((X i).length))]) (rest := .ref am :: []) ⟨hx, hb, hml, hown, hts⟩ (mX4_cut (A := nw H66.size) (sz := H66.size) (t := X i) (i := 0) (i2 := (X i).length) (Nat.zero_le _) (Nat.le_refl _) (by have := x60i.2; omega)) (va_cwS 3 hts (gS tw_4_226 tw_4_227 tw_1_8 tw_4_228) rfl rfl rfl (by decide +kernel) ⟨Nat.le_of_ble_eq_true rfl, Nat.le_of_ble_eq_true rfl⟩) hC hS (nw_in hA hS.1) nw_n  ⟨rfl, hTi⟩ rfl rfl hl.1 (Nat.le_of_ble_eq_true rfl) ⟨Nat.le_trans (show 0 + 1 ≤ 1 by omega) (Nat.le_of_ble_eq_true rfl), Nat.le_trans (show 0 + 61 ≤ 61 by omega) (Nat.le_of_ble_eq_true rfl)⟩ dX4_lay_29 (fun rv68 H68 L68 hP68 hk68 hS => ?_)
      have hZ68 := hS.1
      have hW := hW.nw hk68
      rw [cutL_all] at hP68
      have hO := hW.obj
      have hAm := hW.1
      refine h_put (D := G.1) (ci := 8) (C := RX4) (T := TX4) (N := 5) hx hb hts inX4 tyX4 tyX4_ok nmX4 hown hK hO hS hAm rfl 2 (by decide) (hts _ tw_4_174) (fun _ h9 => h9) rfl (tyX4_ok 2 (by decide)) rfl rfl (Nat.le_of_ble_eq_true rfl) dX4_lay_32 (fun H69 L69 hO z69 o69 hS => ?_)
      have hO : va_at G.1 vwCl (am, .inr (8, [.int (nI 0), .ref xa, .ref rv68, .ref pa, .int k])) H69 := hO
      have hZ69 := hS.1
      have hW := MWx_lay hK hW0 hk68 hP68.1 hP68.2 hO o69 (hA _ (by have := hP68.1; omega)) x60i
      have hO := hW.obj
      have hR1 := hW.row.ia hC.2.1.2
      rw [updT_s] at hR1
      refine lv_aload_n hx hb dX4_lay_35 rfl (lv_at hl 0 rfl) ?_
      refine va_get (D := G.1) (ci := 8) (C := RX4) (T := TX4) (N := 5) hx hb hts inX4 hown hK (at_P hO) 0 rfl rfl 2 (by decide) (hts _ tw_4_174) (fun _ h9 => h9) rfl dX4_lay_36 ?_
      refine h_ilen hx hb hC.2.1 hR1 dX4_lay_39 ?_
      exact q_i hx hb hr hlocks dX4_lay_40 hS (by omega) (by omega) (Or.inr (⟨i, hi, rfl, rfl, _, pa, tx, hW⟩))
    · exact absurd c_67 (by decide)
  · refine qI_V (A := A) (A1 := A) (b := am) (As := [.int (bI true), .int (nI 1)]) (rest := []) ⟨hx, hb, hml, hown, hts⟩ (mX4_start (A := A) (X := X) (P := P) (k := k) (xa := xa) (b := true) (w9 := 1) (by decide)) (cwV 2 hts (gV tw_4_206 tw_4_208 sel_X4_start tw_1_8 tw_4_209) rfl rfl rfl (by decide +kernel) ⟨Nat.le_of_ble_eq_true rfl, Nat.le_of_ble_eq_true rfl⟩) hC hS (fun _ h => h) (fun q h => hA q (Nat.le_trans hS.1 h)) (hW.recv hK) ⟨ra, pa, tx, hW⟩ rfl rfl hl.1 (Nat.le_of_ble_eq_true rfl) ⟨Nat.zero_le _, Nat.zero_le _⟩ dX4_lay_6 (fun rv70 H70 L70 hP70 hk70 hS => ?_)
    have hZ70 := hS.1
    obtain ⟨hr70, hM70⟩ := hP70
    subst hr70
    obtain ⟨ra, pa, tx, hW⟩ := hM70
    have hW : MWx G A am xa ra pa tx X P k (nI 1) H70 := hW
    have hO := hW.obj
    have hAm := hW.1
    refine f_eq (tgt := 14) hx hb dX4_lay_9 (by decide) (fun c_71 => ?_) (fun c_71 => ?_)
    · exact absurd c_71 (by decide)
    · refine lv_iconst (v := nI 0) hx hb dX4_lay_12 (by decide) ?_
      exact q_i hx hb hr hlocks dX4_lay_13 hS (by omega) (by omega) (Or.inl ⟨(hr_65v.mp rfl), rfl, ra, pa, tx, hW⟩)

abbrev rmX4_isNoPlace : Room := { frames := 1, cells := 0, slots := 0, locals := 22 }
theorem mX4_isNoPlace {l : Launch} {G : Cx} {A : Nat → Prop} {am xa : Nat} {X : Nat → List Nat} {P : List (List Nat)} {k : Int32} {x th : Int32} : Met l yX4_isNoPlace (.code yX4_isNoPlace cX4_isNoPlace 2 (some .boolean) :: GW) rmX4_isNoPlace (PC G A [.ref am, .int x] (MW G A am xa X P k th)) (vp_Si (fun r => ∃ v : Bool, (v = true ↔ ¬ ∃ a9 : Nat, a9 < (X 11).length ∧ x = nI a9) ∧ r = bI v)) 0 0 (fun _ => False) := by
  refine mstart "SigntextModel" (by decide +kernel) rfl (Nat.le_of_ble_eq_true rfl) ?_
  intro p e s m below meth c ls hx hb hr hts hown hml hlocks hname hC hA hW hl
  have hl : lv_has ls 2 [(0, .ref am), (1, .int x)] := hl
  have hK := hC.1
  have hS : va_S A s.heap s.heap [] := va_S.rf
  obtain ⟨ra, pa, tx, hW⟩ := hW
  have hO := hW.obj
  have hAm := hW.1
  have hR1 := hW.row.ia hC.2.1.2
  have x11 := hW.2.2.1 11 (Or.inr rfl)
  have r60 := x11.2
  refine lv_iload_n hx hb dX4_isNoPlace_0 rfl (lv_at hl 1 rfl) ?_
  refine lv_iconst (v := nI 0) hx hb dX4_isNoPlace_1 (by decide) ?_
  refine lv_aload_n hx hb dX4_isNoPlace_2 rfl (lv_at hl 0 rfl) ?_
  refine va_get (D := G.1) (ci := 8) (C := RX4) (T := TX4) (N := 5) hx hb hts inX4 hown hK (at_P hO) 0 rfl rfl 2 (by decide) (hts _ tw_4_174) (fun _ h9 => h9) rfl dX4_isNoPlace_3 ?_
  refine h_ilen hx hb hC.2.1 hR1 dX4_isNoPlace_6 ?_
  refine lv_iconst (v := nI 1) hx hb dX4_isNoPlace_7 (by decide) ?_
  refine lv_isub hx hb dX4_isNoPlace_8 ?_
  refine kS_i (A := A) (As := [.int x, .int (nI 0), .int (nI (X 11).length - nI 1)]) (rest := []) ⟨hx, hb, hml, hown, hts⟩ (mX4_isIn (A := A) ) (va_cwS 3 hts (gS tw_4_197 tw_4_198 tw_1_8 tw_4_199) rfl rfl rfl (by decide +kernel) ⟨Nat.le_of_ble_eq_true rfl, Nat.le_of_ble_eq_true rfl⟩) hC hS hA  trivial rfl rfl hl.1 (Nat.le_of_ble_eq_true rfl) ⟨Nat.zero_le _, Nat.zero_le _⟩ dX4_isNoPlace_9 (fun r9 h9 => lv_cv h9 ?_)
  refine f_ne (tgt := 19) hx hb dX4_isNoPlace_12 (by decide) (fun c_72 => ?_) (fun c_72 => ?_)
  · refine lv_iconst (v := nI 0) hx hb dX4_isNoPlace_19 (by decide) ?_
    exact p_z (b := false) hx hb hr hlocks dX4_isNoPlace_20 ⟨false, ⟨fun q => Bool.noConfusion q, fun q => absurd ((rngL (by omega)).mp (of_decide_eq_true c_72)) q⟩, rfl⟩
  · refine lv_iconst (v := nI 1) hx hb dX4_isNoPlace_15 (by decide) ?_
    refine lv_goto (tgt := 20) hx hb dX4_isNoPlace_16 (by decide) ?_
    exact p_z (b := true) hx hb hr hlocks dX4_isNoPlace_20 ⟨true, ⟨fun _ q => absurd ((rngL (by omega)).mpr q) (of_decide_eq_false c_72), fun _ => rfl⟩, rfl⟩
