/-! The model, 16: the whole house -/
def hmV (X : Nat → List Nat) (P : List (List Nat)) (k : Int32) : Nat → Int32
  | 0 => nI (X 11).length
  | 1 => nI P.length
  | 2 => nI (sumL X 4)
  | 3 => nI (cntE X 4)
  | _ => k
theorem sumX_le {X : Nat → List Nat} (h : ∀ i : Nat, i < 4 → (X i).length ≤ 60) (n : Nat) (hn : n ≤ 4) : sumL X n ≤ 60 * n := by
  induction n with
  | zero => exact Nat.le_refl _
  | succ n ih => show sumL X n + (X n).length ≤ 60 * (n + 1); have h1 := ih (by omega); have h2 := h n (by omega); omega
theorem cntE_le (X : Nat → List Nat) (n : Nat) : cntE X n ≤ n := by
  induction n with
  | zero => exact Nat.le_refl _
  | succ n ih => show (if (X n).length = 0 then cntE X n + 1 else cntE X n) ≤ n + 1; split <;> omega
theorem MWx_pl {G : Cx} {A : Nat → Prop} {am xa : Nat} {X : Nat → List Nat} {P : List (List Nat)} {k th : Int32} {H : Heap} {ra pa : Nat} {tx : Nat → Nat} (h : MWx G A am xa ra pa tx X P k th H) : ∃ (md : Int32) (ed : Nat), va_at G.1 vwCl (pa, .inr (3, [.int md, .ref ed, .int (nI P.length)])) H := by
  obtain ⟨h0, ⟨e, md, h9⟩ | ⟨md, ed, cap, f, pe, h1, -⟩⟩ := h.2.2.2.2.2.2.2.2.2.2.2
  · subst e; exact ⟨md, _, h9⟩
  · exact ⟨md, ed, h1⟩
/-! orders, places: what one text's answers have to do with another's -/
theorem view_f (c : Nat) : viewN false c = c := rfl
theorem stL_eq {t u : List Nat} (h1 : t.length = u.length) (h2 : stL false t u 0) : t = u := by
  refine List.ext_getElem h1 (fun i hi hj => ?_)
  have h3 := h2.2 i hj
  rw [Nat.zero_add, view_f, view_f, List.getD_eq_getElem?_getD, List.getD_eq_getElem?_getD, List.getElem?_eq_getElem hi, List.getElem?_eq_getElem hj] at h3
  exact h3
theorem subI_z {a b : Nat} (ha : a < 2 ^ 30) (hb : b < 2 ^ 30) : nI a - nI b = 0 ↔ a = b := by
  constructor
  · intro h
    rcases Nat.lt_trichotomy a b with q | q | q
    · have := subI_neg ha hb q; rw [h] at this; exact absurd this (by decide)
    · exact q
    · have h2 := subI_neg hb ha q
      have h3 : nI b - nI a = -(nI a - nI b) := Int32.neg_sub.symm
      rw [h3, h] at h2; exact absurd h2 (by decide)
  · rintro rfl; exact Int32.sub_self _
theorem ordR_zero {t u : List Nat} {r : Int32} (ht : okc t) (hu : okc u) (h1 : t.length ≤ 61) (h2 : u.length ≤ 61) (h : ordR false t u r) : r = 0 ↔ t.length = u.length ∧ stL false t u 0 := by
  rcases h with ⟨k, k1, k2, k3, k4, rfl⟩ | ⟨k1, rfl⟩
  · rw [view_f, view_f] at k4 ⊢
    have e1 := ht k
    have e2 := hu k
    rw [subI_z (by omega) (by omega)]
    constructor
    · intro q; exact absurd q k4
    · intro q
      have h3 := q.2.2 k k2
      rw [Nat.zero_add, view_f, view_f] at h3
      exact h3
  · rw [subI_z (by omega) (by omega)]
    constructor
    · intro q
      exact ⟨q, by omega, fun k hk => by rw [Nat.zero_add]; exact k1 k (by omega) hk⟩
    · intro q; exact q.1
theorem ordR_neg {b : Bool} {t u : List Nat} {r r2 : Int32} (ht : okc t) (hu : okc u) (h : ordR b t u r) (h2 : ordR b u t r2) : r = -r2 := by
  rcases h with ⟨k, k1, k2, k3, k4, rfl⟩ | ⟨k1, rfl⟩
  · rcases h2 with ⟨q, q1, q2, q3, q4, rfl⟩ | ⟨q1, rfl⟩
    · have e : k = q := by
        rcases Nat.lt_trichotomy k q with z | z | z
        · exact absurd (q3 k z).symm k4
        · exact z
        · exact absurd (k3 q z).symm q4
      subst e
      exact Int32.neg_sub.symm
    · exact absurd (q1 k k2 k1).symm k4
  · rcases h2 with ⟨q, q1, q2, q3, q4, rfl⟩ | ⟨q1, rfl⟩
    · exact absurd (k1 q q2 q1).symm q4
    · exact Int32.neg_sub.symm
theorem fst_le_lst {P : Nat → Prop} {r r2 : Int32} (h : fstR P r) (h2 : lstR P r2) (hb : ∀ k, P k → k < 2 ^ 31) : r ≤ r2 := by
  rcases h with ⟨k, k1, k2, rfl⟩ | ⟨k1, rfl⟩
  · rcases h2 with ⟨q, q1, q2, rfl⟩ | ⟨q1, -⟩
    · exact nI_le (Nat.le_of_not_lt fun z => k2 q z q1) (hb q q1)
    · exact absurd k1 (q1 k)
  · rcases h2 with ⟨q, q1, q2, rfl⟩ | ⟨q1, rfl⟩
    · exact absurd q1 (k1 q)
    · exact Int32.le_refl _
theorem dX4_houseTold_0 : decode cX4_houseTold 0 = .ok (.iconst 0, 1) := by decide +kernel
theorem dX4_houseTold_1 : decode cX4_houseTold 1 = .ok (.istore_n 2, 1) := by decide +kernel
theorem dX4_houseTold_2 : decode cX4_houseTold 2 = .ok (.iconst 0, 1) := by decide +kernel
theorem dX4_houseTold_3 : decode cX4_houseTold 3 = .ok (.istore_n 3, 1) := by decide +kernel
theorem dX4_houseTold_4 : decode cX4_houseTold 4 = .ok (.aload_n 0, 1) := by decide +kernel
theorem dX4_houseTold_5 : decode cX4_houseTold 5 = .ok (.getfield 72, 3) := by decide +kernel
theorem dX4_houseTold_8 : decode cX4_houseTold 8 = .ok (.astore 4, 2) := by decide +kernel
theorem dX4_houseTold_10 : decode cX4_houseTold 10 = .ok (.aload 4, 2) := by decide +kernel
theorem dX4_houseTold_12 : decode cX4_houseTold 12 = .ok (.arraylength, 1) := by decide +kernel
theorem dX4_houseTold_13 : decode cX4_houseTold 13 = .ok (.istore 5, 2) := by decide +kernel
theorem dX4_houseTold_15 : decode cX4_houseTold 15 = .ok (.iconst 0, 1) := by decide +kernel
theorem dX4_houseTold_16 : decode cX4_houseTold 16 = .ok (.istore 6, 2) := by decide +kernel
theorem dX4_houseTold_18 : decode cX4_houseTold 18 = .ok (.iload 6, 2) := by decide +kernel
theorem dX4_houseTold_20 : decode cX4_houseTold 20 = .ok (.iload 5, 2) := by decide +kernel
theorem dX4_houseTold_22 : decode cX4_houseTold 22 = .ok (.if_icmp .ge 39, 3) := by decide +kernel
theorem dX4_houseTold_25 : decode cX4_houseTold 25 = .ok (.aload 4, 2) := by decide +kernel
theorem dX4_houseTold_27 : decode cX4_houseTold 27 = .ok (.iload 6, 2) := by decide +kernel
theorem dX4_houseTold_29 : decode cX4_houseTold 29 = .ok (.aaload, 1) := by decide +kernel
theorem dX4_houseTold_30 : decode cX4_houseTold 30 = .ok (.astore 7, 2) := by decide +kernel
theorem dX4_houseTold_32 : decode cX4_houseTold 32 = .ok (.iload_n 2, 1) := by decide +kernel
theorem dX4_houseTold_33 : decode cX4_houseTold 33 = .ok (.aload 7, 2) := by decide +kernel
theorem dX4_houseTold_35 : decode cX4_houseTold 35 = .ok (.arraylength, 1) := by decide +kernel
theorem dX4_houseTold_36 : decode cX4_houseTold 36 = .ok (.iadd, 1) := by decide +kernel
theorem dX4_houseTold_37 : decode cX4_houseTold 37 = .ok (.istore_n 2, 1) := by decide +kernel
theorem dX4_houseTold_38 : decode cX4_houseTold 38 = .ok (.iload_n 3, 1) := by decide +kernel
theorem dX4_houseTold_39 : decode cX4_houseTold 39 = .ok (.aload 7, 2) := by decide +kernel
theorem dX4_houseTold_41 : decode cX4_houseTold 41 = .ok (.arraylength, 1) := by decide +kernel
theorem dX4_houseTold_42 : decode cX4_houseTold 42 = .ok (.ifCond .ne 7, 3) := by decide +kernel
theorem dX4_houseTold_45 : decode cX4_houseTold 45 = .ok (.iconst 1, 1) := by decide +kernel
theorem dX4_houseTold_46 : decode cX4_houseTold 46 = .ok (.goto 4, 3) := by decide +kernel
theorem dX4_houseTold_49 : decode cX4_houseTold 49 = .ok (.iconst 0, 1) := by decide +kernel
theorem dX4_houseTold_50 : decode cX4_houseTold 50 = .ok (.invokestatic 17, 3) := by decide +kernel
theorem dX4_houseTold_53 : decode cX4_houseTold 53 = .ok (.iadd, 1) := by decide +kernel
theorem dX4_houseTold_54 : decode cX4_houseTold 54 = .ok (.istore_n 3, 1) := by decide +kernel
theorem dX4_houseTold_55 : decode cX4_houseTold 55 = .ok (.iinc 6 1, 3) := by decide +kernel
theorem dX4_houseTold_58 : decode cX4_houseTold 58 = .ok (.goto (-40), 3) := by decide +kernel
theorem dX4_houseTold_61 : decode cX4_houseTold 61 = .ok (.iconst 5, 1) := by decide +kernel
theorem dX4_houseTold_62 : decode cX4_houseTold 62 = .ok (.newarray .int, 2) := by decide +kernel
theorem dX4_houseTold_64 : decode cX4_houseTold 64 = .ok (.dup, 1) := by decide +kernel
theorem dX4_houseTold_65 : decode cX4_houseTold 65 = .ok (.iconst 0, 1) := by decide +kernel
theorem dX4_houseTold_66 : decode cX4_houseTold 66 = .ok (.aload_n 0, 1) := by decide +kernel
theorem dX4_houseTold_67 : decode cX4_houseTold 67 = .ok (.getfield 75, 3) := by decide +kernel
theorem dX4_houseTold_70 : decode cX4_houseTold 70 = .ok (.arraylength, 1) := by decide +kernel
theorem dX4_houseTold_71 : decode cX4_houseTold 71 = .ok (.iastore, 1) := by decide +kernel
theorem dX4_houseTold_72 : decode cX4_houseTold 72 = .ok (.dup, 1) := by decide +kernel
theorem dX4_houseTold_73 : decode cX4_houseTold 73 = .ok (.iconst 1, 1) := by decide +kernel
theorem dX4_houseTold_74 : decode cX4_houseTold 74 = .ok (.aload_n 0, 1) := by decide +kernel
theorem dX4_houseTold_75 : decode cX4_houseTold 75 = .ok (.getfield 78, 3) := by decide +kernel
theorem dX4_houseTold_78 : decode cX4_houseTold 78 = .ok (.invokevirtual 54, 3) := by decide +kernel
theorem dX4_houseTold_81 : decode cX4_houseTold 81 = .ok (.iastore, 1) := by decide +kernel
theorem dX4_houseTold_82 : decode cX4_houseTold 82 = .ok (.dup, 1) := by decide +kernel
theorem dX4_houseTold_83 : decode cX4_houseTold 83 = .ok (.iconst 2, 1) := by decide +kernel
theorem dX4_houseTold_84 : decode cX4_houseTold 84 = .ok (.iload_n 2, 1) := by decide +kernel
theorem dX4_houseTold_85 : decode cX4_houseTold 85 = .ok (.iastore, 1) := by decide +kernel
theorem dX4_houseTold_86 : decode cX4_houseTold 86 = .ok (.dup, 1) := by decide +kernel
theorem dX4_houseTold_87 : decode cX4_houseTold 87 = .ok (.iconst 3, 1) := by decide +kernel
theorem dX4_houseTold_88 : decode cX4_houseTold 88 = .ok (.iload_n 3, 1) := by decide +kernel
theorem dX4_houseTold_89 : decode cX4_houseTold 89 = .ok (.iastore, 1) := by decide +kernel
theorem dX4_houseTold_90 : decode cX4_houseTold 90 = .ok (.dup, 1) := by decide +kernel
theorem dX4_houseTold_91 : decode cX4_houseTold 91 = .ok (.iconst 4, 1) := by decide +kernel
theorem dX4_houseTold_92 : decode cX4_houseTold 92 = .ok (.aload_n 0, 1) := by decide +kernel
theorem dX4_houseTold_93 : decode cX4_houseTold 93 = .ok (.getfield 147, 3) := by decide +kernel
theorem dX4_houseTold_96 : decode cX4_houseTold 96 = .ok (.iastore, 1) := by decide +kernel
theorem dX4_houseTold_97 : decode cX4_houseTold 97 = .ok (.astore 4, 2) := by decide +kernel
theorem dX4_houseTold_99 : decode cX4_houseTold 99 = .ok (.aload 4, 2) := by decide +kernel
theorem dX4_houseTold_101 : decode cX4_houseTold 101 = .ok (.iload_n 1, 1) := by decide +kernel
theorem dX4_houseTold_102 : decode cX4_houseTold 102 = .ok (.iaload, 1) := by decide +kernel
theorem dX4_houseTold_103 : decode cX4_houseTold 103 = .ok (.ireturn, 1) := by decide +kernel
theorem dX4_house_0 : decode cX4_house 0 = .ok (.aload_n 0, 1) := by decide +kernel
theorem dX4_house_1 : decode cX4_house 1 = .ok (.iload_n 1, 1) := by decide +kernel
theorem dX4_house_2 : decode cX4_house 2 = .ok (.iconst 0, 1) := by decide +kernel
theorem dX4_house_3 : decode cX4_house 3 = .ok (.iconst 4, 1) := by decide +kernel
theorem dX4_house_4 : decode cX4_house 4 = .ok (.invokestatic 90, 3) := by decide +kernel
theorem dX4_house_7 : decode cX4_house 7 = .ok (.ifCond .ne 7, 3) := by decide +kernel
theorem dX4_house_10 : decode cX4_house 10 = .ok (.iconst 1, 1) := by decide +kernel
theorem dX4_house_11 : decode cX4_house 11 = .ok (.goto 4, 3) := by decide +kernel
theorem dX4_house_14 : decode cX4_house 14 = .ok (.iconst 0, 1) := by decide +kernel
theorem dX4_house_15 : decode cX4_house 15 = .ok (.iconst 1, 1) := by decide +kernel
theorem dX4_house_16 : decode cX4_house 16 = .ok (.invokevirtual 110, 3) := by decide +kernel
theorem dX4_house_19 : decode cX4_house 19 = .ok (.ifCond .eq 7, 3) := by decide +kernel
theorem dX4_house_22 : decode cX4_house 22 = .ok (.iconst 0, 1) := by decide +kernel
theorem dX4_house_23 : decode cX4_house 23 = .ok (.goto 8, 3) := by decide +kernel
theorem dX4_house_26 : decode cX4_house 26 = .ok (.aload_n 0, 1) := by decide +kernel
theorem dX4_house_27 : decode cX4_house 27 = .ok (.iload_n 1, 1) := by decide +kernel
theorem dX4_house_28 : decode cX4_house 28 = .ok (.invokevirtual 179, 3) := by decide +kernel
theorem dX4_house_31 : decode cX4_house 31 = .ok (.ireturn, 1) := by decide +kernel
theorem dX4_isTrue_0 : decode cX4_isTrue 0 = .ok (.aload_n 0, 1) := by decide +kernel
theorem dX4_isTrue_1 : decode cX4_isTrue 1 = .ok (.getfield 72, 3) := by decide +kernel
theorem dX4_isTrue_4 : decode cX4_isTrue 4 = .ok (.astore_n 1, 1) := by decide +kernel
theorem dX4_isTrue_5 : decode cX4_isTrue 5 = .ok (.aload_n 1, 1) := by decide +kernel
theorem dX4_isTrue_6 : decode cX4_isTrue 6 = .ok (.arraylength, 1) := by decide +kernel
theorem dX4_isTrue_7 : decode cX4_isTrue 7 = .ok (.istore_n 2, 1) := by decide +kernel
theorem dX4_isTrue_8 : decode cX4_isTrue 8 = .ok (.iconst 0, 1) := by decide +kernel
theorem dX4_isTrue_9 : decode cX4_isTrue 9 = .ok (.istore_n 3, 1) := by decide +kernel
theorem dX4_isTrue_10 : decode cX4_isTrue 10 = .ok (.iload_n 3, 1) := by decide +kernel
theorem dX4_isTrue_11 : decode cX4_isTrue 11 = .ok (.iload_n 2, 1) := by decide +kernel
theorem dX4_isTrue_12 : decode cX4_isTrue 12 = .ok (.if_icmp .ge 136, 3) := by decide +kernel
theorem dX4_isTrue_15 : decode cX4_isTrue 15 = .ok (.aload_n 1, 1) := by decide +kernel
theorem dX4_isTrue_16 : decode cX4_isTrue 16 = .ok (.iload_n 3, 1) := by decide +kernel
theorem dX4_isTrue_17 : decode cX4_isTrue 17 = .ok (.aaload, 1) := by decide +kernel
theorem dX4_isTrue_18 : decode cX4_isTrue 18 = .ok (.astore 4, 2) := by decide +kernel
theorem dX4_isTrue_20 : decode cX4_isTrue 20 = .ok (.aload_n 0, 1) := by decide +kernel
theorem dX4_isTrue_21 : decode cX4_isTrue 21 = .ok (.getfield 72, 3) := by decide +kernel
theorem dX4_isTrue_24 : decode cX4_isTrue 24 = .ok (.astore 5, 2) := by decide +kernel
theorem dX4_isTrue_26 : decode cX4_isTrue 26 = .ok (.aload 5, 2) := by decide +kernel
theorem dX4_isTrue_28 : decode cX4_isTrue 28 = .ok (.arraylength, 1) := by decide +kernel
theorem dX4_isTrue_29 : decode cX4_isTrue 29 = .ok (.istore 6, 2) := by decide +kernel
theorem dX4_isTrue_31 : decode cX4_isTrue 31 = .ok (.iconst 0, 1) := by decide +kernel
theorem dX4_isTrue_32 : decode cX4_isTrue 32 = .ok (.istore 7, 2) := by decide +kernel
theorem dX4_isTrue_34 : decode cX4_isTrue 34 = .ok (.iload 7, 2) := by decide +kernel
theorem dX4_isTrue_36 : decode cX4_isTrue 36 = .ok (.iload 6, 2) := by decide +kernel
theorem dX4_isTrue_38 : decode cX4_isTrue 38 = .ok (.if_icmp .ge 104, 3) := by decide +kernel
theorem dX4_isTrue_41 : decode cX4_isTrue 41 = .ok (.aload 5, 2) := by decide +kernel
theorem dX4_isTrue_43 : decode cX4_isTrue 43 = .ok (.iload 7, 2) := by decide +kernel
theorem dX4_isTrue_45 : decode cX4_isTrue 45 = .ok (.aaload, 1) := by decide +kernel
theorem dX4_isTrue_46 : decode cX4_isTrue 46 = .ok (.astore 8, 2) := by decide +kernel
theorem dX4_isTrue_48 : decode cX4_isTrue 48 = .ok (.aload 4, 2) := by decide +kernel
theorem dX4_isTrue_50 : decode cX4_isTrue 50 = .ok (.aload 8, 2) := by decide +kernel
theorem dX4_isTrue_52 : decode cX4_isTrue 52 = .ok (.iconst 0, 1) := by decide +kernel
theorem dX4_isTrue_53 : decode cX4_isTrue 53 = .ok (.invokestatic 171, 3) := by decide +kernel
theorem dX4_isTrue_56 : decode cX4_isTrue 56 = .ok (.istore 9, 2) := by decide +kernel
theorem dX4_isTrue_58 : decode cX4_isTrue 58 = .ok (.iload 9, 2) := by decide +kernel
theorem dX4_isTrue_60 : decode cX4_isTrue 60 = .ok (.aload 4, 2) := by decide +kernel
theorem dX4_isTrue_62 : decode cX4_isTrue 62 = .ok (.aload 8, 2) := by decide +kernel
theorem dX4_isTrue_64 : decode cX4_isTrue 64 = .ok (.iconst 0, 1) := by decide +kernel
theorem dX4_isTrue_65 : decode cX4_isTrue 65 = .ok (.invokestatic 175, 3) := by decide +kernel
theorem dX4_isTrue_68 : decode cX4_isTrue 68 = .ok (.ifCond .ne 7, 3) := by decide +kernel
theorem dX4_isTrue_71 : decode cX4_isTrue 71 = .ok (.iconst 1, 1) := by decide +kernel
theorem dX4_isTrue_72 : decode cX4_isTrue 72 = .ok (.goto 4, 3) := by decide +kernel
theorem dX4_isTrue_75 : decode cX4_isTrue 75 = .ok (.iconst 0, 1) := by decide +kernel
theorem dX4_isTrue_76 : decode cX4_isTrue 76 = .ok (.if_icmp .ne 58, 3) := by decide +kernel
theorem dX4_isTrue_79 : decode cX4_isTrue 79 = .ok (.aload 4, 2) := by decide +kernel
theorem dX4_isTrue_81 : decode cX4_isTrue 81 = .ok (.aload 8, 2) := by decide +kernel
theorem dX4_isTrue_83 : decode cX4_isTrue 83 = .ok (.iconst 0, 1) := by decide +kernel
theorem dX4_isTrue_84 : decode cX4_isTrue 84 = .ok (.invokestatic 175, 3) := by decide +kernel
theorem dX4_isTrue_87 : decode cX4_isTrue 87 = .ok (.aload 8, 2) := by decide +kernel
theorem dX4_isTrue_89 : decode cX4_isTrue 89 = .ok (.aload 4, 2) := by decide +kernel
theorem dX4_isTrue_91 : decode cX4_isTrue 91 = .ok (.iconst 0, 1) := by decide +kernel
theorem dX4_isTrue_92 : decode cX4_isTrue 92 = .ok (.invokestatic 175, 3) := by decide +kernel
theorem dX4_isTrue_95 : decode cX4_isTrue 95 = .ok (.ineg, 1) := by decide +kernel
theorem dX4_isTrue_96 : decode cX4_isTrue 96 = .ok (.if_icmp .ne 38, 3) := by decide +kernel
theorem dX4_isTrue_99 : decode cX4_isTrue 99 = .ok (.iload 9, 2) := by decide +kernel
theorem dX4_isTrue_101 : decode cX4_isTrue 101 = .ok (.ifCond .eq 16, 3) := by decide +kernel
theorem dX4_isTrue_104 : decode cX4_isTrue 104 = .ok (.aload 4, 2) := by decide +kernel
theorem dX4_isTrue_106 : decode cX4_isTrue 106 = .ok (.invokestatic 156, 3) := by decide +kernel
theorem dX4_isTrue_109 : decode cX4_isTrue 109 = .ok (.aload 8, 2) := by decide +kernel
theorem dX4_isTrue_111 : decode cX4_isTrue 111 = .ok (.invokestatic 156, 3) := by decide +kernel
theorem dX4_isTrue_114 : decode cX4_isTrue 114 = .ok (.if_icmp .ne 20, 3) := by decide +kernel
theorem dX4_isTrue_117 : decode cX4_isTrue 117 = .ok (.aload 4, 2) := by decide +kernel
theorem dX4_isTrue_119 : decode cX4_isTrue 119 = .ok (.aload 8, 2) := by decide +kernel
theorem dX4_isTrue_121 : decode cX4_isTrue 121 = .ok (.invokestatic 164, 3) := by decide +kernel
theorem dX4_isTrue_124 : decode cX4_isTrue 124 = .ok (.aload 4, 2) := by decide +kernel
theorem dX4_isTrue_126 : decode cX4_isTrue 126 = .ok (.aload 8, 2) := by decide +kernel
theorem dX4_isTrue_128 : decode cX4_isTrue 128 = .ok (.invokestatic 160, 3) := by decide +kernel
theorem dX4_isTrue_131 : decode cX4_isTrue 131 = .ok (.if_icmp .ge 5, 3) := by decide +kernel
theorem dX4_isTrue_134 : decode cX4_isTrue 134 = .ok (.iconst 0, 1) := by decide +kernel
theorem dX4_isTrue_135 : decode cX4_isTrue 135 = .ok (.ireturn, 1) := by decide +kernel
theorem dX4_isTrue_136 : decode cX4_isTrue 136 = .ok (.iinc 7 1, 3) := by decide +kernel
theorem dX4_isTrue_139 : decode cX4_isTrue 139 = .ok (.goto (-105), 3) := by decide +kernel
theorem dX4_isTrue_142 : decode cX4_isTrue 142 = .ok (.iinc 3 1, 3) := by decide +kernel
theorem dX4_isTrue_145 : decode cX4_isTrue 145 = .ok (.goto (-135), 3) := by decide +kernel
theorem dX4_isTrue_148 : decode cX4_isTrue 148 = .ok (.iconst 1, 1) := by decide +kernel
theorem dX4_isTrue_149 : decode cX4_isTrue 149 = .ok (.ireturn, 1) := by decide +kernel
theorem dX4_isSound_0 : decode cX4_isSound 0 = .ok (.aload_n 0, 1) := by decide +kernel
theorem dX4_isSound_1 : decode cX4_isSound 1 = .ok (.iconst 0, 1) := by decide +kernel
theorem dX4_isSound_2 : decode cX4_isSound 2 = .ok (.putfield 82, 3) := by decide +kernel
theorem dX4_isSound_5 : decode cX4_isSound 5 = .ok (.aload_n 0, 1) := by decide +kernel
theorem dX4_isSound_6 : decode cX4_isSound 6 = .ok (.invokevirtual 182, 3) := by decide +kernel
theorem dX4_isSound_9 : decode cX4_isSound 9 = .ok (.ireturn, 1) := by decide +kernel
abbrev rmX4_houseTold : Room := { frames := 2, cells := 1, slots := 5, locals := 40 }
theorem mX4_houseTold {l : Launch} {G : Cx} {A : Nat → Prop} {am xa : Nat} {X : Nat → List Nat} {P : List (List Nat)} {k : Int32} {w9 : Nat} {th : Int32} (hw9 : w9 < 5) : Met l yX4_houseTold (.code yX4_houseTold cX4_houseTold 8 (some .int) :: GW) rmX4_houseTold (PC G A [.ref am, .int (nI w9)] (MW G A am xa X P k th)) (qI A (fun r H => r = hmV X P k w9 ∧ MW G A am xa X P k th H)) 1 5 (A) := by
  refine mstart "SigntextModel" (by decide +kernel) rfl (Nat.le_of_ble_eq_true rfl) ?_
  intro p e s m below meth c ls hx hb hr hts hown hml hlocks hname hC hA hW hl
  have hl : lv_has ls 8 [(0, .ref am), (1, .int (nI w9))] := hl
  have hK := hC.1
  have hS : va_S A s.heap s.heap [] := va_S.rf
  obtain ⟨ra, pa, tx, hW⟩ := hW
  have hO := hW.obj
  have hAm := hW.1
  have hXa := hW.txs
  refine lv_iconst (v := nI 0) hx hb dX4_houseTold_0 (by decide) ?_
  refine lv_istore_n (lv' := [(2, .int (nI 0)), (0, .ref am), (1, .int (nI w9))]) hx hb dX4_houseTold_1 rfl hl (by decide) rfl (fun ls hl => ?_)
  refine lv_iconst (v := nI 0) hx hb dX4_houseTold_2 (by decide) ?_
  refine lv_istore_n (lv' := [(3, .int (nI 0)), (2, .int (nI 0)), (0, .ref am), (1, .int (nI w9))]) hx hb dX4_houseTold_3 rfl hl (by decide) rfl (fun ls hl => ?_)
  refine lv_aload_n hx hb dX4_houseTold_4 rfl (lv_at hl 2 rfl) ?_
  refine va_get (D := G.1) (ci := 8) (C := RX4) (T := TX4) (N := 5) hx hb hts inX4 hown hK (at_P hO) 0 rfl rfl 1 (by decide) (hts _ tw_4_173) (fun _ h9 => h9) rfl dX4_houseTold_5 ?_
  refine lv_astore (lv' := [(4, .ref xa), (3, .int (nI 0)), (2, .int (nI 0)), (0, .ref am), (1, .int (nI w9))]) hx hb dX4_houseTold_8 hl (by decide) rfl (fun ls hl => ?_)
  refine lv_aload hx hb dX4_houseTold_10 (lv_at hl 0 rfl) ?_
  refine va_alen hx hb hK (at_P hXa) 0 4 (v := nI 4) rfl rfl rfl dX4_houseTold_12 ?_
  refine lv_istore (lv' := [(5, .int (nI 4)), (4, .ref xa), (3, .int (nI 0)), (2, .int (nI 0)), (0, .ref am), (1, .int (nI w9))]) hx hb dX4_houseTold_13 hl (by decide) rfl (fun ls hl => ?_)
  refine lv_iconst (v := nI 0) hx hb dX4_houseTold_15 (by decide) ?_
  refine lv_istore (lv' := [(6, .int (nI 0)), (5, .int (nI 4)), (4, .ref xa), (3, .int (nI 0)), (2, .int (nI 0)), (0, .ref am), (1, .int (nI w9))]) hx hb dX4_houseTold_16 hl (by decide) rfl (fun ls hl => ?_)
  have hl : lv_has ls 8 [(6, .int (nI 0)), (5, .int (nI 4)), (4, .ref xa), (3, .int (nI (cntE X 0))), (2, .int (nI (sumL X 0))), (0, .ref am), (1, .int (nI w9))] := (lv_sub hl [0, 1, 2, 3, 4, 5, 6] rfl)
  refine nloop (P := fun j => ∀ (ls : Array Slot) , lv_has ls 8 [(6, .int (nI j)), (5, .int (nI 4)), (4, .ref xa), (3, .int (nI (cntE X j))), (2, .int (nI (sumL X j))), (0, .ref am), (1, .int (nI w9))] → W p l e rmX4_houseTold s m [.ref am, .int (nI w9)].toArray below meth c s.heap [] 0 0 (MQ below (qI A (fun r H => r = hmV X P k w9 ∧ MW G A am xa X P k th H)) [.ref am, .int (nI w9)].toArray s 1 5 (A)) (F0 m 18 ls [])) 4 ?_ 0 (Nat.zero_le _) ls  hl 
  clear hl
  intro j hj ih ls  hl
  refine lv_iload hx hb dX4_houseTold_18 (lv_at hl 0 rfl) ?_
  refine lv_iload hx hb dX4_houseTold_20 (lv_at hl 1 rfl) ?_
  refine b_ge (tgt := 61) hx hb dX4_houseTold_22 (by decide) (by omega) (by omega) (fun c_1 => ?_) (fun c_1 => ?_)
  · have e4 : j = 4 := by omega
    subst e4
    clear ih
    have sl := sumX_le (X := X) (fun i hi => (hW.2.2.1 i (Or.inl hi)).2) 4 (Nat.le_refl _)
    have cl := cntE_le X 4
    have hp61 := hW.2.2.2.2.2.2.2.2.2.2.2.1
    have hW0 := hW
    refine lv_iconst (v := nI 5) hx hb dX4_houseTold_61 (by decide) ?_
    refine h_newa (D := G.1) (atype := .int) (N := 5) (z := (5, .inl (fun _ => 0))) hx hb (hts _ tw_1_70) rfl (fun h => h) hK 0 rfl hS rfl (nI_pos (by omega)) (nI_clamp (by omega)) (show 5 * _ ≤ _ from by show 5 * 4 ≤ 536870912; omega) (Nat.le_trans (show 0 + 1 ≤ 1 by omega) (Nat.le_of_ble_eq_true rfl)) (Nat.le_trans (show 0 + 5 ≤ 5 by omega) (Nat.le_of_ble_eq_true rfl)) dX4_houseTold_62 (fun na H2 hna hFna z2 o2 hS => ?_)
    have hZ2 := hS.1
    have hMna : A na := hA na (by omega)
    have hW := hW0.nw (kp.new z2 o2)
    have hO := hW.obj
    refine lv_dup hx hb dX4_houseTold_64 rfl ?_
    refine lv_iconst (v := nI 0) hx hb dX4_houseTold_65 (by decide) ?_
    refine lv_aload_n hx hb dX4_houseTold_66 rfl (lv_at hl 5 rfl) ?_
    refine va_get (D := G.1) (ci := 8) (C := RX4) (T := TX4) (N := 5) hx hb hts inX4 hown hK (at_P hO) 0 rfl rfl 2 (by decide) (hts _ tw_4_174) (fun _ h9 => h9) rfl dX4_houseTold_67 ?_
    have hR1 := hW.row.ia hC.2.1.2
    have x11 := hW.2.2.1 11 (Or.inr rfl)
    refine h_ilen hx hb hC.2.1 hR1 dX4_houseTold_70 ?_
    refine h_ist (D := G.1) hx hb hK 0 hFna rfl hS hMna (vp_in_nI (n := 0) (N := 5) (by omega) (by omega)) dX4_houseTold_71 (fun H3 L3 hFna z3 o3 hS => ?_)
    rw [nI_clamp (n := 0) (by omega)] at hFna
    have hZ3 := hS.1
    have hW := hW0.nw ((kp.new z2 o2).tr (kp_w1 (A := nw s.heap.size) (by rw [hna]; exact Nat.le_refl _) z3 o3))
    have hO := hW.obj
    refine lv_dup hx hb dX4_houseTold_72 rfl ?_
    refine lv_iconst (v := nI 1) hx hb dX4_houseTold_73 (by decide) ?_
    refine lv_aload_n hx hb dX4_houseTold_74 rfl (lv_at hl 5 rfl) ?_
    refine va_get (D := G.1) (ci := 8) (C := RX4) (T := TX4) (N := 5) hx hb hts inX4 hown hK (at_P hO) 0 rfl rfl 3 (by decide) (hts _ tw_4_175) (fun _ h9 => h9) rfl dX4_houseTold_75 ?_
    obtain ⟨md, ed, hPa⟩ := MWx_pl hW
    refine kV_i (A := A) (b := pa) (As := []) (rest := .int (nI 1) :: .ref na :: .ref na :: []) ⟨hx, hb, hml, hown, hts⟩ (mJx4a65c_size_8abf5 (A := A) (ed := ed) (n := P.length) (md := md) (by omega)) (cwV 0 hts (gV tw_5_148 tw_5_149 tw_5_150 tw_1_11 tw_5_151) rfl rfl rfl (by decide +kernel) ⟨Nat.le_of_ble_eq_true rfl, Nat.le_of_ble_eq_true rfl⟩) hC hS hA (at_recv hK hPa (q := (RJx4a65c, TJx4a65c, 3)) rfl) hPa rfl rfl hl.1 (Nat.le_of_ble_eq_true rfl) ⟨Nat.le_trans (show (0 + 1) ≤ 1 by omega) (Nat.le_of_ble_eq_true rfl), Nat.le_trans (show (0 + 5) ≤ 5 by omega) (Nat.le_of_ble_eq_true rfl)⟩ dX4_houseTold_78 (fun r9 h9 => lv_cv h9 ?_)
    refine h_ist (D := G.1) hx hb hK 0 hFna rfl hS hMna (vp_in_nI (n := 1) (N := 5) (by omega) (by omega)) dX4_houseTold_81 (fun H4 L4 hFna z4 o4 hS => ?_)
    rw [nI_clamp (n := 1) (by omega)] at hFna
    have hZ4 := hS.1
    have hW := hW0.nw (((kp.new z2 o2).tr (kp_w1 (A := nw s.heap.size) (by rw [hna]; exact Nat.le_refl _) z3 o3)).tr (kp_w1 (A := nw s.heap.size) (by rw [hna]; exact Nat.le_refl _) z4 o4))
    have hO := hW.obj
    refine lv_dup hx hb dX4_houseTold_82 rfl ?_
    refine lv_iconst (v := nI 2) hx hb dX4_houseTold_83 (by decide) ?_
    refine lv_iload_n hx hb dX4_houseTold_84 rfl (lv_at hl 4 rfl) ?_
    refine h_ist (D := G.1) hx hb hK 0 hFna rfl hS hMna (vp_in_nI (n := 2) (N := 5) (by omega) (by omega)) dX4_houseTold_85 (fun H5 L5 hFna z5 o5 hS => ?_)
    rw [nI_clamp (n := 2) (by omega)] at hFna
    have hZ5 := hS.1
    have hW := hW0.nw ((((kp.new z2 o2).tr (kp_w1 (A := nw s.heap.size) (by rw [hna]; exact Nat.le_refl _) z3 o3)).tr (kp_w1 (A := nw s.heap.size) (by rw [hna]; exact Nat.le_refl _) z4 o4)).tr (kp_w1 (A := nw s.heap.size) (by rw [hna]; exact Nat.le_refl _) z5 o5))
    have hO := hW.obj
    refine lv_dup hx hb dX4_houseTold_86 rfl ?_
    refine lv_iconst (v := nI 3) hx hb dX4_houseTold_87 (by decide) ?_
    refine lv_iload_n hx hb dX4_houseTold_88 rfl (lv_at hl 3 rfl) ?_
    refine h_ist (D := G.1) hx hb hK 0 hFna rfl hS hMna (vp_in_nI (n := 3) (N := 5) (by omega) (by omega)) dX4_houseTold_89 (fun H6 L6 hFna z6 o6 hS => ?_)
    rw [nI_clamp (n := 3) (by omega)] at hFna
    have hZ6 := hS.1
    have hW := hW0.nw (((((kp.new z2 o2).tr (kp_w1 (A := nw s.heap.size) (by rw [hna]; exact Nat.le_refl _) z3 o3)).tr (kp_w1 (A := nw s.heap.size) (by rw [hna]; exact Nat.le_refl _) z4 o4)).tr (kp_w1 (A := nw s.heap.size) (by rw [hna]; exact Nat.le_refl _) z5 o5)).tr (kp_w1 (A := nw s.heap.size) (by rw [hna]; exact Nat.le_refl _) z6 o6))
    have hO := hW.obj
    refine lv_dup hx hb dX4_houseTold_90 rfl ?_
    refine lv_iconst (v := nI 4) hx hb dX4_houseTold_91 (by decide) ?_
    refine lv_aload_n hx hb dX4_houseTold_92 rfl (lv_at hl 5 rfl) ?_
    refine va_get (D := G.1) (ci := 8) (C := RX4) (T := TX4) (N := 5) hx hb hts inX4 hown hK (at_P hO) 0 rfl rfl 4 (by decide) (hts _ tw_4_176) (fun _ h9 => h9) rfl dX4_houseTold_93 ?_
    refine h_ist (D := G.1) hx hb hK 0 hFna rfl hS hMna (vp_in_nI (n := 4) (N := 5) (by omega) (by omega)) dX4_houseTold_96 (fun H7 L7 hFna z7 o7 hS => ?_)
    rw [nI_clamp (n := 4) (by omega)] at hFna
    have hZ7 := hS.1
    have hW := hW0.nw ((((((kp.new z2 o2).tr (kp_w1 (A := nw s.heap.size) (by rw [hna]; exact Nat.le_refl _) z3 o3)).tr (kp_w1 (A := nw s.heap.size) (by rw [hna]; exact Nat.le_refl _) z4 o4)).tr (kp_w1 (A := nw s.heap.size) (by rw [hna]; exact Nat.le_refl _) z5 o5)).tr (kp_w1 (A := nw s.heap.size) (by rw [hna]; exact Nat.le_refl _) z6 o6)).tr (kp_w1 (A := nw s.heap.size) (by rw [hna]; exact Nat.le_refl _) z7 o7))
    have hO := hW.obj
    refine lv_astore (lv' := [(4, .ref na), (6, .int (nI 4)), (5, .int (nI 4)), (3, .int (nI (cntE X 4))), (2, .int (nI (sumL X 4))), (0, .ref am), (1, .int (nI w9))]) hx hb dX4_houseTold_97 hl (by decide) rfl (fun ls hl => ?_)
    refine lv_aload hx hb dX4_houseTold_99 (lv_at hl 0 rfl) ?_
    refine lv_iload_n hx hb dX4_houseTold_101 rfl (lv_at hl 6 rfl) ?_
    refine va_iald hx hb hK (at_P hFna) 0 0 rfl rfl (vp_in_nI (n := w9) (N := 5) (by omega) (by omega)) dX4_houseTold_102 ?_
    refine lv_cv (show _ = (upd (upd (upd (upd (upd (fun _ => 0) 0 (nI ((X 11).length))) 1 (nI P.length)) 2 (nI (sumL X 4))) 3 (nI (cntE X 4))) 4 k) w9 from by rw [nI_clamp (by omega)]) ?_
    exact q_i hx hb hr hlocks dX4_houseTold_103 hS (by omega) (by omega) ⟨by match w9, hw9 with | 0, _ => rfl | 1, _ => rfl | 2, _ => rfl | 3, _ => rfl | 4, _ => rfl, ra, pa, tx, hW⟩
  · have hXa := hW.txs
    refine lv_aload hx hb dX4_houseTold_25 (lv_at hl 2 rfl) ?_
    refine lv_iload hx hb dX4_houseTold_27 (lv_at hl 0 rfl) ?_
    refine h_aaldI (D := G.1) hx hb hK 4 hW.txs rfl (vp_in_nI (n := j) (N := 4) (by omega) (by omega)) dX4_houseTold_29 ?_
    refine v_cv (show va_rf _ = .ref (tx j) from by rw [nI_clamp (n := j) (by omega)]; rfl) ?_
    have hTj := (hW.tx (j := j) (by omega)).ia hC.2.1.2
    have x60j := hW.2.2.1 j (Or.inl (by omega))
    have j60 := x60j.2
    refine lv_astore (lv' := [(7, .ref (tx j)), (6, .int (nI j)), (5, .int (nI 4)), (4, .ref xa), (3, .int (nI (cntE X j))), (2, .int (nI (sumL X j))), (0, .ref am), (1, .int (nI w9))]) hx hb dX4_houseTold_30 hl (by decide) rfl (fun ls hl => ?_)
    refine lv_iload_n hx hb dX4_houseTold_32 rfl (lv_at hl 5 rfl) ?_
    refine lv_aload hx hb dX4_houseTold_33 (lv_at hl 0 rfl) ?_
    refine h_ilen hx hb hC.2.1 hTj dX4_houseTold_35 ?_
    refine lv_iadd hx hb dX4_houseTold_36 ?_
    refine lv_cv (nI_add (sumL X j) ((X j).length)) ?_
    refine lv_istore_n (lv' := [(2, .int (nI (sumL X j + (X j).length))), (7, .ref (tx j)), (6, .int (nI j)), (5, .int (nI 4)), (4, .ref xa), (3, .int (nI (cntE X j))), (0, .ref am), (1, .int (nI w9))]) hx hb dX4_houseTold_37 rfl hl (by decide) rfl (fun ls hl => ?_)
    refine lv_iload_n hx hb dX4_houseTold_38 rfl (lv_at hl 5 rfl) ?_
    refine lv_aload hx hb dX4_houseTold_39 (lv_at hl 1 rfl) ?_
    refine h_ilen hx hb hC.2.1 hTj dX4_houseTold_41 ?_
    refine z_ne (tgt := 49) hx hb dX4_houseTold_42 (by decide) (by omega) (fun c_8 => ?_) (fun c_8 => ?_)
    · refine lv_iconst (v := nI 0) hx hb dX4_houseTold_49 (by decide) ?_
      refine kS_i (A := A) (As := [.int (bI false)]) (rest := .int (nI (cntE X j)) :: []) ⟨hx, hb, hml, hown, hts⟩ (mX4_one (A := A) ) (va_cwS 1 hts (gS tw_5_26 tw_5_27 tw_1_8 tw_5_28) rfl rfl rfl (by decide +kernel) ⟨Nat.le_of_ble_eq_true rfl, Nat.le_of_ble_eq_true rfl⟩) hC hS hA  trivial rfl rfl hl.1 (Nat.le_of_ble_eq_true rfl) ⟨Nat.zero_le _, Nat.zero_le _⟩ dX4_houseTold_50 (fun r9 h9 => lv_cv h9 ?_)
      refine lv_cv (show bI false = nI 0 from rfl) ?_
      refine lv_iadd hx hb dX4_houseTold_53 ?_
      refine lv_cv (nI_add (cntE X j) 0) ?_
      have ec : cntE X (j + 1) = cntE X j + 0 := if_neg c_8
      rw [← ec]
      refine lv_istore_n (lv' := [(3, .int (nI (cntE X (j + 1)))), (2, .int (nI (sumL X j + (X j).length))), (7, .ref (tx j)), (6, .int (nI j)), (5, .int (nI 4)), (4, .ref xa), (0, .ref am), (1, .int (nI w9))]) hx hb dX4_houseTold_54 rfl hl (by decide) rfl (fun ls hl => ?_)
      refine lv_iinc (v := nI (j + 1)) (lv' := [(6, .int (nI (j + 1))), (3, .int (nI (cntE X (j + 1)))), (2, .int (nI (sumL X j + (X j).length))), (7, .ref (tx j)), (5, .int (nI 4)), (4, .ref xa), (0, .ref am), (1, .int (nI w9))]) hx hb dX4_houseTold_55 hl (k := 3) rfl (nI_add j 1) (by decide) rfl (fun ls hl => ?_)
      refine lv_goto (tgt := 18) hx hb dX4_houseTold_58 (by decide) ?_
      exact ih (j + 1) (by omega) (by omega) ls (lv_sub hl [0, 4, 5, 1, 2, 6, 7] rfl)
    · refine lv_iconst (v := nI 1) hx hb dX4_houseTold_45 (by decide) ?_
      refine lv_goto (tgt := 50) hx hb dX4_houseTold_46 (by decide) ?_
      refine kS_i (A := A) (As := [.int (bI true)]) (rest := .int (nI (cntE X j)) :: []) ⟨hx, hb, hml, hown, hts⟩ (mX4_one (A := A) ) (va_cwS 1 hts (gS tw_5_26 tw_5_27 tw_1_8 tw_5_28) rfl rfl rfl (by decide +kernel) ⟨Nat.le_of_ble_eq_true rfl, Nat.le_of_ble_eq_true rfl⟩) hC hS hA  trivial rfl rfl hl.1 (Nat.le_of_ble_eq_true rfl) ⟨Nat.zero_le _, Nat.zero_le _⟩ dX4_houseTold_50 (fun r9 h9 => lv_cv h9 ?_)
      refine lv_cv (show bI true = nI 1 from rfl) ?_
      refine lv_iadd hx hb dX4_houseTold_53 ?_
      refine lv_cv (nI_add (cntE X j) 1) ?_
      have ec : cntE X (j + 1) = cntE X j + 1 := if_pos c_8
      rw [← ec]
      refine lv_istore_n (lv' := [(3, .int (nI (cntE X (j + 1)))), (2, .int (nI (sumL X j + (X j).length))), (7, .ref (tx j)), (6, .int (nI j)), (5, .int (nI 4)), (4, .ref xa), (0, .ref am), (1, .int (nI w9))]) hx hb dX4_houseTold_54 rfl hl (by decide) rfl (fun ls hl => ?_)
      refine lv_iinc (v := nI (j + 1)) (lv' := [(6, .int (nI (j + 1))), (3, .int (nI (cntE X (j + 1)))), (2, .int (nI (sumL X j + (X j).length))), (7, .ref (tx j)), (5, .int (nI 4)), (4, .ref xa), (0, .ref am), (1, .int (nI w9))]) hx hb dX4_houseTold_55 hl (k := 3) rfl (nI_add j 1) (by decide) rfl (fun ls hl => ?_)
      refine lv_goto (tgt := 18) hx hb dX4_houseTold_58 (by decide) ?_
      exact ih (j + 1) (by omega) (by omega) ls (lv_sub hl [0, 4, 5, 1, 2, 6, 7] rfl)

abbrev rmX4_house : Room := { frames := 3, cells := 1, slots := 5, locals := 67 }
theorem mX4_house {l : Launch} {G : Cx} {A : Nat → Prop} {am xa : Nat} {X : Nat → List Nat} {P : List (List Nat)} {k : Int32} {x th : Int32} : Met l yX4_house (.code yX4_house cX4_house 2 (some .int) :: GW) rmX4_house (PC G A [.ref am, .int x] (MW G A am xa X P k th)) (qI A (fun r H => ((¬ ∃ w9 : Nat, w9 < 5 ∧ x = nI w9) ∧ r = 0 ∧ MW G A am xa X P k 1 H) ∨ ∃ w9 : Nat, w9 < 5 ∧ x = nI w9 ∧ r = hmV X P k w9 ∧ MW G A am xa X P k 0 H)) 1 5 (A) := by
  refine mstart "SigntextModel" (by decide +kernel) rfl (Nat.le_of_ble_eq_true rfl) ?_
  intro p e s m below meth c ls hx hb hr hts hown hml hlocks hname hC hA hW hl
  have hl : lv_has ls 2 [(0, .ref am), (1, .int x)] := hl
  have hK := hC.1
  have hS : va_S A s.heap s.heap [] := va_S.rf
  obtain ⟨ra, pa, tx, hW⟩ := hW
  have hO := hW.obj
  have hAm := hW.1
  refine lv_aload_n hx hb dX4_house_0 rfl (lv_at hl 0 rfl) ?_
  refine lv_iload_n hx hb dX4_house_1 rfl (lv_at hl 1 rfl) ?_
  refine lv_iconst (v := nI 0) hx hb dX4_house_2 (by decide) ?_
  refine lv_iconst (v := nI 4) hx hb dX4_house_3 (by decide) ?_
  refine kS_i (A := A) (As := [.int x, .int (nI 0), .int (nI 4)]) (rest := .ref am :: []) ⟨hx, hb, hml, hown, hts⟩ (mX4_isIn (A := A) ) (va_cwS 3 hts (gS tw_4_197 tw_4_198 tw_1_8 tw_4_199) rfl rfl rfl (by decide +kernel) ⟨Nat.le_of_ble_eq_true rfl, Nat.le_of_ble_eq_true rfl⟩) hC hS hA  trivial rfl rfl hl.1 (Nat.le_of_ble_eq_true rfl) ⟨Nat.zero_le _, Nat.zero_le _⟩ dX4_house_4 (fun r9 h9 => lv_cv h9 ?_)
  refine f_ne (tgt := 14) hx hb dX4_house_7 (by decide) (fun c_9 => ?_) (fun c_9 => ?_)
  · obtain ⟨w9, hw9, rfl⟩ := (rngI (n := 4) (by omega)).mp (of_decide_eq_true c_9)
    refine lv_iconst (v := nI 0) hx hb dX4_house_14 (by decide) ?_
    refine lv_iconst (v := nI 1) hx hb dX4_house_15 (by decide) ?_
    refine qI_V (A := A) (A1 := A) (b := am) (As := [.int (bI false), .int (nI 1)]) (rest := []) ⟨hx, hb, hml, hown, hts⟩ (mX4_start (A := A) (X := X) (P := P) (k := k) (xa := xa) (b := false) (w9 := 1) (by decide)) (cwV 2 hts (gV tw_4_206 tw_4_208 sel_X4_start tw_1_8 tw_4_209) rfl rfl rfl (by decide +kernel) ⟨Nat.le_of_ble_eq_true rfl, Nat.le_of_ble_eq_true rfl⟩) hC hS (fun _ h => h) (fun q h => hA q (Nat.le_trans hS.1 h)) (hW.recv hK) ⟨ra, pa, tx, hW⟩ rfl rfl hl.1 (Nat.le_of_ble_eq_true rfl) ⟨Nat.zero_le _, Nat.zero_le _⟩ dX4_house_16 (fun rv10 H10 L10 hP10 hk10 hS => ?_)
    have hZ10 := hS.1
    obtain ⟨hr10, hM10⟩ := hP10
    subst hr10
    obtain ⟨ra, pa, tx, hW⟩ := hM10
    have hW : MWx G A am xa ra pa tx X P k (nI 0) H10 := hW
    have hO := hW.obj
    have hAm := hW.1
    refine f_eq (tgt := 26) hx hb dX4_house_19 (by decide) (fun c_11 => ?_) (fun c_11 => ?_)
    · refine lv_aload_n hx hb dX4_house_26 rfl (lv_at hl 0 rfl) ?_
      refine lv_iload_n hx hb dX4_house_27 rfl (lv_at hl 1 rfl) ?_
      refine qI_V (A := A) (A1 := A) (b := am) (As := [.int (nI w9)]) (rest := []) ⟨hx, hb, hml, hown, hts⟩ (mX4_houseTold (A := A) (X := X) (P := P) (k := k) (xa := xa) (w9 := w9) (by omega)) (cwV 1 hts (gV tw_7_14 tw_7_16 sel_X4_houseTold tw_1_8 tw_7_17) rfl rfl rfl (by decide +kernel) ⟨Nat.le_of_ble_eq_true rfl, Nat.le_of_ble_eq_true rfl⟩) hC hS (fun _ h => h) (fun q h => hA q (Nat.le_trans hS.1 h)) (hW.recv hK) ⟨ra, pa, tx, hW⟩ rfl rfl hl.1 (Nat.le_of_ble_eq_true rfl) ⟨Nat.le_trans (show 0 + 1 ≤ 1 by omega) (Nat.le_of_ble_eq_true rfl), Nat.le_trans (show 0 + 5 ≤ 5 by omega) (Nat.le_of_ble_eq_true rfl)⟩ dX4_house_28 (fun rv12 H12 L12 hP12 hk12 hS => ?_)
      have hZ12 := hS.1
      exact q_i hx hb hr hlocks dX4_house_31 hS (by omega) (by omega) (Or.inr (⟨w9, by omega, rfl, hP12.1, hP12.2⟩))
    · exact absurd c_11 (by decide)
  · refine lv_iconst (v := nI 1) hx hb dX4_house_10 (by decide) ?_
    refine lv_goto (tgt := 15) hx hb dX4_house_11 (by decide) ?_
    refine lv_iconst (v := nI 1) hx hb dX4_house_15 (by decide) ?_
    refine qI_V (A := A) (A1 := A) (b := am) (As := [.int (bI true), .int (nI 1)]) (rest := []) ⟨hx, hb, hml, hown, hts⟩ (mX4_start (A := A) (X := X) (P := P) (k := k) (xa := xa) (b := true) (w9 := 1) (by decide)) (cwV 2 hts (gV tw_4_206 tw_4_208 sel_X4_start tw_1_8 tw_4_209) rfl rfl rfl (by decide +kernel) ⟨Nat.le_of_ble_eq_true rfl, Nat.le_of_ble_eq_true rfl⟩) hC hS (fun _ h => h) (fun q h => hA q (Nat.le_trans hS.1 h)) (hW.recv hK) ⟨ra, pa, tx, hW⟩ rfl rfl hl.1 (Nat.le_of_ble_eq_true rfl) ⟨Nat.zero_le _, Nat.zero_le _⟩ dX4_house_16 (fun rv13 H13 L13 hP13 hk13 hS => ?_)
    have hZ13 := hS.1
    obtain ⟨hr13, hM13⟩ := hP13
    subst hr13
    obtain ⟨ra, pa, tx, hW⟩ := hM13
    have hW : MWx G A am xa ra pa tx X P k (nI 1) H13 := hW
    have hO := hW.obj
    have hAm := hW.1
    refine f_eq (tgt := 26) hx hb dX4_house_19 (by decide) (fun c_14 => ?_) (fun c_14 => ?_)
    · exact absurd c_14 (by decide)
    · refine lv_iconst (v := nI 0) hx hb dX4_house_22 (by decide) ?_
      refine lv_goto (tgt := 31) hx hb dX4_house_23 (by decide) ?_
      exact q_i hx hb hr hlocks dX4_house_31 hS (by omega) (by omega) (Or.inl ⟨(fun ⟨w0, h0, h1⟩ => (fun q => absurd ((rngI (n := 4) (by omega)).mpr q) (of_decide_eq_false c_9)) ⟨w0, by omega, h1⟩), rfl, ra, pa, tx, hW⟩)

abbrev rmX4_isTrue : Room := { frames := 3, cells := 0, slots := 0, locals := 66 }
theorem mX4_isTrue {l : Launch} {G : Cx} {A : Nat → Prop} {am xa : Nat} {X : Nat → List Nat} {P : List (List Nat)} {k : Int32} {th : Int32} : Met l yX4_isTrue (.code yX4_isTrue cX4_isTrue 10 (some .boolean) :: GW) rmX4_isTrue (PC G A [.ref am] (MW G A am xa X P k th)) (vp_Si (fun r => r = bI true)) 0 0 (fun _ => False) := by
  refine mstart "SigntextModel" (by decide +kernel) rfl (Nat.le_of_ble_eq_true rfl) ?_
  intro p e s m below meth c ls hx hb hr hts hown hml hlocks hname hC hA hW hl
  have hl : lv_has ls 10 [(0, .ref am)] := hl
  have hK := hC.1
  have hS : va_S A s.heap s.heap [] := va_S.rf
  obtain ⟨ra, pa, tx, hW⟩ := hW
  have hO := hW.obj
  have hAm := hW.1
  have hXa := hW.txs
  refine lv_aload_n hx hb dX4_isTrue_0 rfl (lv_at hl 0 rfl) ?_
  refine va_get (D := G.1) (ci := 8) (C := RX4) (T := TX4) (N := 5) hx hb hts inX4 hown hK (at_P hO) 0 rfl rfl 1 (by decide) (hts _ tw_4_173) (fun _ h9 => h9) rfl dX4_isTrue_1 ?_
  refine lv_astore_n (lv' := [(1, .ref xa), (0, .ref am)]) hx hb dX4_isTrue_4 rfl hl (by decide) rfl (fun ls hl => ?_)
  refine lv_aload_n hx hb dX4_isTrue_5 rfl (lv_at hl 0 rfl) ?_
  refine va_alen hx hb hK (at_P hXa) 0 4 (v := nI 4) rfl rfl rfl dX4_isTrue_6 ?_
  refine lv_istore_n (lv' := [(2, .int (nI 4)), (1, .ref xa), (0, .ref am)]) hx hb dX4_isTrue_7 rfl hl (by decide) rfl (fun ls hl => ?_)
  refine lv_iconst (v := nI 0) hx hb dX4_isTrue_8 (by decide) ?_
  refine lv_istore_n (lv' := [(3, .int (nI 0)), (2, .int (nI 4)), (1, .ref xa), (0, .ref am)]) hx hb dX4_isTrue_9 rfl hl (by decide) rfl (fun ls hl => ?_)
  refine nloop (P := fun j => ∀ (ls : Array Slot) , lv_has ls 10 [(3, .int (nI j)), (2, .int (nI 4)), (1, .ref xa), (0, .ref am)] → W p l e rmX4_isTrue s m [.ref am].toArray below meth c s.heap [] 0 0 (MQ below (vp_Si (fun r => r = bI true)) [.ref am].toArray s 0 0 (fun _ => False)) (F0 m 10 ls [])) 4 ?_ 0 (Nat.zero_le _) ls  hl 
  clear hl
  intro j hj ih ls  hl
  refine lv_iload_n hx hb dX4_isTrue_10 rfl (lv_at hl 0 rfl) ?_
  refine lv_iload_n hx hb dX4_isTrue_11 rfl (lv_at hl 1 rfl) ?_
  refine b_ge (tgt := 148) hx hb dX4_isTrue_12 (by decide) (by omega) (by omega) (fun c_15 => ?_) (fun c_15 => ?_)
  · refine lv_iconst (v := nI 1) hx hb dX4_isTrue_148 (by decide) ?_
    exact p_z (b := true) hx hb hr hlocks dX4_isTrue_149 rfl
  · have hXa := hW.txs
    refine lv_aload_n hx hb dX4_isTrue_15 rfl (lv_at hl 2 rfl) ?_
    refine lv_iload_n hx hb dX4_isTrue_16 rfl (lv_at hl 0 rfl) ?_
    refine h_aaldI (D := G.1) hx hb hK 4 hW.txs rfl (vp_in_nI (n := j) (N := 4) (by omega) (by omega)) dX4_isTrue_17 ?_
    refine v_cv (show va_rf _ = .ref (tx j) from by rw [nI_clamp (n := j) (by omega)]; rfl) ?_
    have hTj := (hW.tx (j := j) (by omega)).ia hC.2.1.2
    have x60j := hW.2.2.1 j (Or.inl (by omega))
    have j60 := x60j.2
    refine lv_astore (lv' := [(4, .ref (tx j)), (3, .int (nI j)), (2, .int (nI 4)), (1, .ref xa), (0, .ref am)]) hx hb dX4_isTrue_18 hl (by decide) rfl (fun ls hl => ?_)
    refine lv_aload_n hx hb dX4_isTrue_20 rfl (lv_at hl 4 rfl) ?_
    refine va_get (D := G.1) (ci := 8) (C := RX4) (T := TX4) (N := 5) hx hb hts inX4 hown hK (at_P hO) 0 rfl rfl 1 (by decide) (hts _ tw_4_173) (fun _ h9 => h9) rfl dX4_isTrue_21 ?_
    refine lv_astore (lv' := [(5, .ref xa), (4, .ref (tx j)), (3, .int (nI j)), (2, .int (nI 4)), (1, .ref xa), (0, .ref am)]) hx hb dX4_isTrue_24 hl (by decide) rfl (fun ls hl => ?_)
    refine lv_aload hx hb dX4_isTrue_26 (lv_at hl 0 rfl) ?_
    refine va_alen hx hb hK (at_P hXa) 0 4 (v := nI 4) rfl rfl rfl dX4_isTrue_28 ?_
    refine lv_istore (lv' := [(6, .int (nI 4)), (5, .ref xa), (4, .ref (tx j)), (3, .int (nI j)), (2, .int (nI 4)), (1, .ref xa), (0, .ref am)]) hx hb dX4_isTrue_29 hl (by decide) rfl (fun ls hl => ?_)
    refine lv_iconst (v := nI 0) hx hb dX4_isTrue_31 (by decide) ?_
    refine lv_istore (lv' := [(7, .int (nI 0)), (6, .int (nI 4)), (5, .ref xa), (4, .ref (tx j)), (3, .int (nI j)), (2, .int (nI 4)), (1, .ref xa), (0, .ref am)]) hx hb dX4_isTrue_32 hl (by decide) rfl (fun ls hl => ?_)
    have hl : lv_has ls 10 [(7, .int (nI 0)), (6, .int (nI 4)), (5, .ref xa), (4, .ref (tx j)), (3, .int (nI j)), (2, .int (nI 4)), (1, .ref xa), (0, .ref am)] := (lv_sub hl [0, 1, 2, 3, 4, 5, 6, 7] rfl)
    have ihj := ih
    clear ih
    refine nloop (P := fun i => ∀ (ls : Array Slot) , lv_has ls 10 [(7, .int (nI i)), (6, .int (nI 4)), (5, .ref xa), (4, .ref (tx j)), (3, .int (nI j)), (2, .int (nI 4)), (1, .ref xa), (0, .ref am)] → W p l e rmX4_isTrue s m [.ref am].toArray below meth c s.heap [] 0 0 (MQ below (vp_Si (fun r => r = bI true)) [.ref am].toArray s 0 0 (fun _ => False)) (F0 m 34 ls [])) 4 ?_ 0 (Nat.zero_le _) ls  hl 
    clear hl
    intro i hi ih ls  hl
    refine lv_iload hx hb dX4_isTrue_34 (lv_at hl 0 rfl) ?_
    refine lv_iload hx hb dX4_isTrue_36 (lv_at hl 1 rfl) ?_
    refine b_ge (tgt := 142) hx hb dX4_isTrue_38 (by decide) (by omega) (by omega) (fun c_16 => ?_) (fun c_16 => ?_)
    · refine lv_iinc (v := nI (j + 1)) (lv' := [(3, .int (nI (j + 1))), (7, .int (nI i)), (6, .int (nI 4)), (5, .ref xa), (4, .ref (tx j)), (2, .int (nI 4)), (1, .ref xa), (0, .ref am)]) hx hb dX4_isTrue_142 hl (k := 4) rfl (nI_add j 1) (by decide) rfl (fun ls hl => ?_)
      refine lv_goto (tgt := 10) hx hb dX4_isTrue_145 (by decide) ?_
      exact ihj (j + 1) (by omega) (by omega) ls (lv_sub hl [0, 5, 6, 7] rfl)
    · refine lv_aload hx hb dX4_isTrue_41 (lv_at hl 2 rfl) ?_
      refine lv_iload hx hb dX4_isTrue_43 (lv_at hl 0 rfl) ?_
      refine h_aaldI (D := G.1) hx hb hK 4 hW.txs rfl (vp_in_nI (n := i) (N := 4) (by omega) (by omega)) dX4_isTrue_45 ?_
      refine v_cv (show va_rf _ = .ref (tx i) from by rw [nI_clamp (n := i) (by omega)]; rfl) ?_
      have hTi := (hW.tx (j := i) (by omega)).ia hC.2.1.2
      have x60i := hW.2.2.1 i (Or.inl (by omega))
      have i60 := x60i.2
      refine lv_astore (lv' := [(8, .ref (tx i)), (7, .int (nI i)), (6, .int (nI 4)), (5, .ref xa), (4, .ref (tx j)), (3, .int (nI j)), (2, .int (nI 4)), (1, .ref xa), (0, .ref am)]) hx hb dX4_isTrue_46 hl (by decide) rfl (fun ls hl => ?_)
      refine lv_aload hx hb dX4_isTrue_48 (lv_at hl 4 rfl) ?_
      refine lv_aload hx hb dX4_isTrue_50 (lv_at hl 0 rfl) ?_
      refine lv_iconst (v := nI 0) hx hb dX4_isTrue_52 (by decide) ?_
      refine kS_i (A := A) (As := [.ref (tx j), .ref (tx i), .int (bI false)]) (rest := []) ⟨hx, hb, hml, hown, hts⟩ (mX4_isSame (A := A) (t := X j) (u := X i) (b0 := false) x60j.1 x60i.1 (by omega) (by omega)) (va_cwS 3 hts (gS tw_6_220 tw_6_221 tw_1_8 tw_6_222) rfl rfl rfl (by decide +kernel) ⟨Nat.le_of_ble_eq_true rfl, Nat.le_of_ble_eq_true rfl⟩) hC hS hA  ⟨hTj, hTi⟩ rfl rfl hl.1 (Nat.le_of_ble_eq_true rfl) ⟨Nat.zero_le _, Nat.zero_le _⟩ dX4_isTrue_53 (fun r_17 hr_17 => ?_)
      obtain ⟨v9, hv9, rfl⟩ := hr_17
      refine lv_istore (lv' := [(9, .int (bI v9)), (8, .ref (tx i)), (7, .int (nI i)), (6, .int (nI 4)), (5, .ref xa), (4, .ref (tx j)), (3, .int (nI j)), (2, .int (nI 4)), (1, .ref xa), (0, .ref am)]) hx hb dX4_isTrue_56 hl (by decide) rfl (fun ls hl => ?_)
      refine lv_iload hx hb dX4_isTrue_58 (lv_at hl 0 rfl) ?_
      refine lv_aload hx hb dX4_isTrue_60 (lv_at hl 5 rfl) ?_
      refine lv_aload hx hb dX4_isTrue_62 (lv_at hl 1 rfl) ?_
      refine lv_iconst (v := nI 0) hx hb dX4_isTrue_64 (by decide) ?_
      refine kS_i (A := A) (As := [.ref (tx j), .ref (tx i), .int (bI false)]) (rest := .int (bI v9) :: []) ⟨hx, hb, hml, hown, hts⟩ (mX4_order (A := A) (t := X j) (u := X i) (b0 := false) x60j.1 x60i.1 (by omega) (by omega)) (va_cwS 3 hts (gS tw_6_227 tw_6_228 tw_1_8 tw_6_229) rfl rfl rfl (by decide +kernel) ⟨Nat.le_of_ble_eq_true rfl, Nat.le_of_ble_eq_true rfl⟩) hC hS hA  ⟨hTj, hTi⟩ rfl rfl hl.1 (Nat.le_of_ble_eq_true rfl) ⟨Nat.zero_le _, Nat.zero_le _⟩ dX4_isTrue_65 (fun r_18 hr_18 => ?_)
      obtain ⟨o9, ho9, hro9⟩ := hr_18
      have ho1 : ordR false (X j) (X i) r_18 := by rw [hro9, if_neg (by decide)]; exact ho9
      have hz1 := ordR_zero x60j.1 x60i.1 (by omega) (by omega) ho1
      refine lv_if_ne (tgt := 75) hx hb dX4_isTrue_68 (by decide) (fun c_19 => ?_) (fun c_19 => ?_)
      · refine lv_iconst (v := nI 0) hx hb dX4_isTrue_75 (by decide) ?_
        have hvv : v9 = false := by cases e9 : v9; rfl; exact absurd (hz1.mpr (hv9.mp e9)) c_19
        subst hvv
        refine lv_icmp_ne (tgt := 134) hx hb dX4_isTrue_76 (by decide) (fun c_20 => ?_) (fun c_20 => ?_)
        · exact absurd rfl c_20
        · refine lv_aload hx hb dX4_isTrue_79 (lv_at hl 5 rfl) ?_
          refine lv_aload hx hb dX4_isTrue_81 (lv_at hl 1 rfl) ?_
          refine lv_iconst (v := nI 0) hx hb dX4_isTrue_83 (by decide) ?_
          refine kS_i (A := A) (As := [.ref (tx j), .ref (tx i), .int (bI false)]) (rest := []) ⟨hx, hb, hml, hown, hts⟩ (mX4_order (A := A) (t := X j) (u := X i) (b0 := false) x60j.1 x60i.1 (by omega) (by omega)) (va_cwS 3 hts (gS tw_6_227 tw_6_228 tw_1_8 tw_6_229) rfl rfl rfl (by decide +kernel) ⟨Nat.le_of_ble_eq_true rfl, Nat.le_of_ble_eq_true rfl⟩) hC hS hA  ⟨hTj, hTi⟩ rfl rfl hl.1 (Nat.le_of_ble_eq_true rfl) ⟨Nat.zero_le _, Nat.zero_le _⟩ dX4_isTrue_84 (fun r_21 hr_21 => ?_)
          obtain ⟨o9, ho9, hro9⟩ := hr_21
          have ho2 : ordR false (X j) (X i) r_21 := by rw [hro9, if_neg (by decide)]; exact ho9
          refine lv_aload hx hb dX4_isTrue_87 (lv_at hl 1 rfl) ?_
          refine lv_aload hx hb dX4_isTrue_89 (lv_at hl 5 rfl) ?_
          refine lv_iconst (v := nI 0) hx hb dX4_isTrue_91 (by decide) ?_
          refine kS_i (A := A) (As := [.ref (tx i), .ref (tx j), .int (bI false)]) (rest := .int r_21 :: []) ⟨hx, hb, hml, hown, hts⟩ (mX4_order (A := A) (t := X i) (u := X j) (b0 := false) x60i.1 x60j.1 (by omega) (by omega)) (va_cwS 3 hts (gS tw_6_227 tw_6_228 tw_1_8 tw_6_229) rfl rfl rfl (by decide +kernel) ⟨Nat.le_of_ble_eq_true rfl, Nat.le_of_ble_eq_true rfl⟩) hC hS hA  ⟨hTi, hTj⟩ rfl rfl hl.1 (Nat.le_of_ble_eq_true rfl) ⟨Nat.zero_le _, Nat.zero_le _⟩ dX4_isTrue_92 (fun r_22 hr_22 => ?_)
          obtain ⟨o9, ho9, hro9⟩ := hr_22
          have ho3 : ordR false (X i) (X j) r_22 := by rw [hro9, if_neg (by decide)]; exact ho9
          refine lv_ineg hx hb dX4_isTrue_95 ?_
          refine lv_icmp_ne (tgt := 134) hx hb dX4_isTrue_96 (by decide) (fun c_23 => ?_) (fun c_23 => ?_)
          · exact absurd (ordR_neg x60j.1 x60i.1 ho2 ho3) c_23
          · refine lv_iload hx hb dX4_isTrue_99 (lv_at hl 0 rfl) ?_
            refine f_eq (tgt := 117) hx hb dX4_isTrue_101 (by decide) (fun c_24 => ?_) (fun c_24 => ?_)
            · refine lv_aload hx hb dX4_isTrue_117 (lv_at hl 5 rfl) ?_
              refine lv_aload hx hb dX4_isTrue_119 (lv_at hl 1 rfl) ?_
              refine kS_i (A := A) (As := [.ref (tx j), .ref (tx i)]) (rest := []) ⟨hx, hb, hml, hown, hts⟩ (mX4_last (A := A) (t := X j) (u := X i) x60j.1 x60i.1 (by omega) (by omega)) (va_cwS 2 hts (gS tw_6_185 tw_6_186 tw_1_8 tw_6_187) rfl rfl rfl (by decide +kernel) ⟨Nat.le_of_ble_eq_true rfl, Nat.le_of_ble_eq_true rfl⟩) hC hS hA  ⟨hTj, hTi⟩ rfl rfl hl.1 (Nat.le_of_ble_eq_true rfl) ⟨Nat.zero_le _, Nat.zero_le _⟩ dX4_isTrue_121 (fun r_25 hr_25 => ?_)
              have hla : lstR (fun k9 => stL false (X j) (X i) k9) r_25 := hr_25
              refine lv_aload hx hb dX4_isTrue_124 (lv_at hl 5 rfl) ?_
              refine lv_aload hx hb dX4_isTrue_126 (lv_at hl 1 rfl) ?_
              refine kS_i (A := A) (As := [.ref (tx j), .ref (tx i)]) (rest := .int r_25 :: []) ⟨hx, hb, hml, hown, hts⟩ (mX4_first (A := A) (t := X j) (u := X i) x60j.1 x60i.1 (by omega) (by omega)) (va_cwS 2 hts (gS tw_6_172 tw_6_173 tw_1_8 tw_6_174) rfl rfl rfl (by decide +kernel) ⟨Nat.le_of_ble_eq_true rfl, Nat.le_of_ble_eq_true rfl⟩) hC hS hA  ⟨hTj, hTi⟩ rfl rfl hl.1 (Nat.le_of_ble_eq_true rfl) ⟨Nat.zero_le _, Nat.zero_le _⟩ dX4_isTrue_128 (fun r_26 hr_26 => ?_)
              have hfi : fstR (fun k9 => stL false (X j) (X i) k9) r_26 := hr_26
              refine lv_icmp_ge (tgt := 136) hx hb dX4_isTrue_131 (by decide) (fun c_27 => ?_) (fun c_27 => ?_)
              · refine lv_iinc (v := nI (i + 1)) (lv' := [(7, .int (nI (i + 1))), (9, .int (bI false)), (8, .ref (tx i)), (6, .int (nI 4)), (5, .ref xa), (4, .ref (tx j)), (3, .int (nI j)), (2, .int (nI 4)), (1, .ref xa), (0, .ref am)]) hx hb dX4_isTrue_136 hl (k := 2) rfl (nI_add i 1) (by decide) rfl (fun ls hl => ?_)
                refine lv_goto (tgt := 34) hx hb dX4_isTrue_139 (by decide) ?_
                exact ih (i + 1) (by omega) (by omega) ls (lv_sub hl [0, 3, 4, 5, 6, 7, 8, 9] rfl)
              · exact absurd (fst_le_lst hfi hla (fun k9 q => by have := q.1; omega)) c_27
            · exact absurd c_24 (by decide)
      · refine lv_iconst (v := nI 1) hx hb dX4_isTrue_71 (by decide) ?_
        refine lv_goto (tgt := 76) hx hb dX4_isTrue_72 (by decide) ?_
        have hvv : v9 = true := hv9.mpr (hz1.mp c_19)
        subst hvv
        refine lv_icmp_ne (tgt := 134) hx hb dX4_isTrue_76 (by decide) (fun c_28 => ?_) (fun c_28 => ?_)
        · exact absurd rfl c_28
        · refine lv_aload hx hb dX4_isTrue_79 (lv_at hl 5 rfl) ?_
          refine lv_aload hx hb dX4_isTrue_81 (lv_at hl 1 rfl) ?_
          refine lv_iconst (v := nI 0) hx hb dX4_isTrue_83 (by decide) ?_
          refine kS_i (A := A) (As := [.ref (tx j), .ref (tx i), .int (bI false)]) (rest := []) ⟨hx, hb, hml, hown, hts⟩ (mX4_order (A := A) (t := X j) (u := X i) (b0 := false) x60j.1 x60i.1 (by omega) (by omega)) (va_cwS 3 hts (gS tw_6_227 tw_6_228 tw_1_8 tw_6_229) rfl rfl rfl (by decide +kernel) ⟨Nat.le_of_ble_eq_true rfl, Nat.le_of_ble_eq_true rfl⟩) hC hS hA  ⟨hTj, hTi⟩ rfl rfl hl.1 (Nat.le_of_ble_eq_true rfl) ⟨Nat.zero_le _, Nat.zero_le _⟩ dX4_isTrue_84 (fun r_29 hr_29 => ?_)
          obtain ⟨o9, ho9, hro9⟩ := hr_29
          have ho2 : ordR false (X j) (X i) r_29 := by rw [hro9, if_neg (by decide)]; exact ho9
          refine lv_aload hx hb dX4_isTrue_87 (lv_at hl 1 rfl) ?_
          refine lv_aload hx hb dX4_isTrue_89 (lv_at hl 5 rfl) ?_
          refine lv_iconst (v := nI 0) hx hb dX4_isTrue_91 (by decide) ?_
          refine kS_i (A := A) (As := [.ref (tx i), .ref (tx j), .int (bI false)]) (rest := .int r_29 :: []) ⟨hx, hb, hml, hown, hts⟩ (mX4_order (A := A) (t := X i) (u := X j) (b0 := false) x60i.1 x60j.1 (by omega) (by omega)) (va_cwS 3 hts (gS tw_6_227 tw_6_228 tw_1_8 tw_6_229) rfl rfl rfl (by decide +kernel) ⟨Nat.le_of_ble_eq_true rfl, Nat.le_of_ble_eq_true rfl⟩) hC hS hA  ⟨hTi, hTj⟩ rfl rfl hl.1 (Nat.le_of_ble_eq_true rfl) ⟨Nat.zero_le _, Nat.zero_le _⟩ dX4_isTrue_92 (fun r_30 hr_30 => ?_)
          obtain ⟨o9, ho9, hro9⟩ := hr_30
          have ho3 : ordR false (X i) (X j) r_30 := by rw [hro9, if_neg (by decide)]; exact ho9
          refine lv_ineg hx hb dX4_isTrue_95 ?_
          refine lv_icmp_ne (tgt := 134) hx hb dX4_isTrue_96 (by decide) (fun c_31 => ?_) (fun c_31 => ?_)
          · exact absurd (ordR_neg x60j.1 x60i.1 ho2 ho3) c_31
          · refine lv_iload hx hb dX4_isTrue_99 (lv_at hl 0 rfl) ?_
            refine f_eq (tgt := 117) hx hb dX4_isTrue_101 (by decide) (fun c_32 => ?_) (fun c_32 => ?_)
            · exact absurd c_32 (by decide)
            · refine lv_aload hx hb dX4_isTrue_104 (lv_at hl 5 rfl) ?_
              refine kS_i (A := A) (As := [.ref (tx j)]) (rest := []) ⟨hx, hb, hml, hown, hts⟩ (mX4_hash (A := A) (t := X j) (by omega)) (va_cwS 1 hts (gS tw_6_165 tw_6_166 tw_1_8 tw_6_167) rfl rfl rfl (by decide +kernel) ⟨Nat.le_of_ble_eq_true rfl, Nat.le_of_ble_eq_true rfl⟩) hC hS hA  hTj rfl rfl hl.1 (Nat.le_of_ble_eq_true rfl) ⟨Nat.zero_le _, Nat.zero_le _⟩ dX4_isTrue_106 (fun r9 h9 => lv_cv h9 ?_)
              refine lv_aload hx hb dX4_isTrue_109 (lv_at hl 1 rfl) ?_
              refine kS_i (A := A) (As := [.ref (tx i)]) (rest := .int (hashL (X j)) :: []) ⟨hx, hb, hml, hown, hts⟩ (mX4_hash (A := A) (t := X i) (by omega)) (va_cwS 1 hts (gS tw_6_165 tw_6_166 tw_1_8 tw_6_167) rfl rfl rfl (by decide +kernel) ⟨Nat.le_of_ble_eq_true rfl, Nat.le_of_ble_eq_true rfl⟩) hC hS hA  hTi rfl rfl hl.1 (Nat.le_of_ble_eq_true rfl) ⟨Nat.zero_le _, Nat.zero_le _⟩ dX4_isTrue_111 (fun r9 h9 => lv_cv h9 ?_)
              refine lv_icmp_ne (tgt := 134) hx hb dX4_isTrue_114 (by decide) (fun c_33 => ?_) (fun c_33 => ?_)
              · exact absurd (by rw [stL_eq (hv9.mp rfl).1 (hv9.mp rfl).2]) c_33
              · refine lv_aload hx hb dX4_isTrue_117 (lv_at hl 5 rfl) ?_
                refine lv_aload hx hb dX4_isTrue_119 (lv_at hl 1 rfl) ?_
                refine kS_i (A := A) (As := [.ref (tx j), .ref (tx i)]) (rest := []) ⟨hx, hb, hml, hown, hts⟩ (mX4_last (A := A) (t := X j) (u := X i) x60j.1 x60i.1 (by omega) (by omega)) (va_cwS 2 hts (gS tw_6_185 tw_6_186 tw_1_8 tw_6_187) rfl rfl rfl (by decide +kernel) ⟨Nat.le_of_ble_eq_true rfl, Nat.le_of_ble_eq_true rfl⟩) hC hS hA  ⟨hTj, hTi⟩ rfl rfl hl.1 (Nat.le_of_ble_eq_true rfl) ⟨Nat.zero_le _, Nat.zero_le _⟩ dX4_isTrue_121 (fun r_34 hr_34 => ?_)
                have hla : lstR (fun k9 => stL false (X j) (X i) k9) r_34 := hr_34
                refine lv_aload hx hb dX4_isTrue_124 (lv_at hl 5 rfl) ?_
                refine lv_aload hx hb dX4_isTrue_126 (lv_at hl 1 rfl) ?_
                refine kS_i (A := A) (As := [.ref (tx j), .ref (tx i)]) (rest := .int r_34 :: []) ⟨hx, hb, hml, hown, hts⟩ (mX4_first (A := A) (t := X j) (u := X i) x60j.1 x60i.1 (by omega) (by omega)) (va_cwS 2 hts (gS tw_6_172 tw_6_173 tw_1_8 tw_6_174) rfl rfl rfl (by decide +kernel) ⟨Nat.le_of_ble_eq_true rfl, Nat.le_of_ble_eq_true rfl⟩) hC hS hA  ⟨hTj, hTi⟩ rfl rfl hl.1 (Nat.le_of_ble_eq_true rfl) ⟨Nat.zero_le _, Nat.zero_le _⟩ dX4_isTrue_128 (fun r_35 hr_35 => ?_)
                have hfi : fstR (fun k9 => stL false (X j) (X i) k9) r_35 := hr_35
                refine lv_icmp_ge (tgt := 136) hx hb dX4_isTrue_131 (by decide) (fun c_36 => ?_) (fun c_36 => ?_)
                · refine lv_iinc (v := nI (i + 1)) (lv' := [(7, .int (nI (i + 1))), (9, .int (bI true)), (8, .ref (tx i)), (6, .int (nI 4)), (5, .ref xa), (4, .ref (tx j)), (3, .int (nI j)), (2, .int (nI 4)), (1, .ref xa), (0, .ref am)]) hx hb dX4_isTrue_136 hl (k := 2) rfl (nI_add i 1) (by decide) rfl (fun ls hl => ?_)
                  refine lv_goto (tgt := 34) hx hb dX4_isTrue_139 (by decide) ?_
                  exact ih (i + 1) (by omega) (by omega) ls (lv_sub hl [0, 3, 4, 5, 6, 7, 8, 9] rfl)
                · exact absurd (fst_le_lst hfi hla (fun k9 q => by have := q.1; omega)) c_36

abbrev rmX4_isSound : Room := { frames := 4, cells := 0, slots := 0, locals := 95 }
theorem mX4_isSound {l : Launch} {G : Cx} {A : Nat → Prop} {am xa : Nat} {X : Nat → List Nat} {P : List (List Nat)} {k : Int32} {th : Int32} : Met l yX4_isSound (.code yX4_isSound cX4_isSound 1 (some .boolean) :: GW) rmX4_isSound (PC G A [.ref am] (MW G A am xa X P k th)) (qI A (fun r H => r = bI true ∧ MW G A am xa X P k 0 H)) 0 0 (A) := by
  refine mstart "SigntextModel" (by decide +kernel) rfl (Nat.le_of_ble_eq_true rfl) ?_
  intro p e s m below meth c ls hx hb hr hts hown hml hlocks hname hC hA hW hl
  have hl : lv_has ls 1 [(0, .ref am)] := hl
  have hK := hC.1
  have hS : va_S A s.heap s.heap [] := va_S.rf
  obtain ⟨ra, pa, tx, hW⟩ := hW
  have hO := hW.obj
  have hAm := hW.1
  refine lv_aload_n hx hb dX4_isSound_0 rfl (lv_at hl 0 rfl) ?_
  refine lv_iconst (v := nI 0) hx hb dX4_isSound_1 (by decide) ?_
  refine h_put (D := G.1) (ci := 8) (C := RX4) (T := TX4) (N := 5) hx hb hts inX4 tyX4 tyX4_ok nmX4 hown hK hO hS hAm rfl 0 (by decide) (hts _ tw_4_172) (fun _ h9 => h9) rfl (tyX4_ok 0 (by decide)) rfl rfl (Nat.le_of_ble_eq_true rfl) dX4_isSound_2 (fun H37 L37 hO z37 o37 hS => ?_)
  have hO : va_at G.1 vwCl (am, .inr (8, [.int (nI 0), .ref xa, .ref ra, .ref pa, .int k])) H37 := hO
  have hZ37 := hS.1
  have hW := hW.nums hK hO o37
  have hO := hW.obj
  have hAm := hW.1
  refine lv_aload_n hx hb dX4_isSound_5 rfl (lv_at hl 0 rfl) ?_
  refine kV_i (A := A) (b := am) (As := []) (rest := []) ⟨hx, hb, hml, hown, hts⟩ (mX4_isTrue (A := A) (X := X) (P := P) (k := k) (xa := xa)) (cwV 0 hts (gV tw_7_22 tw_7_24 sel_X4_isTrue tw_1_8 tw_7_25) rfl rfl rfl (by decide +kernel) ⟨Nat.le_of_ble_eq_true rfl, Nat.le_of_ble_eq_true rfl⟩) hC hS hA (hW.recv hK) ⟨ra, pa, tx, hW⟩ rfl rfl hl.1 (Nat.le_of_ble_eq_true rfl) ⟨Nat.zero_le _, Nat.zero_le _⟩ dX4_isSound_6 (fun r9 h9 => lv_cv h9 ?_)
  exact q_z (b9 := true) hx hb hr hlocks dX4_isSound_9 hS (Nat.le_refl _) (Nat.le_refl _) ⟨rfl, ra, pa, tx, hW⟩
