/-! The model, 15: numbers and truths beside a text, put -/
section MWS4
variable {G : Cx} {A B : Nat → Prop} {am xa : Nat} {X : Nat → List Nat} {P : List (List Nat)} {k th : Int32} {H H1 : Heap} {s : State}
theorem MWx_mono {ra pa : Nat} {tx : Nat → Nat} (hAB : ∀ q, A q → B q) (h : MWx G A am xa ra pa tx X P k th H) : MWx G B am xa ra pa tx X P k th H := by
  obtain ⟨a1, a2, a3, a4, b1, b2, b3, b4, b5, b6, b7, b8⟩ := h
  refine ⟨hAB _ a1, hAB _ a2, a3, a4, hAB _ b1, hAB _ b2, b3, b4, b5, b6, b7, ?_⟩
  obtain ⟨h0, h | ⟨md, ed, cap, f, pe, h1, h2, h3, h4, h5, h6⟩⟩ := b8
  · exact ⟨h0, Or.inl h⟩
  · exact ⟨h0, Or.inr ⟨md, ed, cap, f, pe, h1, h2, hAB _ h3, h4, h5, h6⟩⟩
/-- a row that is not the house's -/
theorem MWx_but {ra pa : Nat} {tx : Nat → Nat} (hK : va_K G.1 vwCl (tyL G.2.1) s) (h : MWx G A am xa ra pa tx X P k th H) {r : Nat} {t : List Nat} (hr : IA0 G r t H) (hne : r ≠ ra) : MWx G (fun q9 => A q9 ∧ q9 ≠ r) am xa ra pa tx X P k th H := by
  obtain ⟨a1, a2, a3, a4, b1, b2, b3, b4, b5, b6, b7, b8⟩ := h
  obtain ⟨f9, hr, -⟩ := hr
  refine ⟨⟨a1, at_ne_oa hK b4 (r := (RX4, TX4, 5)) rfl hr 0 rfl⟩, ⟨a2, at_ne_aa hK b5 hr 4 0 rfl rfl (by decide)⟩, a3, a4, ⟨b1, Ne.symm hne⟩, ?_, b3, b4, b5, b6, b7, ?_⟩
  · obtain ⟨h0, ⟨e, md, h⟩ | ⟨md, ed, cap, f, pe, h1, h2, h3, h4, h5, h6⟩⟩ := b8
    · exact ⟨b2, at_ne_oa hK h (r := (RJx4a65c, TJx4a65c, 3)) rfl hr 0 rfl⟩
    · exact ⟨b2, at_ne_oa hK h1 (r := (RJx4a65c, TJx4a65c, 3)) rfl hr 0 rfl⟩
  · obtain ⟨h0, h | ⟨md, ed, cap, f, pe, h1, h2, h3, h4, h5, h6⟩⟩ := b8
    · exact ⟨h0, Or.inl h⟩
    · exact ⟨h0, Or.inr ⟨md, ed, cap, f, pe, h1, h2, ⟨h3, at_ne_aa hK h2 hr 5 0 rfl rfl (by decide)⟩, h4, h5, h6⟩⟩
end MWS4
theorem kp_wr {H H1 : Heap} {na : Nat} {X : Nat → Prop} (hna : na = H.size) (z : H1.size = H.size + 1) (o : ∀ q : Nat, q < H.size → H1[q]? = H[q]?) (_ : True ∨ na = na) : kp X H H1 := kp.new z o
theorem kp_w1 {A : Nat → Prop} {a : Nat} {H H1 : Heap} (ha : A a) (z : H1.size = H.size) (o : ∀ q : Nat, q ≠ a → H1[q]? = H[q]?) : kp A H H1 :=
  ⟨by rw [z]; exact Nat.le_refl _, fun q _ b => o q (fun e => b (e ▸ ha))⟩
theorem stx_tf (b : Bool) : okc (stx (if b then 7 else 8)) ∧ (stx (if b then 7 else 8)).length ≤ 60 := by
  have k : ∀ b : Bool, (stx (if b then 7 else 8)).length ≤ 5 ∧ ∀ q : Fin 5, (stx (if b then 7 else 8)).getD q.1 0 < 256 := by decide +kernel
  obtain ⟨h1, h2⟩ := k b
  refine ⟨fun j => ?_, by omega⟩
  rcases Nat.lt_or_ge j 5 with q | q
  · exact h2 ⟨j, q⟩
  · rw [List.getD_eq_getElem?_getD, List.getElem?_eq_none (Nat.le_trans h1 q)]; decide
theorem NSm1 : NS (-1) := by
  rintro ⟨i, hi, h⟩
  have k : ∀ j : Fin 24, ¬ (-1 : Int32) = nI j.1 := by decide +kernel
  exact k ⟨i, hi⟩ h
def avI (a b c d e : Int32) : Nat → Int32
  | 0 => a
  | 1 => b
  | 2 => c
  | 3 => d
  | _ => e
/-- what has come of the first signs, and whether one of them was wrong -/
def cumS (av : Nat → Int32) : Nat → Bool → List Nat → Prop
  | 0, b, w => b = false ∧ w = []
  | q + 1, b, w => ∃ (b0 : Bool) (w0 : List Nat), cumS av q b0 w0 ∧ ((NS (av q) ∧ w = w0) ∨ ∃ i : Nat, i < 24 ∧ av q = nI i ∧ w = w0 ++ [codeT.getD i 0]) ∧ (b = true ↔ b0 = true ∨ badS (av q))
theorem cumS_len {av : Nat → Int32} {q : Nat} {b : Bool} {w : List Nat} (h : cumS av q b w) : w.length ≤ q := by
  induction q generalizing b w with
  | zero => rw [h.2]; exact Nat.le_refl _
  | succ q ih =>
    obtain ⟨b0, w0, h1, ⟨-, rfl⟩ | ⟨i, -, -, rfl⟩, -⟩ := h
    · have := ih h1; omega
    · have := ih h1; rw [List.length_append]; show _ + 1 ≤ _; omega
theorem cumS_ok {av : Nat → Int32} {q : Nat} {b : Bool} {w : List Nat} (h : cumS av q b w) : okc w := by
  induction q generalizing b w with
  | zero => rw [h.2]; exact okc_nil
  | succ q ih =>
    obtain ⟨b0, w0, h1, ⟨-, rfl⟩ | ⟨i, -, -, rfl⟩, -⟩ := h
    · exact ih h1
    · exact okc_app (ih h1) (okc_one (codeT_lt i))
theorem cumS_bad {av : Nat → Int32} {q : Nat} {b : Bool} {w : List Nat} (h : cumS av q b w) : b = true ↔ ∃ k : Nat, k < q ∧ badS (av k) := by
  induction q generalizing b w with
  | zero => rw [h.1]; exact ⟨fun z => Bool.noConfusion z, fun ⟨k, hk, _⟩ => absurd hk (Nat.not_lt_zero k)⟩
  | succ q ih =>
    obtain ⟨b0, w0, h1, -, h3⟩ := h
    rw [h3, ih h1]
    constructor
    · rintro (⟨k, hk, h⟩ | h)
      · exact ⟨k, by omega, h⟩
      · exact ⟨q, by omega, h⟩
    · rintro ⟨k, hk, h⟩
      rcases Nat.lt_succ_iff_lt_or_eq.mp hk with z | z
      · exact Or.inl ⟨k, z, h⟩
      · exact Or.inr (z ▸ h)
theorem cumS_add {av : Nat → Int32} {q : Nat} {w : List Nat} (hq : q < 60) (h : cumS av (q + 1) false w) : ∃ w0, cumS av q false w0 ∧ addS w0 (av q) w := by
  obtain ⟨b0, w0, h1, h2, h3⟩ := h
  have hb : b0 = false := by cases b0 with
    | false => rfl
    | true => exact Bool.noConfusion (h3.mpr (Or.inl rfl))
  subst hb
  refine ⟨w0, h1, ?_⟩
  rcases h2 with ⟨h4, rfl⟩ | ⟨i, hi, h4, rfl⟩
  · exact Or.inl ⟨Decidable.byContradiction (fun z => Bool.noConfusion (h3.mpr (Or.inr ⟨z, h4⟩))), rfl⟩
  · refine Or.inr ⟨i, hi, h4, ?_⟩
    rw [List.take_of_length_le]
    have := cumS_len h1
    rw [List.length_append]; show _ + 1 ≤ 60; omega
theorem cumS_end {a b c d e : Int32} {f : Bool} {w : List Nat} (h : cumS (avI a b c d e) 5 f w) : (f = true → badS a ∨ badS b ∨ badS c ∨ badS d ∨ badS e) ∧ (f = false → comeS a b c d e w) := by
  constructor
  · intro hf
    obtain ⟨k, hk, h2⟩ := (cumS_bad h).mp hf
    match k, hk with
    | 0, _ => exact Or.inl h2
    | 1, _ => exact Or.inr (Or.inl h2)
    | 2, _ => exact Or.inr (Or.inr (Or.inl h2))
    | 3, _ => exact Or.inr (Or.inr (Or.inr (Or.inl h2)))
    | 4, _ => exact Or.inr (Or.inr (Or.inr (Or.inr h2)))
  · rintro rfl
    obtain ⟨w4, h4, k4⟩ := cumS_add (by decide) h
    obtain ⟨w3, h3, k3⟩ := cumS_add (by decide) h4
    obtain ⟨w2, h2, k2⟩ := cumS_add (by decide) h3
    obtain ⟨w1, h1, k1⟩ := cumS_add (by decide) h2
    obtain ⟨w0, h0, k0⟩ := cumS_add (by decide) h1
    rw [h0.2] at k0
    exact ⟨w1, w2, w3, w4, k0, k1, k2, k3, k4⟩
theorem dX4_put_0 : decode cX4_put 0 = .ok (.iconst 5, 1) := by decide +kernel
theorem dX4_put_1 : decode cX4_put 1 = .ok (.newarray .int, 2) := by decide +kernel
theorem dX4_put_3 : decode cX4_put 3 = .ok (.dup, 1) := by decide +kernel
theorem dX4_put_4 : decode cX4_put 4 = .ok (.iconst 0, 1) := by decide +kernel
theorem dX4_put_5 : decode cX4_put 5 = .ok (.iload_n 2, 1) := by decide +kernel
theorem dX4_put_6 : decode cX4_put 6 = .ok (.iastore, 1) := by decide +kernel
theorem dX4_put_7 : decode cX4_put 7 = .ok (.dup, 1) := by decide +kernel
theorem dX4_put_8 : decode cX4_put 8 = .ok (.iconst 1, 1) := by decide +kernel
theorem dX4_put_9 : decode cX4_put 9 = .ok (.iload_n 3, 1) := by decide +kernel
theorem dX4_put_10 : decode cX4_put 10 = .ok (.iastore, 1) := by decide +kernel
theorem dX4_put_11 : decode cX4_put 11 = .ok (.dup, 1) := by decide +kernel
theorem dX4_put_12 : decode cX4_put 12 = .ok (.iconst 2, 1) := by decide +kernel
theorem dX4_put_13 : decode cX4_put 13 = .ok (.iload 4, 2) := by decide +kernel
theorem dX4_put_15 : decode cX4_put 15 = .ok (.iastore, 1) := by decide +kernel
theorem dX4_put_16 : decode cX4_put 16 = .ok (.dup, 1) := by decide +kernel
theorem dX4_put_17 : decode cX4_put 17 = .ok (.iconst 3, 1) := by decide +kernel
theorem dX4_put_18 : decode cX4_put 18 = .ok (.iload 5, 2) := by decide +kernel
theorem dX4_put_20 : decode cX4_put 20 = .ok (.iastore, 1) := by decide +kernel
theorem dX4_put_21 : decode cX4_put 21 = .ok (.dup, 1) := by decide +kernel
theorem dX4_put_22 : decode cX4_put 22 = .ok (.iconst 4, 1) := by decide +kernel
theorem dX4_put_23 : decode cX4_put 23 = .ok (.iload 6, 2) := by decide +kernel
theorem dX4_put_25 : decode cX4_put 25 = .ok (.iastore, 1) := by decide +kernel
theorem dX4_put_26 : decode cX4_put 26 = .ok (.astore 7, 2) := by decide +kernel
theorem dX4_put_28 : decode cX4_put 28 = .ok (.iconst 0, 1) := by decide +kernel
theorem dX4_put_29 : decode cX4_put 29 = .ok (.istore 8, 2) := by decide +kernel
theorem dX4_put_31 : decode cX4_put 31 = .ok (.iconst 0, 1) := by decide +kernel
theorem dX4_put_32 : decode cX4_put 32 = .ok (.newarray .int, 2) := by decide +kernel
theorem dX4_put_34 : decode cX4_put 34 = .ok (.astore 9, 2) := by decide +kernel
theorem dX4_put_36 : decode cX4_put 36 = .ok (.aload 7, 2) := by decide +kernel
theorem dX4_put_38 : decode cX4_put 38 = .ok (.astore 10, 2) := by decide +kernel
theorem dX4_put_40 : decode cX4_put 40 = .ok (.aload 10, 2) := by decide +kernel
theorem dX4_put_42 : decode cX4_put 42 = .ok (.arraylength, 1) := by decide +kernel
theorem dX4_put_43 : decode cX4_put 43 = .ok (.istore 11, 2) := by decide +kernel
theorem dX4_put_45 : decode cX4_put 45 = .ok (.iconst 0, 1) := by decide +kernel
theorem dX4_put_46 : decode cX4_put 46 = .ok (.istore 12, 2) := by decide +kernel
theorem dX4_put_48 : decode cX4_put 48 = .ok (.iload 12, 2) := by decide +kernel
theorem dX4_put_50 : decode cX4_put 50 = .ok (.iload 11, 2) := by decide +kernel
theorem dX4_put_52 : decode cX4_put 52 = .ok (.if_icmp .ge 67, 3) := by decide +kernel
theorem dX4_put_55 : decode cX4_put 55 = .ok (.aload 10, 2) := by decide +kernel
theorem dX4_put_57 : decode cX4_put 57 = .ok (.iload 12, 2) := by decide +kernel
theorem dX4_put_59 : decode cX4_put 59 = .ok (.iaload, 1) := by decide +kernel
theorem dX4_put_60 : decode cX4_put 60 = .ok (.istore 13, 2) := by decide +kernel
theorem dX4_put_62 : decode cX4_put 62 = .ok (.iload 8, 2) := by decide +kernel
theorem dX4_put_64 : decode cX4_put 64 = .ok (.iload 13, 2) := by decide +kernel
theorem dX4_put_66 : decode cX4_put 66 = .ok (.iconst (-1), 1) := by decide +kernel
theorem dX4_put_67 : decode cX4_put 67 = .ok (.if_icmp .eq 15, 3) := by decide +kernel
theorem dX4_put_70 : decode cX4_put 70 = .ok (.iload 13, 2) := by decide +kernel
theorem dX4_put_72 : decode cX4_put 72 = .ok (.invokestatic 100, 3) := by decide +kernel
theorem dX4_put_75 : decode cX4_put 75 = .ok (.ifCond .eq 7, 3) := by decide +kernel
theorem dX4_put_78 : decode cX4_put 78 = .ok (.iconst 1, 1) := by decide +kernel
theorem dX4_put_79 : decode cX4_put 79 = .ok (.goto 4, 3) := by decide +kernel
theorem dX4_put_82 : decode cX4_put 82 = .ok (.iconst 0, 1) := by decide +kernel
theorem dX4_put_83 : decode cX4_put 83 = .ok (.ior, 1) := by decide +kernel
theorem dX4_put_84 : decode cX4_put 84 = .ok (.istore 8, 2) := by decide +kernel
theorem dX4_put_86 : decode cX4_put 86 = .ok (.iload 13, 2) := by decide +kernel
theorem dX4_put_88 : decode cX4_put 88 = .ok (.invokestatic 100, 3) := by decide +kernel
theorem dX4_put_91 : decode cX4_put 91 = .ok (.ifCond .ne 22, 3) := by decide +kernel
theorem dX4_put_94 : decode cX4_put 94 = .ok (.aload 9, 2) := by decide +kernel
theorem dX4_put_96 : decode cX4_put 96 = .ok (.iconst 1, 1) := by decide +kernel
theorem dX4_put_97 : decode cX4_put 97 = .ok (.newarray .int, 2) := by decide +kernel
theorem dX4_put_99 : decode cX4_put 99 = .ok (.dup, 1) := by decide +kernel
theorem dX4_put_100 : decode cX4_put 100 = .ok (.iconst 0, 1) := by decide +kernel
theorem dX4_put_101 : decode cX4_put 101 = .ok (.getstatic 94, 3) := by decide +kernel
theorem dX4_put_104 : decode cX4_put 104 = .ok (.iload 13, 2) := by decide +kernel
theorem dX4_put_106 : decode cX4_put 106 = .ok (.iaload, 1) := by decide +kernel
theorem dX4_put_107 : decode cX4_put 107 = .ok (.iastore, 1) := by decide +kernel
theorem dX4_put_108 : decode cX4_put 108 = .ok (.invokestatic 103, 3) := by decide +kernel
theorem dX4_put_111 : decode cX4_put 111 = .ok (.astore 9, 2) := by decide +kernel
theorem dX4_put_113 : decode cX4_put 113 = .ok (.iinc 12 1, 3) := by decide +kernel
theorem dX4_put_116 : decode cX4_put 116 = .ok (.goto (-68), 3) := by decide +kernel
theorem dX4_put_119 : decode cX4_put 119 = .ok (.aload_n 0, 1) := by decide +kernel
theorem dX4_put_120 : decode cX4_put 120 = .ok (.iload_n 1, 1) := by decide +kernel
theorem dX4_put_121 : decode cX4_put 121 = .ok (.invokestatic 107, 3) := by decide +kernel
theorem dX4_put_124 : decode cX4_put 124 = .ok (.iconst 1, 1) := by decide +kernel
theorem dX4_put_125 : decode cX4_put 125 = .ok (.invokevirtual 110, 3) := by decide +kernel
theorem dX4_put_128 : decode cX4_put 128 = .ok (.ifCond .ne 42, 3) := by decide +kernel
theorem dX4_put_131 : decode cX4_put 131 = .ok (.aload_n 0, 1) := by decide +kernel
theorem dX4_put_132 : decode cX4_put 132 = .ok (.iload 8, 2) := by decide +kernel
theorem dX4_put_134 : decode cX4_put 134 = .ok (.iconst 2, 1) := by decide +kernel
theorem dX4_put_135 : decode cX4_put 135 = .ok (.invokevirtual 86, 3) := by decide +kernel
theorem dX4_put_138 : decode cX4_put 138 = .ok (.ifCond .ne 32, 3) := by decide +kernel
theorem dX4_put_141 : decode cX4_put 141 = .ok (.aload_n 0, 1) := by decide +kernel
theorem dX4_put_142 : decode cX4_put 142 = .ok (.aload_n 0, 1) := by decide +kernel
theorem dX4_put_143 : decode cX4_put 143 = .ok (.getfield 72, 3) := by decide +kernel
theorem dX4_put_146 : decode cX4_put 146 = .ok (.iload_n 1, 1) := by decide +kernel
theorem dX4_put_147 : decode cX4_put 147 = .ok (.aaload, 1) := by decide +kernel
theorem dX4_put_148 : decode cX4_put 148 = .ok (.arraylength, 1) := by decide +kernel
theorem dX4_put_149 : decode cX4_put 149 = .ok (.aload 9, 2) := by decide +kernel
theorem dX4_put_151 : decode cX4_put 151 = .ok (.arraylength, 1) := by decide +kernel
theorem dX4_put_152 : decode cX4_put 152 = .ok (.iadd, 1) := by decide +kernel
theorem dX4_put_153 : decode cX4_put 153 = .ok (.bipush 60, 2) := by decide +kernel
theorem dX4_put_155 : decode cX4_put 155 = .ok (.if_icmp .le 7, 3) := by decide +kernel
theorem dX4_put_158 : decode cX4_put 158 = .ok (.iconst 1, 1) := by decide +kernel
theorem dX4_put_159 : decode cX4_put 159 = .ok (.goto 4, 3) := by decide +kernel
theorem dX4_put_162 : decode cX4_put 162 = .ok (.iconst 0, 1) := by decide +kernel
theorem dX4_put_163 : decode cX4_put 163 = .ok (.iconst 3, 1) := by decide +kernel
theorem dX4_put_164 : decode cX4_put 164 = .ok (.invokevirtual 86, 3) := by decide +kernel
theorem dX4_put_167 : decode cX4_put 167 = .ok (.ifCond .eq 5, 3) := by decide +kernel
theorem dX4_put_170 : decode cX4_put 170 = .ok (.iconst 0, 1) := by decide +kernel
theorem dX4_put_171 : decode cX4_put 171 = .ok (.ireturn, 1) := by decide +kernel
theorem dX4_put_172 : decode cX4_put 172 = .ok (.aload_n 0, 1) := by decide +kernel
theorem dX4_put_173 : decode cX4_put 173 = .ok (.iload_n 1, 1) := by decide +kernel
theorem dX4_put_174 : decode cX4_put 174 = .ok (.aload_n 0, 1) := by decide +kernel
theorem dX4_put_175 : decode cX4_put 175 = .ok (.getfield 72, 3) := by decide +kernel
theorem dX4_put_178 : decode cX4_put 178 = .ok (.iload_n 1, 1) := by decide +kernel
theorem dX4_put_179 : decode cX4_put 179 = .ok (.aaload, 1) := by decide +kernel
theorem dX4_put_180 : decode cX4_put 180 = .ok (.aload 9, 2) := by decide +kernel
theorem dX4_put_182 : decode cX4_put 182 = .ok (.invokestatic 103, 3) := by decide +kernel
theorem dX4_put_185 : decode cX4_put 185 = .ok (.invokevirtual 113, 3) := by decide +kernel
theorem dX4_put_188 : decode cX4_put 188 = .ok (.ireturn, 1) := by decide +kernel
theorem dX4_beside_0 : decode cX4_beside 0 = .ok (.aload_n 0, 1) := by decide +kernel
theorem dX4_beside_1 : decode cX4_beside 1 = .ok (.aload_n 0, 1) := by decide +kernel
theorem dX4_beside_2 : decode cX4_beside 2 = .ok (.getfield 72, 3) := by decide +kernel
theorem dX4_beside_5 : decode cX4_beside 5 = .ok (.iload_n 1, 1) := by decide +kernel
theorem dX4_beside_6 : decode cX4_beside 6 = .ok (.aaload, 1) := by decide +kernel
theorem dX4_beside_7 : decode cX4_beside 7 = .ok (.arraylength, 1) := by decide +kernel
theorem dX4_beside_8 : decode cX4_beside 8 = .ok (.aload_n 2, 1) := by decide +kernel
theorem dX4_beside_9 : decode cX4_beside 9 = .ok (.arraylength, 1) := by decide +kernel
theorem dX4_beside_10 : decode cX4_beside 10 = .ok (.iadd, 1) := by decide +kernel
theorem dX4_beside_11 : decode cX4_beside 11 = .ok (.bipush 60, 2) := by decide +kernel
theorem dX4_beside_13 : decode cX4_beside 13 = .ok (.if_icmp .le 7, 3) := by decide +kernel
theorem dX4_beside_16 : decode cX4_beside 16 = .ok (.iconst 1, 1) := by decide +kernel
theorem dX4_beside_17 : decode cX4_beside 17 = .ok (.goto 4, 3) := by decide +kernel
theorem dX4_beside_20 : decode cX4_beside 20 = .ok (.iconst 0, 1) := by decide +kernel
theorem dX4_beside_21 : decode cX4_beside 21 = .ok (.iconst 2, 1) := by decide +kernel
theorem dX4_beside_22 : decode cX4_beside 22 = .ok (.invokevirtual 86, 3) := by decide +kernel
theorem dX4_beside_25 : decode cX4_beside 25 = .ok (.ifCond .eq 7, 3) := by decide +kernel
theorem dX4_beside_28 : decode cX4_beside 28 = .ok (.iconst 0, 1) := by decide +kernel
theorem dX4_beside_29 : decode cX4_beside 29 = .ok (.goto 35, 3) := by decide +kernel
theorem dX4_beside_32 : decode cX4_beside 32 = .ok (.aload_n 0, 1) := by decide +kernel
theorem dX4_beside_33 : decode cX4_beside 33 = .ok (.iload_n 1, 1) := by decide +kernel
theorem dX4_beside_34 : decode cX4_beside 34 = .ok (.iload_n 3, 1) := by decide +kernel
theorem dX4_beside_35 : decode cX4_beside 35 = .ok (.ifCond .eq 16, 3) := by decide +kernel
theorem dX4_beside_38 : decode cX4_beside 38 = .ok (.aload_n 2, 1) := by decide +kernel
theorem dX4_beside_39 : decode cX4_beside 39 = .ok (.aload_n 0, 1) := by decide +kernel
theorem dX4_beside_40 : decode cX4_beside 40 = .ok (.getfield 72, 3) := by decide +kernel
theorem dX4_beside_43 : decode cX4_beside 43 = .ok (.iload_n 1, 1) := by decide +kernel
theorem dX4_beside_44 : decode cX4_beside 44 = .ok (.aaload, 1) := by decide +kernel
theorem dX4_beside_45 : decode cX4_beside 45 = .ok (.invokestatic 103, 3) := by decide +kernel
theorem dX4_beside_48 : decode cX4_beside 48 = .ok (.goto 13, 3) := by decide +kernel
theorem dX4_beside_51 : decode cX4_beside 51 = .ok (.aload_n 0, 1) := by decide +kernel
theorem dX4_beside_52 : decode cX4_beside 52 = .ok (.getfield 72, 3) := by decide +kernel
theorem dX4_beside_55 : decode cX4_beside 55 = .ok (.iload_n 1, 1) := by decide +kernel
theorem dX4_beside_56 : decode cX4_beside 56 = .ok (.aaload, 1) := by decide +kernel
theorem dX4_beside_57 : decode cX4_beside 57 = .ok (.aload_n 2, 1) := by decide +kernel
theorem dX4_beside_58 : decode cX4_beside 58 = .ok (.invokestatic 103, 3) := by decide +kernel
theorem dX4_beside_61 : decode cX4_beside 61 = .ok (.invokevirtual 113, 3) := by decide +kernel
theorem dX4_beside_64 : decode cX4_beside 64 = .ok (.ireturn, 1) := by decide +kernel
theorem dX4_number_0 : decode cX4_number 0 = .ok (.aload_n 0, 1) := by decide +kernel
theorem dX4_number_1 : decode cX4_number 1 = .ok (.iload_n 1, 1) := by decide +kernel
theorem dX4_number_2 : decode cX4_number 2 = .ok (.invokestatic 107, 3) := by decide +kernel
theorem dX4_number_5 : decode cX4_number 5 = .ok (.iconst 1, 1) := by decide +kernel
theorem dX4_number_6 : decode cX4_number 6 = .ok (.invokevirtual 110, 3) := by decide +kernel
theorem dX4_number_9 : decode cX4_number 9 = .ok (.ifCond .eq 7, 3) := by decide +kernel
theorem dX4_number_12 : decode cX4_number 12 = .ok (.iconst 0, 1) := by decide +kernel
theorem dX4_number_13 : decode cX4_number 13 = .ok (.goto 14, 3) := by decide +kernel
theorem dX4_number_16 : decode cX4_number 16 = .ok (.aload_n 0, 1) := by decide +kernel
theorem dX4_number_17 : decode cX4_number 17 = .ok (.iload_n 1, 1) := by decide +kernel
theorem dX4_number_18 : decode cX4_number 18 = .ok (.iload_n 2, 1) := by decide +kernel
theorem dX4_number_19 : decode cX4_number 19 = .ok (.i2l, 1) := by decide +kernel
theorem dX4_number_20 : decode cX4_number 20 = .ok (.invokestatic 121, 3) := by decide +kernel
theorem dX4_number_23 : decode cX4_number 23 = .ok (.iload_n 3, 1) := by decide +kernel
theorem dX4_number_24 : decode cX4_number 24 = .ok (.invokevirtual 125, 3) := by decide +kernel
theorem dX4_number_27 : decode cX4_number 27 = .ok (.ireturn, 1) := by decide +kernel
theorem dX4_great_0 : decode cX4_great 0 = .ok (.aload_n 0, 1) := by decide +kernel
theorem dX4_great_1 : decode cX4_great 1 = .ok (.iload_n 1, 1) := by decide +kernel
theorem dX4_great_2 : decode cX4_great 2 = .ok (.invokestatic 107, 3) := by decide +kernel
theorem dX4_great_5 : decode cX4_great 5 = .ok (.iconst 1, 1) := by decide +kernel
theorem dX4_great_6 : decode cX4_great 6 = .ok (.invokevirtual 110, 3) := by decide +kernel
theorem dX4_great_9 : decode cX4_great 9 = .ok (.ifCond .eq 7, 3) := by decide +kernel
theorem dX4_great_12 : decode cX4_great 12 = .ok (.iconst 0, 1) := by decide +kernel
theorem dX4_great_13 : decode cX4_great 13 = .ok (.goto 24, 3) := by decide +kernel
theorem dX4_great_16 : decode cX4_great 16 = .ok (.aload_n 0, 1) := by decide +kernel
theorem dX4_great_17 : decode cX4_great 17 = .ok (.iload_n 1, 1) := by decide +kernel
theorem dX4_great_18 : decode cX4_great 18 = .ok (.iload_n 2, 1) := by decide +kernel
theorem dX4_great_19 : decode cX4_great 19 = .ok (.i2l, 1) := by decide +kernel
theorem dX4_great_20 : decode cX4_great 20 = .ok (.bipush 32, 2) := by decide +kernel
theorem dX4_great_22 : decode cX4_great 22 = .ok (.lshl, 1) := by decide +kernel
theorem dX4_great_23 : decode cX4_great 23 = .ok (.iload_n 3, 1) := by decide +kernel
theorem dX4_great_24 : decode cX4_great 24 = .ok (.i2l, 1) := by decide +kernel
theorem dX4_great_25 : decode cX4_great 25 = .ok (.ldc2_w 129, 3) := by decide +kernel
theorem dX4_great_28 : decode cX4_great 28 = .ok (.land, 1) := by decide +kernel
theorem dX4_great_29 : decode cX4_great 29 = .ok (.lor, 1) := by decide +kernel
theorem dX4_great_30 : decode cX4_great 30 = .ok (.invokestatic 121, 3) := by decide +kernel
theorem dX4_great_33 : decode cX4_great 33 = .ok (.iconst 0, 1) := by decide +kernel
theorem dX4_great_34 : decode cX4_great 34 = .ok (.invokevirtual 125, 3) := by decide +kernel
theorem dX4_great_37 : decode cX4_great 37 = .ok (.ireturn, 1) := by decide +kernel
theorem dX4_truth__0 : decode cX4_truth_ 0 = .ok (.aload_n 0, 1) := by decide +kernel
theorem dX4_truth__1 : decode cX4_truth_ 1 = .ok (.iload_n 1, 1) := by decide +kernel
theorem dX4_truth__2 : decode cX4_truth_ 2 = .ok (.invokestatic 107, 3) := by decide +kernel
theorem dX4_truth__5 : decode cX4_truth_ 5 = .ok (.iconst 1, 1) := by decide +kernel
theorem dX4_truth__6 : decode cX4_truth_ 6 = .ok (.invokevirtual 110, 3) := by decide +kernel
theorem dX4_truth__9 : decode cX4_truth_ 9 = .ok (.ifCond .eq 7, 3) := by decide +kernel
theorem dX4_truth__12 : decode cX4_truth_ 12 = .ok (.iconst 0, 1) := by decide +kernel
theorem dX4_truth__13 : decode cX4_truth_ 13 = .ok (.goto 13, 3) := by decide +kernel
theorem dX4_truth__16 : decode cX4_truth_ 16 = .ok (.aload_n 0, 1) := by decide +kernel
theorem dX4_truth__17 : decode cX4_truth_ 17 = .ok (.iload_n 1, 1) := by decide +kernel
theorem dX4_truth__18 : decode cX4_truth_ 18 = .ok (.iload_n 2, 1) := by decide +kernel
theorem dX4_truth__19 : decode cX4_truth_ 19 = .ok (.invokestatic 131, 3) := by decide +kernel
theorem dX4_truth__22 : decode cX4_truth_ 22 = .ok (.iload_n 3, 1) := by decide +kernel
theorem dX4_truth__23 : decode cX4_truth_ 23 = .ok (.invokevirtual 125, 3) := by decide +kernel
theorem dX4_truth__26 : decode cX4_truth_ 26 = .ok (.ireturn, 1) := by decide +kernel
abbrev rmX4_beside : Room := { frames := 2, cells := 1, slots := 61, locals := 43 }
theorem mX4_beside {l : Launch} {G : Cx} {A : Nat → Prop} {am xa : Nat} {X : Nat → List Nat} {P : List (List Nat)} {k : Int32} {j r : Nat} {t : List Nat} {b : Bool} (hj : j < 4) (ht : okc t ∧ t.length ≤ 60) : Met l yX4_beside (.code yX4_beside cX4_beside 4 (some .int) :: GW) rmX4_beside (PC G A [.ref am, .int (nI j), .ref r, .int (bI b)] (fun H => ∃ ra pa tx, MWx G A am xa ra pa tx X P k (nI 0) H ∧ IA0 G r t H ∧ r ≠ ra)) (qI A (fun v H => (60 < (if b then t ++ X j else X j ++ t).length ∧ v = 0 ∧ MW G A am xa X P k 2 H) ∨ (v = nI (if b then t ++ X j else X j ++ t).length ∧ (if b then t ++ X j else X j ++ t).length ≤ 60 ∧ MW G A am xa (updT X j (if b then t ++ X j else X j ++ t)) P k 0 H))) 1 61 (A) := by
  refine mstart "SigntextModel" (by decide +kernel) rfl (Nat.le_of_ble_eq_true rfl) ?_
  intro p e s m below meth c ls hx hb hr hts hown hml hlocks hname hC hA hW hl
  have hl : lv_has ls 4 [(0, .ref am), (1, .int (nI j)), (2, .ref r), (3, .int (bI b))] := hl
  have hK := hC.1
  have hS : va_S A s.heap s.heap [] := va_S.rf
  obtain ⟨ra, pa, tx, hW, hR, hne⟩ := hW
  have ht2 := ht.2
  have la : (if b then t ++ X j else X j ++ t).length = (X j).length + t.length := by cases b; exact List.length_append; exact (List.length_append (as := t) (bs := X j)).trans (Nat.add_comm _ _)
  have hO := hW.obj
  have hAm := hW.1
  refine lv_aload_n hx hb dX4_beside_0 rfl (lv_at hl 0 rfl) ?_
  refine lv_aload_n hx hb dX4_beside_1 rfl (lv_at hl 0 rfl) ?_
  refine va_get (D := G.1) (ci := 8) (C := RX4) (T := TX4) (N := 5) hx hb hts inX4 hown hK (at_P hO) 0 rfl rfl 1 (by decide) (hts _ tw_4_173) (fun _ h9 => h9) rfl dX4_beside_2 ?_
  refine lv_iload_n hx hb dX4_beside_5 rfl (lv_at hl 1 rfl) ?_
  refine h_aaldI (D := G.1) hx hb hK 4 hW.txs rfl (vp_in_nI (n := j) (N := 4) (by omega) (by omega)) dX4_beside_6 ?_
  refine v_cv (show va_rf _ = .ref (tx j) from by rw [nI_clamp (n := j) (by omega)]; rfl) ?_
  have hTj := (hW.tx (j := j) (by omega)).ia hC.2.1.2
  have x60j := hW.2.2.1 j (Or.inl (by omega))
  have j60 := x60j.2
  have hR1 := hR.ia hC.2.1.2
  refine h_ilen hx hb hC.2.1 hTj dX4_beside_7 ?_
  refine lv_aload_n hx hb dX4_beside_8 rfl (lv_at hl 2 rfl) ?_
  refine h_ilen hx hb hC.2.1 hR1 dX4_beside_9 ?_
  refine lv_iadd hx hb dX4_beside_10 ?_
  refine lv_cv (nI_add ((X j).length) t.length) ?_
  refine lv_bipush (v := nI 60) hx hb dX4_beside_11 (by decide) ?_
  refine b_le (tgt := 20) hx hb dX4_beside_13 (by decide) (by omega) (by omega) (fun c_1 => ?_) (fun c_1 => ?_)
  · refine lv_iconst (v := nI 0) hx hb dX4_beside_20 (by decide) ?_
    refine lv_iconst (v := nI 2) hx hb dX4_beside_21 (by decide) ?_
    refine qI_V (A := A) (A1 := (fun q9 => A q9 ∧ q9 ≠ r)) (b := am) (As := [.int (bI false), .int (nI 2)]) (rest := []) ⟨hx, hb, hml, hown, hts⟩ (mX4_refuse (A := (fun q9 => A q9 ∧ q9 ≠ r)) (X := X) (P := P) (k := k) (xa := xa) (b := false) (th := 0) (w9 := 2) (by decide) (by decide)) (cwV 2 hts (gV tw_4_210 tw_4_212 sel_X4_refuse tw_1_8 tw_4_213) rfl rfl rfl (by decide +kernel) ⟨Nat.le_of_ble_eq_true rfl, Nat.le_of_ble_eq_true rfl⟩) hC hS (fun _ h => h.1) (fun q h => ⟨hA q (Nat.le_trans hS.1 h), by have := hR.lt; omega⟩) (hW.recv hK) ⟨ra, pa, tx, MWx_but hK hW hR hne⟩ rfl rfl hl.1 (Nat.le_of_ble_eq_true rfl) ⟨Nat.zero_le _, Nat.zero_le _⟩ dX4_beside_22 (fun rv2 H2 L2 hP2 hk2 hS => ?_)
    have hZ2 := hS.1
    obtain ⟨hr2, hM2⟩ := hP2
    subst hr2
    have hR := hR.kp hk2 (fun q => q.2 rfl)
    obtain ⟨ra, pa, tx, hW⟩ := hM2
    have hne : r ≠ ra := Ne.symm hW.2.2.2.2.1.2
    have hW : MWx G A am xa ra pa tx X P k (nI 0) H2 := MWx_mono (fun _ h => h.1) hW
    have hO := hW.obj
    have hAm := hW.1
    refine f_eq (tgt := 32) hx hb dX4_beside_25 (by decide) (fun c_3 => ?_) (fun c_3 => ?_)
    · refine lv_aload_n hx hb dX4_beside_32 rfl (lv_at hl 0 rfl) ?_
      refine lv_iload_n hx hb dX4_beside_33 rfl (lv_at hl 1 rfl) ?_
      refine lv_iload_n hx hb dX4_beside_34 rfl (lv_at hl 3 rfl) ?_
      have okT : okc (if b then t ++ X j else X j ++ t) := by cases b; exact okc_app x60j.1 ht.1; exact okc_app ht.1 x60j.1
      refine f_eq (tgt := 51) hx hb dX4_beside_35 (by decide) (fun c_4 => ?_) (fun c_4 => ?_)
      · subst c_4
        refine lv_aload_n hx hb dX4_beside_51 rfl (lv_at hl 0 rfl) ?_
        refine va_get (D := G.1) (ci := 8) (C := RX4) (T := TX4) (N := 5) hx hb hts inX4 hown hK (at_P hO) 0 rfl rfl 1 (by decide) (hts _ tw_4_173) (fun _ h9 => h9) rfl dX4_beside_52 ?_
        refine lv_iload_n hx hb dX4_beside_55 rfl (lv_at hl 1 rfl) ?_
        refine h_aaldI (D := G.1) hx hb hK 4 hW.txs rfl (vp_in_nI (n := j) (N := 4) (by omega) (by omega)) dX4_beside_56 ?_
        refine v_cv (show va_rf _ = .ref (tx j) from by rw [nI_clamp (n := j) (by omega)]; rfl) ?_
        have hTj := (hW.tx (j := j) (by omega)).ia hC.2.1.2
        have x60j := hW.2.2.1 j (Or.inl (by omega))
        refine lv_aload_n hx hb dX4_beside_57 rfl (lv_at hl 2 rfl) ?_
        have hra := hW.row.lt
        refine qR_S (A := A) (A1 := nw H2.size)  (As := [.ref (tx j), .ref r]) (rest := .int (nI j) :: .ref am :: []) ⟨hx, hb, hml, hown, hts⟩ (mX4_joined (A := nw H2.size) (sz := H2.size) (t := X j) (u := t) (by omega)) (va_cwS 2 hts (gS tw_4_200 tw_4_201 tw_1_8 tw_4_202) rfl rfl rfl (by decide +kernel) ⟨Nat.le_of_ble_eq_true rfl, Nat.le_of_ble_eq_true rfl⟩) hC hS (nw_in hA hS.1) nw_n  ⟨rfl, hTj, (hR.ia hC.2.1.2)⟩ rfl rfl hl.1 (Nat.le_of_ble_eq_true rfl) ⟨Nat.le_trans (show 0 + 1 ≤ 1 by omega) (Nat.le_of_ble_eq_true rfl), Nat.le_trans (show 0 + 61 ≤ 61 by omega) (Nat.le_of_ble_eq_true rfl)⟩ dX4_beside_58 (fun rv5 H5 L5 hP5 hk5 hS => ?_)
        have hZ5 := hS.1
        have hW := hW.nw hk5
        rw [if_neg (by decide)] at la okT
        refine qI_V (A := A) (A1 := A) (b := am) (As := [.int (nI j), .ref rv5]) (rest := []) ⟨hx, hb, hml, hown, hts⟩ (mX4_become (A := A) (X := X) (P := P) (k := k) (xa := xa) (t := X j ++ t) hj ⟨okT, by omega⟩) (cwV 2 hts (gV tw_4_214 tw_4_216 sel_X4_become tw_1_8 tw_4_217) rfl rfl rfl (by decide +kernel) ⟨Nat.le_of_ble_eq_true rfl, Nat.le_of_ble_eq_true rfl⟩) hC hS (fun _ h => h) (fun q h => hA q (Nat.le_trans hS.1 h)) (hW.recv hK) ⟨ra, pa, tx, hW, hP5.2, (by have := hP5.1; omega)⟩ rfl rfl hl.1 (Nat.le_of_ble_eq_true rfl) ⟨Nat.le_trans (show (0 + 1) ≤ 1 by omega) (Nat.le_of_ble_eq_true rfl), Nat.le_trans (show (0 + 61) ≤ 61 by omega) (Nat.le_of_ble_eq_true rfl)⟩ dX4_beside_61 (fun rv6 H6 L6 hP6 hk6 hS => ?_)
        have hZ6 := hS.1
        exact q_i hx hb hr hlocks dX4_beside_64 hS (by omega) (by omega) (Or.inr (by rw [if_neg (by decide)]; exact ⟨hP6.1, by omega, hP6.2⟩))
      · subst c_4
        refine lv_aload_n hx hb dX4_beside_38 rfl (lv_at hl 2 rfl) ?_
        refine lv_aload_n hx hb dX4_beside_39 rfl (lv_at hl 0 rfl) ?_
        refine va_get (D := G.1) (ci := 8) (C := RX4) (T := TX4) (N := 5) hx hb hts inX4 hown hK (at_P hO) 0 rfl rfl 1 (by decide) (hts _ tw_4_173) (fun _ h9 => h9) rfl dX4_beside_40 ?_
        refine lv_iload_n hx hb dX4_beside_43 rfl (lv_at hl 1 rfl) ?_
        refine h_aaldI (D := G.1) hx hb hK 4 hW.txs rfl (vp_in_nI (n := j) (N := 4) (by omega) (by omega)) dX4_beside_44 ?_
        refine v_cv (show va_rf _ = .ref (tx j) from by rw [nI_clamp (n := j) (by omega)]; rfl) ?_
        have hTj := (hW.tx (j := j) (by omega)).ia hC.2.1.2
        have x60j := hW.2.2.1 j (Or.inl (by omega))
        have hra := hW.row.lt
        refine qR_S (A := A) (A1 := nw H2.size)  (As := [.ref r, .ref (tx j)]) (rest := .int (nI j) :: .ref am :: []) ⟨hx, hb, hml, hown, hts⟩ (mX4_joined (A := nw H2.size) (sz := H2.size) (t := t) (u := X j) (by omega)) (va_cwS 2 hts (gS tw_4_200 tw_4_201 tw_1_8 tw_4_202) rfl rfl rfl (by decide +kernel) ⟨Nat.le_of_ble_eq_true rfl, Nat.le_of_ble_eq_true rfl⟩) hC hS (nw_in hA hS.1) nw_n  ⟨rfl, (hR.ia hC.2.1.2), hTj⟩ rfl rfl hl.1 (Nat.le_of_ble_eq_true rfl) ⟨Nat.le_trans (show 0 + 1 ≤ 1 by omega) (Nat.le_of_ble_eq_true rfl), Nat.le_trans (show 0 + 61 ≤ 61 by omega) (Nat.le_of_ble_eq_true rfl)⟩ dX4_beside_45 (fun rv7 H7 L7 hP7 hk7 hS => ?_)
        have hZ7 := hS.1
        have hW := hW.nw hk7
        rw [if_pos rfl] at la okT
        refine lv_goto (tgt := 61) hx hb dX4_beside_48 (by decide) ?_
        refine qI_V (A := A) (A1 := A) (b := am) (As := [.int (nI j), .ref rv7]) (rest := []) ⟨hx, hb, hml, hown, hts⟩ (mX4_become (A := A) (X := X) (P := P) (k := k) (xa := xa) (t := t ++ X j) hj ⟨okT, by omega⟩) (cwV 2 hts (gV tw_4_214 tw_4_216 sel_X4_become tw_1_8 tw_4_217) rfl rfl rfl (by decide +kernel) ⟨Nat.le_of_ble_eq_true rfl, Nat.le_of_ble_eq_true rfl⟩) hC hS (fun _ h => h) (fun q h => hA q (Nat.le_trans hS.1 h)) (hW.recv hK) ⟨ra, pa, tx, hW, hP7.2, (by have := hP7.1; omega)⟩ rfl rfl hl.1 (Nat.le_of_ble_eq_true rfl) ⟨Nat.le_trans (show (0 + 1) ≤ 1 by omega) (Nat.le_of_ble_eq_true rfl), Nat.le_trans (show (0 + 61) ≤ 61 by omega) (Nat.le_of_ble_eq_true rfl)⟩ dX4_beside_61 (fun rv8 H8 L8 hP8 hk8 hS => ?_)
        have hZ8 := hS.1
        exact q_i hx hb hr hlocks dX4_beside_64 hS (by omega) (by omega) (Or.inr (by rw [if_pos rfl]; exact ⟨hP8.1, by omega, hP8.2⟩))
    · exact absurd c_3 (by decide)
  · refine lv_iconst (v := nI 1) hx hb dX4_beside_16 (by decide) ?_
    refine lv_goto (tgt := 21) hx hb dX4_beside_17 (by decide) ?_
    refine lv_iconst (v := nI 2) hx hb dX4_beside_21 (by decide) ?_
    refine qI_V (A := A) (A1 := (fun q9 => A q9 ∧ q9 ≠ r)) (b := am) (As := [.int (bI true), .int (nI 2)]) (rest := []) ⟨hx, hb, hml, hown, hts⟩ (mX4_refuse (A := (fun q9 => A q9 ∧ q9 ≠ r)) (X := X) (P := P) (k := k) (xa := xa) (b := true) (th := 0) (w9 := 2) (by decide) (by decide)) (cwV 2 hts (gV tw_4_210 tw_4_212 sel_X4_refuse tw_1_8 tw_4_213) rfl rfl rfl (by decide +kernel) ⟨Nat.le_of_ble_eq_true rfl, Nat.le_of_ble_eq_true rfl⟩) hC hS (fun _ h => h.1) (fun q h => ⟨hA q (Nat.le_trans hS.1 h), by have := hR.lt; omega⟩) (hW.recv hK) ⟨ra, pa, tx, MWx_but hK hW hR hne⟩ rfl rfl hl.1 (Nat.le_of_ble_eq_true rfl) ⟨Nat.zero_le _, Nat.zero_le _⟩ dX4_beside_22 (fun rv9 H9 L9 hP9 hk9 hS => ?_)
    have hZ9 := hS.1
    obtain ⟨hr9, hM9⟩ := hP9
    subst hr9
    have hR := hR.kp hk9 (fun q => q.2 rfl)
    obtain ⟨ra, pa, tx, hW⟩ := hM9
    have hne : r ≠ ra := Ne.symm hW.2.2.2.2.1.2
    have hW : MWx G A am xa ra pa tx X P k (nI 2) H9 := MWx_mono (fun _ h => h.1) hW
    have hO := hW.obj
    have hAm := hW.1
    refine f_eq (tgt := 32) hx hb dX4_beside_25 (by decide) (fun c_10 => ?_) (fun c_10 => ?_)
    · exact absurd c_10 (by decide)
    · refine lv_iconst (v := nI 0) hx hb dX4_beside_28 (by decide) ?_
      refine lv_goto (tgt := 64) hx hb dX4_beside_29 (by decide) ?_
      exact q_i hx hb hr hlocks dX4_beside_64 hS (by omega) (by omega) (Or.inl ⟨by omega, rfl, ra, pa, tx, hW⟩)

abbrev rmX4_number : Room := { frames := 3, cells := 3, slots := 101, locals := 66 }
theorem mX4_number {l : Launch} {G : Cx} {A : Nat → Prop} {am xa : Nat} {X : Nat → List Nat} {P : List (List Nat)} {k : Int32} {x n9 th : Int32} {b : Bool} : Met l yX4_number (.code yX4_number cX4_number 4 (some .int) :: GW) rmX4_number (PC G A [.ref am, .int x, .int n9, .int (bI b)] (MW G A am xa X P k th)) (qI A (fun r H => ((NT x) ∧ r = 0 ∧ MW G A am xa X P k 1 H) ∨ ((∃ i : Nat, i < 4 ∧ x = nI i ∧ 60 < (if b then (numL (n9.toInt64)).take 60 ++ X i else X i ++ (numL (n9.toInt64)).take 60).length) ∧ r = 0 ∧ MW G A am xa X P k 2 H) ∨ ∃ i : Nat, i < 4 ∧ x = nI i ∧ (if b then (numL (n9.toInt64)).take 60 ++ X i else X i ++ (numL (n9.toInt64)).take 60).length ≤ 60 ∧ r = nI (if b then (numL (n9.toInt64)).take 60 ++ X i else X i ++ (numL (n9.toInt64)).take 60).length ∧ MW G A am xa (updT X i (if b then (numL (n9.toInt64)).take 60 ++ X i else X i ++ (numL (n9.toInt64)).take 60)) P k 0 H)) 3 101 (A) := by
  refine mstart "SigntextModel" (by decide +kernel) rfl (Nat.le_of_ble_eq_true rfl) ?_
  intro p e s m below meth c ls hx hb hr hts hown hml hlocks hname hC hA hW hl
  have hl : lv_has ls 4 [(0, .ref am), (1, .int x), (2, .int n9), (3, .int (bI b))] := hl
  have hK := hC.1
  have hS : va_S A s.heap s.heap [] := va_S.rf
  obtain ⟨ra, pa, tx, hW⟩ := hW
  have hO := hW.obj
  have hAm := hW.1
  refine lv_aload_n hx hb dX4_number_0 rfl (lv_at hl 0 rfl) ?_
  refine lv_iload_n hx hb dX4_number_1 rfl (lv_at hl 1 rfl) ?_
  refine kS_i (A := A) (As := [.int x]) (rest := .ref am :: []) ⟨hx, hb, hml, hown, hts⟩ (mX4_isNone (A := A) ) (va_cwS 1 hts (gS tw_4_203 tw_4_204 tw_1_8 tw_4_205) rfl rfl rfl (by decide +kernel) ⟨Nat.le_of_ble_eq_true rfl, Nat.le_of_ble_eq_true rfl⟩) hC hS hA  trivial rfl rfl hl.1 (Nat.le_of_ble_eq_true rfl) ⟨Nat.zero_le _, Nat.zero_le _⟩ dX4_number_2 (fun r_11 hr_11 => ?_)
  obtain ⟨r_11v, hr_11v, rfl⟩ := hr_11
  refine lv_iconst (v := nI 1) hx hb dX4_number_5 (by decide) ?_
  cases r_11v
  · obtain ⟨i, hi, rfl⟩ : ∃ i : Nat, i < 4 ∧ x = nI i := Classical.byContradiction (fun q => Bool.noConfusion (hr_11v.mpr q))
    refine qI_V (A := A) (A1 := A) (b := am) (As := [.int (bI false), .int (nI 1)]) (rest := []) ⟨hx, hb, hml, hown, hts⟩ (mX4_start (A := A) (X := X) (P := P) (k := k) (xa := xa) (b := false) (w9 := 1) (by decide)) (cwV 2 hts (gV tw_4_206 tw_4_208 sel_X4_start tw_1_8 tw_4_209) rfl rfl rfl (by decide +kernel) ⟨Nat.le_of_ble_eq_true rfl, Nat.le_of_ble_eq_true rfl⟩) hC hS (fun _ h => h) (fun q h => hA q (Nat.le_trans hS.1 h)) (hW.recv hK) ⟨ra, pa, tx, hW⟩ rfl rfl hl.1 (Nat.le_of_ble_eq_true rfl) ⟨Nat.zero_le _, Nat.zero_le _⟩ dX4_number_6 (fun rv12 H12 L12 hP12 hk12 hS => ?_)
    have hZ12 := hS.1
    obtain ⟨hr12, hM12⟩ := hP12
    subst hr12
    obtain ⟨ra, pa, tx, hW⟩ := hM12
    have hW : MWx G A am xa ra pa tx X P k (nI 0) H12 := hW
    have hO := hW.obj
    have hAm := hW.1
    refine f_eq (tgt := 16) hx hb dX4_number_9 (by decide) (fun c_13 => ?_) (fun c_13 => ?_)
    · refine lv_aload_n hx hb dX4_number_16 rfl (lv_at hl 0 rfl) ?_
      refine lv_iload_n hx hb dX4_number_17 rfl (lv_at hl 1 rfl) ?_
      refine lv_iload_n hx hb dX4_number_18 rfl (lv_at hl 2 rfl) ?_
      refine lv_i2l hx hb dX4_number_19 rfl ?_
      have hra := hW.row.lt
      refine qR_S (A := A) (A1 := nw H12.size)  (As := [.long n9.toInt64]) (rest := .int (nI i) :: .ref am :: []) ⟨hx, hb, hml, hown, hts⟩ (mX4_digits (A := nw H12.size) (sz := H12.size) (x := n9.toInt64)) (va_cwS 1 hts (gS tw_5_22 tw_5_23 tw_1_8 tw_5_24) rfl rfl rfl (by decide +kernel) ⟨Nat.le_of_ble_eq_true rfl, Nat.le_of_ble_eq_true rfl⟩) hC hS (nw_in hA hS.1) nw_n  rfl rfl rfl hl.1 (Nat.le_of_ble_eq_true rfl) ⟨Nat.le_trans (show 0 + 2 ≤ 3 by omega) (Nat.le_of_ble_eq_true rfl), Nat.le_trans (show 0 + 40 ≤ 101 by omega) (Nat.le_of_ble_eq_true rfl)⟩ dX4_number_20 (fun rv14 H14 L14 hP14 hk14 hS => ?_)
      have hZ14 := hS.1
      have hW := hW.nw hk14
      refine lv_iload_n hx hb dX4_number_23 rfl (lv_at hl 3 rfl) ?_
      refine qI_V (A := A) (A1 := A) (b := am) (As := [.int (nI i), .ref rv14, .int (bI b)]) (rest := []) ⟨hx, hb, hml, hown, hts⟩ (mX4_beside (A := A) (X := X) (P := P) (k := k) (xa := xa) (t := (numL (n9.toInt64)).take 60) (b := b) hi (by have h := numL_ok (n9.toInt64); exact ⟨h.1, by omega⟩)) (cwV 3 hts (gV tw_5_29 tw_5_31 sel_X4_beside tw_1_8 tw_5_32) rfl rfl rfl (by decide +kernel) ⟨Nat.le_of_ble_eq_true rfl, Nat.le_of_ble_eq_true rfl⟩) hC hS (fun _ h => h) (fun q h => hA q (Nat.le_trans hS.1 h)) (hW.recv hK) ⟨ra, pa, tx, hW, hP14.2, by have := hP14.1; omega⟩ rfl rfl hl.1 (Nat.le_of_ble_eq_true rfl) ⟨Nat.le_trans (show (0 + 2) + 1 ≤ 3 by omega) (Nat.le_of_ble_eq_true rfl), Nat.le_trans (show (0 + 40) + 61 ≤ 101 by omega) (Nat.le_of_ble_eq_true rfl)⟩ dX4_number_24 (fun rv15 H15 L15 hP15 hk15 hS => ?_)
      have hZ15 := hS.1
      rcases hP15 with ⟨w1, w2, w3⟩ | ⟨w2, w1, w3⟩
      · exact q_i hx hb hr hlocks dX4_number_27 hS (by omega) (by omega) (Or.inr (Or.inl ⟨⟨i, hi, rfl, w1⟩, w2, w3⟩))
      · exact q_i hx hb hr hlocks dX4_number_27 hS (by omega) (by omega) (Or.inr (Or.inr (⟨i, hi, rfl, w1, w2, w3⟩)))
    · exact absurd c_13 (by decide)
  · refine qI_V (A := A) (A1 := A) (b := am) (As := [.int (bI true), .int (nI 1)]) (rest := []) ⟨hx, hb, hml, hown, hts⟩ (mX4_start (A := A) (X := X) (P := P) (k := k) (xa := xa) (b := true) (w9 := 1) (by decide)) (cwV 2 hts (gV tw_4_206 tw_4_208 sel_X4_start tw_1_8 tw_4_209) rfl rfl rfl (by decide +kernel) ⟨Nat.le_of_ble_eq_true rfl, Nat.le_of_ble_eq_true rfl⟩) hC hS (fun _ h => h) (fun q h => hA q (Nat.le_trans hS.1 h)) (hW.recv hK) ⟨ra, pa, tx, hW⟩ rfl rfl hl.1 (Nat.le_of_ble_eq_true rfl) ⟨Nat.zero_le _, Nat.zero_le _⟩ dX4_number_6 (fun rv16 H16 L16 hP16 hk16 hS => ?_)
    have hZ16 := hS.1
    obtain ⟨hr16, hM16⟩ := hP16
    subst hr16
    obtain ⟨ra, pa, tx, hW⟩ := hM16
    have hW : MWx G A am xa ra pa tx X P k (nI 1) H16 := hW
    have hO := hW.obj
    have hAm := hW.1
    refine f_eq (tgt := 16) hx hb dX4_number_9 (by decide) (fun c_17 => ?_) (fun c_17 => ?_)
    · exact absurd c_17 (by decide)
    · refine lv_iconst (v := nI 0) hx hb dX4_number_12 (by decide) ?_
      refine lv_goto (tgt := 27) hx hb dX4_number_13 (by decide) ?_
      exact q_i hx hb hr hlocks dX4_number_27 hS (by omega) (by omega) (Or.inl ⟨(hr_11v.mp rfl), rfl, ra, pa, tx, hW⟩)

abbrev rmX4_great : Room := { frames := 3, cells := 3, slots := 101, locals := 66 }
theorem mX4_great {l : Launch} {G : Cx} {A : Nat → Prop} {am xa : Nat} {X : Nat → List Nat} {P : List (List Nat)} {k : Int32} {x h9 l9 th : Int32} : Met l yX4_great (.code yX4_great cX4_great 4 (some .int) :: GW) rmX4_great (PC G A [.ref am, .int x, .int h9, .int l9] (MW G A am xa X P k th)) (qI A (fun r H => ((NT x) ∧ r = 0 ∧ MW G A am xa X P k 1 H) ∨ ((∃ i : Nat, i < 4 ∧ x = nI i ∧ 60 < (if false then (numL ((h9.toInt64 <<< ((nI 32).toInt64 &&& 63)) ||| (l9.toInt64 &&& 4294967295))).take 60 ++ X i else X i ++ (numL ((h9.toInt64 <<< ((nI 32).toInt64 &&& 63)) ||| (l9.toInt64 &&& 4294967295))).take 60).length) ∧ r = 0 ∧ MW G A am xa X P k 2 H) ∨ ∃ i : Nat, i < 4 ∧ x = nI i ∧ (if false then (numL ((h9.toInt64 <<< ((nI 32).toInt64 &&& 63)) ||| (l9.toInt64 &&& 4294967295))).take 60 ++ X i else X i ++ (numL ((h9.toInt64 <<< ((nI 32).toInt64 &&& 63)) ||| (l9.toInt64 &&& 4294967295))).take 60).length ≤ 60 ∧ r = nI (if false then (numL ((h9.toInt64 <<< ((nI 32).toInt64 &&& 63)) ||| (l9.toInt64 &&& 4294967295))).take 60 ++ X i else X i ++ (numL ((h9.toInt64 <<< ((nI 32).toInt64 &&& 63)) ||| (l9.toInt64 &&& 4294967295))).take 60).length ∧ MW G A am xa (updT X i (if false then (numL ((h9.toInt64 <<< ((nI 32).toInt64 &&& 63)) ||| (l9.toInt64 &&& 4294967295))).take 60 ++ X i else X i ++ (numL ((h9.toInt64 <<< ((nI 32).toInt64 &&& 63)) ||| (l9.toInt64 &&& 4294967295))).take 60)) P k 0 H)) 3 101 (A) := by
  refine mstart "SigntextModel" (by decide +kernel) rfl (Nat.le_of_ble_eq_true rfl) ?_
  intro p e s m below meth c ls hx hb hr hts hown hml hlocks hname hC hA hW hl
  have hl : lv_has ls 4 [(0, .ref am), (1, .int x), (2, .int h9), (3, .int l9)] := hl
  have hK := hC.1
  have hS : va_S A s.heap s.heap [] := va_S.rf
  obtain ⟨ra, pa, tx, hW⟩ := hW
  have hO := hW.obj
  have hAm := hW.1
  refine lv_aload_n hx hb dX4_great_0 rfl (lv_at hl 0 rfl) ?_
  refine lv_iload_n hx hb dX4_great_1 rfl (lv_at hl 1 rfl) ?_
  refine kS_i (A := A) (As := [.int x]) (rest := .ref am :: []) ⟨hx, hb, hml, hown, hts⟩ (mX4_isNone (A := A) ) (va_cwS 1 hts (gS tw_4_203 tw_4_204 tw_1_8 tw_4_205) rfl rfl rfl (by decide +kernel) ⟨Nat.le_of_ble_eq_true rfl, Nat.le_of_ble_eq_true rfl⟩) hC hS hA  trivial rfl rfl hl.1 (Nat.le_of_ble_eq_true rfl) ⟨Nat.zero_le _, Nat.zero_le _⟩ dX4_great_2 (fun r_18 hr_18 => ?_)
  obtain ⟨r_18v, hr_18v, rfl⟩ := hr_18
  refine lv_iconst (v := nI 1) hx hb dX4_great_5 (by decide) ?_
  cases r_18v
  · obtain ⟨i, hi, rfl⟩ : ∃ i : Nat, i < 4 ∧ x = nI i := Classical.byContradiction (fun q => Bool.noConfusion (hr_18v.mpr q))
    refine qI_V (A := A) (A1 := A) (b := am) (As := [.int (bI false), .int (nI 1)]) (rest := []) ⟨hx, hb, hml, hown, hts⟩ (mX4_start (A := A) (X := X) (P := P) (k := k) (xa := xa) (b := false) (w9 := 1) (by decide)) (cwV 2 hts (gV tw_4_206 tw_4_208 sel_X4_start tw_1_8 tw_4_209) rfl rfl rfl (by decide +kernel) ⟨Nat.le_of_ble_eq_true rfl, Nat.le_of_ble_eq_true rfl⟩) hC hS (fun _ h => h) (fun q h => hA q (Nat.le_trans hS.1 h)) (hW.recv hK) ⟨ra, pa, tx, hW⟩ rfl rfl hl.1 (Nat.le_of_ble_eq_true rfl) ⟨Nat.zero_le _, Nat.zero_le _⟩ dX4_great_6 (fun rv19 H19 L19 hP19 hk19 hS => ?_)
    have hZ19 := hS.1
    obtain ⟨hr19, hM19⟩ := hP19
    subst hr19
    obtain ⟨ra, pa, tx, hW⟩ := hM19
    have hW : MWx G A am xa ra pa tx X P k (nI 0) H19 := hW
    have hO := hW.obj
    have hAm := hW.1
    refine f_eq (tgt := 16) hx hb dX4_great_9 (by decide) (fun c_20 => ?_) (fun c_20 => ?_)
    · refine lv_aload_n hx hb dX4_great_16 rfl (lv_at hl 0 rfl) ?_
      refine lv_iload_n hx hb dX4_great_17 rfl (lv_at hl 1 rfl) ?_
      refine lv_iload_n hx hb dX4_great_18 rfl (lv_at hl 2 rfl) ?_
      refine lv_i2l hx hb dX4_great_19 rfl ?_
      refine lv_bipush (v := nI 32) hx hb dX4_great_20 (by decide) ?_
      refine lv_lshl hx hb dX4_great_22 rfl ?_
      refine lv_iload_n hx hb dX4_great_23 rfl (lv_at hl 3 rfl) ?_
      refine lv_i2l hx hb dX4_great_24 rfl ?_
      refine lv_ldc2 (v := 4294967295) hx hb hown (hts _ tw_5_37) dX4_great_25 ?_
      refine lv_land hx hb dX4_great_28 ?_
      refine lv_lor hx hb dX4_great_29 ?_
      have hra := hW.row.lt
      refine qR_S (A := A) (A1 := nw H19.size)  (As := [.long ((h9.toInt64 <<< ((nI 32).toInt64 &&& 63)) ||| (l9.toInt64 &&& 4294967295))]) (rest := .int (nI i) :: .ref am :: []) ⟨hx, hb, hml, hown, hts⟩ (mX4_digits (A := nw H19.size) (sz := H19.size) (x := (h9.toInt64 <<< ((nI 32).toInt64 &&& 63)) ||| (l9.toInt64 &&& 4294967295))) (va_cwS 1 hts (gS tw_5_22 tw_5_23 tw_1_8 tw_5_24) rfl rfl rfl (by decide +kernel) ⟨Nat.le_of_ble_eq_true rfl, Nat.le_of_ble_eq_true rfl⟩) hC hS (nw_in hA hS.1) nw_n  rfl rfl rfl hl.1 (Nat.le_of_ble_eq_true rfl) ⟨Nat.le_trans (show 0 + 2 ≤ 3 by omega) (Nat.le_of_ble_eq_true rfl), Nat.le_trans (show 0 + 40 ≤ 101 by omega) (Nat.le_of_ble_eq_true rfl)⟩ dX4_great_30 (fun rv21 H21 L21 hP21 hk21 hS => ?_)
      have hZ21 := hS.1
      have hW := hW.nw hk21
      refine lv_iconst (v := nI 0) hx hb dX4_great_33 (by decide) ?_
      refine qI_V (A := A) (A1 := A) (b := am) (As := [.int (nI i), .ref rv21, .int (bI false)]) (rest := []) ⟨hx, hb, hml, hown, hts⟩ (mX4_beside (A := A) (X := X) (P := P) (k := k) (xa := xa) (t := (numL ((h9.toInt64 <<< ((nI 32).toInt64 &&& 63)) ||| (l9.toInt64 &&& 4294967295))).take 60) (b := false) hi (by have h := numL_ok ((h9.toInt64 <<< ((nI 32).toInt64 &&& 63)) ||| (l9.toInt64 &&& 4294967295)); exact ⟨h.1, by omega⟩)) (cwV 3 hts (gV tw_5_29 tw_5_31 sel_X4_beside tw_1_8 tw_5_32) rfl rfl rfl (by decide +kernel) ⟨Nat.le_of_ble_eq_true rfl, Nat.le_of_ble_eq_true rfl⟩) hC hS (fun _ h => h) (fun q h => hA q (Nat.le_trans hS.1 h)) (hW.recv hK) ⟨ra, pa, tx, hW, hP21.2, by have := hP21.1; omega⟩ rfl rfl hl.1 (Nat.le_of_ble_eq_true rfl) ⟨Nat.le_trans (show (0 + 2) + 1 ≤ 3 by omega) (Nat.le_of_ble_eq_true rfl), Nat.le_trans (show (0 + 40) + 61 ≤ 101 by omega) (Nat.le_of_ble_eq_true rfl)⟩ dX4_great_34 (fun rv22 H22 L22 hP22 hk22 hS => ?_)
      have hZ22 := hS.1
      rcases hP22 with ⟨w1, w2, w3⟩ | ⟨w2, w1, w3⟩
      · exact q_i hx hb hr hlocks dX4_great_37 hS (by omega) (by omega) (Or.inr (Or.inl ⟨⟨i, hi, rfl, w1⟩, w2, w3⟩))
      · exact q_i hx hb hr hlocks dX4_great_37 hS (by omega) (by omega) (Or.inr (Or.inr (⟨i, hi, rfl, w1, w2, w3⟩)))
    · exact absurd c_20 (by decide)
  · refine qI_V (A := A) (A1 := A) (b := am) (As := [.int (bI true), .int (nI 1)]) (rest := []) ⟨hx, hb, hml, hown, hts⟩ (mX4_start (A := A) (X := X) (P := P) (k := k) (xa := xa) (b := true) (w9 := 1) (by decide)) (cwV 2 hts (gV tw_4_206 tw_4_208 sel_X4_start tw_1_8 tw_4_209) rfl rfl rfl (by decide +kernel) ⟨Nat.le_of_ble_eq_true rfl, Nat.le_of_ble_eq_true rfl⟩) hC hS (fun _ h => h) (fun q h => hA q (Nat.le_trans hS.1 h)) (hW.recv hK) ⟨ra, pa, tx, hW⟩ rfl rfl hl.1 (Nat.le_of_ble_eq_true rfl) ⟨Nat.zero_le _, Nat.zero_le _⟩ dX4_great_6 (fun rv23 H23 L23 hP23 hk23 hS => ?_)
    have hZ23 := hS.1
    obtain ⟨hr23, hM23⟩ := hP23
    subst hr23
    obtain ⟨ra, pa, tx, hW⟩ := hM23
    have hW : MWx G A am xa ra pa tx X P k (nI 1) H23 := hW
    have hO := hW.obj
    have hAm := hW.1
    refine f_eq (tgt := 16) hx hb dX4_great_9 (by decide) (fun c_24 => ?_) (fun c_24 => ?_)
    · exact absurd c_24 (by decide)
    · refine lv_iconst (v := nI 0) hx hb dX4_great_12 (by decide) ?_
      refine lv_goto (tgt := 37) hx hb dX4_great_13 (by decide) ?_
      exact q_i hx hb hr hlocks dX4_great_37 hS (by omega) (by omega) (Or.inl ⟨(hr_18v.mp rfl), rfl, ra, pa, tx, hW⟩)

abbrev rmX4_truth_ : Room := { frames := 3, cells := 3, slots := 101, locals := 66 }
theorem mX4_truth_ {l : Launch} {G : Cx} {A : Nat → Prop} {am xa : Nat} {X : Nat → List Nat} {P : List (List Nat)} {k : Int32} {x th : Int32} {b b2 : Bool} : Met l yX4_truth_ (.code yX4_truth_ cX4_truth_ 4 (some .int) :: GW) rmX4_truth_ (PC G A [.ref am, .int x, .int (bI b), .int (bI b2)] (MW G A am xa X P k th)) (qI A (fun r H => ((NT x) ∧ r = 0 ∧ MW G A am xa X P k 1 H) ∨ ((∃ i : Nat, i < 4 ∧ x = nI i ∧ 60 < (if b2 then stx (if b then 7 else 8) ++ X i else X i ++ stx (if b then 7 else 8)).length) ∧ r = 0 ∧ MW G A am xa X P k 2 H) ∨ ∃ i : Nat, i < 4 ∧ x = nI i ∧ (if b2 then stx (if b then 7 else 8) ++ X i else X i ++ stx (if b then 7 else 8)).length ≤ 60 ∧ r = nI (if b2 then stx (if b then 7 else 8) ++ X i else X i ++ stx (if b then 7 else 8)).length ∧ MW G A am xa (updT X i (if b2 then stx (if b then 7 else 8) ++ X i else X i ++ stx (if b then 7 else 8))) P k 0 H)) 3 101 (A) := by
  refine mstart "SigntextModel" (by decide +kernel) rfl (Nat.le_of_ble_eq_true rfl) ?_
  intro p e s m below meth c ls hx hb hr hts hown hml hlocks hname hC hA hW hl
  have hl : lv_has ls 4 [(0, .ref am), (1, .int x), (2, .int (bI b)), (3, .int (bI b2))] := hl
  have hK := hC.1
  have hS : va_S A s.heap s.heap [] := va_S.rf
  obtain ⟨ra, pa, tx, hW⟩ := hW
  have hO := hW.obj
  have hAm := hW.1
  refine lv_aload_n hx hb dX4_truth__0 rfl (lv_at hl 0 rfl) ?_
  refine lv_iload_n hx hb dX4_truth__1 rfl (lv_at hl 1 rfl) ?_
  refine kS_i (A := A) (As := [.int x]) (rest := .ref am :: []) ⟨hx, hb, hml, hown, hts⟩ (mX4_isNone (A := A) ) (va_cwS 1 hts (gS tw_4_203 tw_4_204 tw_1_8 tw_4_205) rfl rfl rfl (by decide +kernel) ⟨Nat.le_of_ble_eq_true rfl, Nat.le_of_ble_eq_true rfl⟩) hC hS hA  trivial rfl rfl hl.1 (Nat.le_of_ble_eq_true rfl) ⟨Nat.zero_le _, Nat.zero_le _⟩ dX4_truth__2 (fun r_25 hr_25 => ?_)
  obtain ⟨r_25v, hr_25v, rfl⟩ := hr_25
  refine lv_iconst (v := nI 1) hx hb dX4_truth__5 (by decide) ?_
  cases r_25v
  · obtain ⟨i, hi, rfl⟩ : ∃ i : Nat, i < 4 ∧ x = nI i := Classical.byContradiction (fun q => Bool.noConfusion (hr_25v.mpr q))
    refine qI_V (A := A) (A1 := A) (b := am) (As := [.int (bI false), .int (nI 1)]) (rest := []) ⟨hx, hb, hml, hown, hts⟩ (mX4_start (A := A) (X := X) (P := P) (k := k) (xa := xa) (b := false) (w9 := 1) (by decide)) (cwV 2 hts (gV tw_4_206 tw_4_208 sel_X4_start tw_1_8 tw_4_209) rfl rfl rfl (by decide +kernel) ⟨Nat.le_of_ble_eq_true rfl, Nat.le_of_ble_eq_true rfl⟩) hC hS (fun _ h => h) (fun q h => hA q (Nat.le_trans hS.1 h)) (hW.recv hK) ⟨ra, pa, tx, hW⟩ rfl rfl hl.1 (Nat.le_of_ble_eq_true rfl) ⟨Nat.zero_le _, Nat.zero_le _⟩ dX4_truth__6 (fun rv26 H26 L26 hP26 hk26 hS => ?_)
    have hZ26 := hS.1
    obtain ⟨hr26, hM26⟩ := hP26
    subst hr26
    obtain ⟨ra, pa, tx, hW⟩ := hM26
    have hW : MWx G A am xa ra pa tx X P k (nI 0) H26 := hW
    have hO := hW.obj
    have hAm := hW.1
    refine f_eq (tgt := 16) hx hb dX4_truth__9 (by decide) (fun c_27 => ?_) (fun c_27 => ?_)
    · refine lv_aload_n hx hb dX4_truth__16 rfl (lv_at hl 0 rfl) ?_
      refine lv_iload_n hx hb dX4_truth__17 rfl (lv_at hl 1 rfl) ?_
      refine lv_iload_n hx hb dX4_truth__18 rfl (lv_at hl 2 rfl) ?_
      have hra := hW.row.lt
      refine qR_S (A := A) (A1 := nw H26.size)  (As := [.int (bI b)]) (rest := .int (nI i) :: .ref am :: []) ⟨hx, hb, hml, hown, hts⟩ (mX4_truth (A := nw H26.size) (sz := H26.size) (b := b)) (va_cwS 1 hts (gS tw_5_42 tw_5_43 tw_1_8 tw_5_44) rfl rfl rfl (by decide +kernel) ⟨Nat.le_of_ble_eq_true rfl, Nat.le_of_ble_eq_true rfl⟩) hC hS (nw_in hA hS.1) nw_n  rfl rfl rfl hl.1 (Nat.le_of_ble_eq_true rfl) ⟨Nat.le_trans (show 0 + 1 ≤ 3 by omega) (Nat.le_of_ble_eq_true rfl), Nat.le_trans (show 0 + 5 ≤ 101 by omega) (Nat.le_of_ble_eq_true rfl)⟩ dX4_truth__19 (fun rv28 H28 L28 hP28 hk28 hS => ?_)
      have hZ28 := hS.1
      have hW := hW.nw hk28
      refine lv_iload_n hx hb dX4_truth__22 rfl (lv_at hl 3 rfl) ?_
      refine qI_V (A := A) (A1 := A) (b := am) (As := [.int (nI i), .ref rv28, .int (bI b2)]) (rest := []) ⟨hx, hb, hml, hown, hts⟩ (mX4_beside (A := A) (X := X) (P := P) (k := k) (xa := xa) (t := stx (if b then 7 else 8)) (b := b2) hi (stx_tf b)) (cwV 3 hts (gV tw_5_29 tw_5_31 sel_X4_beside tw_1_8 tw_5_32) rfl rfl rfl (by decide +kernel) ⟨Nat.le_of_ble_eq_true rfl, Nat.le_of_ble_eq_true rfl⟩) hC hS (fun _ h => h) (fun q h => hA q (Nat.le_trans hS.1 h)) (hW.recv hK) ⟨ra, pa, tx, hW, hP28.2, by have := hP28.1; omega⟩ rfl rfl hl.1 (Nat.le_of_ble_eq_true rfl) ⟨Nat.le_trans (show (0 + 1) + 1 ≤ 3 by omega) (Nat.le_of_ble_eq_true rfl), Nat.le_trans (show (0 + 5) + 61 ≤ 101 by omega) (Nat.le_of_ble_eq_true rfl)⟩ dX4_truth__23 (fun rv29 H29 L29 hP29 hk29 hS => ?_)
      have hZ29 := hS.1
      rcases hP29 with ⟨w1, w2, w3⟩ | ⟨w2, w1, w3⟩
      · exact q_i hx hb hr hlocks dX4_truth__26 hS (by omega) (by omega) (Or.inr (Or.inl ⟨⟨i, hi, rfl, w1⟩, w2, w3⟩))
      · exact q_i hx hb hr hlocks dX4_truth__26 hS (by omega) (by omega) (Or.inr (Or.inr (⟨i, hi, rfl, w1, w2, w3⟩)))
    · exact absurd c_27 (by decide)
  · refine qI_V (A := A) (A1 := A) (b := am) (As := [.int (bI true), .int (nI 1)]) (rest := []) ⟨hx, hb, hml, hown, hts⟩ (mX4_start (A := A) (X := X) (P := P) (k := k) (xa := xa) (b := true) (w9 := 1) (by decide)) (cwV 2 hts (gV tw_4_206 tw_4_208 sel_X4_start tw_1_8 tw_4_209) rfl rfl rfl (by decide +kernel) ⟨Nat.le_of_ble_eq_true rfl, Nat.le_of_ble_eq_true rfl⟩) hC hS (fun _ h => h) (fun q h => hA q (Nat.le_trans hS.1 h)) (hW.recv hK) ⟨ra, pa, tx, hW⟩ rfl rfl hl.1 (Nat.le_of_ble_eq_true rfl) ⟨Nat.zero_le _, Nat.zero_le _⟩ dX4_truth__6 (fun rv30 H30 L30 hP30 hk30 hS => ?_)
    have hZ30 := hS.1
    obtain ⟨hr30, hM30⟩ := hP30
    subst hr30
    obtain ⟨ra, pa, tx, hW⟩ := hM30
    have hW : MWx G A am xa ra pa tx X P k (nI 1) H30 := hW
    have hO := hW.obj
    have hAm := hW.1
    refine f_eq (tgt := 16) hx hb dX4_truth__9 (by decide) (fun c_31 => ?_) (fun c_31 => ?_)
    · exact absurd c_31 (by decide)
    · refine lv_iconst (v := nI 0) hx hb dX4_truth__12 (by decide) ?_
      refine lv_goto (tgt := 26) hx hb dX4_truth__13 (by decide) ?_
      exact q_i hx hb hr hlocks dX4_truth__26 hS (by omega) (by omega) (Or.inl ⟨(hr_25v.mp rfl), rfl, ra, pa, tx, hW⟩)

abbrev rmX4_put : Room := { frames := 3, cells := 13, slots := 376, locals := 64 }
theorem mX4_put {l : Launch} {G : Cx} {A : Nat → Prop} {am xa : Nat} {X : Nat → List Nat} {P : List (List Nat)} {k : Int32} {x a9 b9 c9 d9 e9 th : Int32} : Met l yX4_put (.code yX4_put cX4_put 14 (some .int) :: GW) rmX4_put (PC G A [.ref am, .int x, .int a9, .int b9, .int c9, .int d9, .int e9] (MW G A am xa X P k th)) (qI A (fun r H => ((NT x) ∧ r = 0 ∧ MW G A am xa X P k 1 H) ∨ (((∃ i : Nat, i < 4 ∧ x = nI i) ∧ (badS a9 ∨ badS b9 ∨ badS c9 ∨ badS d9 ∨ badS e9)) ∧ r = 0 ∧ MW G A am xa X P k 2 H) ∨ ((∃ (i : Nat) (w : List Nat), i < 4 ∧ x = nI i ∧ comeS a9 b9 c9 d9 e9 w ∧ 60 < (X i ++ w).length) ∧ r = 0 ∧ MW G A am xa X P k 3 H) ∨ ∃ (i : Nat) (w : List Nat), i < 4 ∧ x = nI i ∧ comeS a9 b9 c9 d9 e9 w ∧ (X i ++ w).length ≤ 60 ∧ r = nI (X i ++ w).length ∧ MW G A am xa (updT X i (X i ++ w)) P k 0 H)) 13 376 (A) := by
  refine mstart "SigntextModel" (by decide +kernel) rfl (Nat.le_of_ble_eq_true rfl) ?_
  intro p e s m below meth c ls hx hb hr hts hown hml hlocks hname hC hA hW hl
  have hl : lv_has ls 14 [(0, .ref am), (1, .int x), (2, .int a9), (3, .int b9), (4, .int c9), (5, .int d9), (6, .int e9)] := hl
  have hK := hC.1
  have hS : va_S A s.heap s.heap [] := va_S.rf
  obtain ⟨ra, pa, tx, hW⟩ := hW
  have hO := hW.obj
  have hAm := hW.1
  obtain ⟨-, -, zc3, zc4, zc5, zc6, zc7, -⟩ := hC.2.2.1
  refine lv_iconst (v := nI 5) hx hb dX4_put_0 (by decide) ?_
  have hW0 := hW
  have hra := hW.row.lt
  refine h_newa (D := G.1) (atype := .int) (N := 5) (z := (5, .inl (fun _ => 0))) hx hb (hts _ tw_1_70) rfl (fun h => h) hK 0 rfl hS rfl (nI_pos (by omega)) (nI_clamp (by omega)) (show 5 * _ ≤ _ from by show 5 * 4 ≤ 536870912; omega) (Nat.le_trans (show 0 + 1 ≤ 13 by omega) (Nat.le_of_ble_eq_true rfl)) (Nat.le_trans (show 0 + 5 ≤ 376 by omega) (Nat.le_of_ble_eq_true rfl)) dX4_put_1 (fun sg H32 hsg hFsg z32 o32 hS => ?_)
  have hZ32 := hS.1
  have hMsg : A sg := hA sg (by omega)
  refine lv_dup hx hb dX4_put_3 rfl ?_
  refine lv_iconst (v := nI 0) hx hb dX4_put_4 (by decide) ?_
  refine lv_iload_n hx hb dX4_put_5 rfl (lv_at hl 2 rfl) ?_
  refine h_ist (D := G.1) hx hb hK 0 hFsg rfl hS hMsg (vp_in_nI (n := 0) (N := 5) (by omega) (by omega)) dX4_put_6 (fun H33 L33 hFsg z33 o33 hS => ?_)
  rw [nI_clamp (n := 0) (by omega)] at hFsg
  have hZ33 := hS.1
  refine lv_dup hx hb dX4_put_7 rfl ?_
  refine lv_iconst (v := nI 1) hx hb dX4_put_8 (by decide) ?_
  refine lv_iload_n hx hb dX4_put_9 rfl (lv_at hl 3 rfl) ?_
  refine h_ist (D := G.1) hx hb hK 0 hFsg rfl hS hMsg (vp_in_nI (n := 1) (N := 5) (by omega) (by omega)) dX4_put_10 (fun H34 L34 hFsg z34 o34 hS => ?_)
  rw [nI_clamp (n := 1) (by omega)] at hFsg
  have hZ34 := hS.1
  refine lv_dup hx hb dX4_put_11 rfl ?_
  refine lv_iconst (v := nI 2) hx hb dX4_put_12 (by decide) ?_
  refine lv_iload hx hb dX4_put_13 (lv_at hl 4 rfl) ?_
  refine h_ist (D := G.1) hx hb hK 0 hFsg rfl hS hMsg (vp_in_nI (n := 2) (N := 5) (by omega) (by omega)) dX4_put_15 (fun H35 L35 hFsg z35 o35 hS => ?_)
  rw [nI_clamp (n := 2) (by omega)] at hFsg
  have hZ35 := hS.1
  refine lv_dup hx hb dX4_put_16 rfl ?_
  refine lv_iconst (v := nI 3) hx hb dX4_put_17 (by decide) ?_
  refine lv_iload hx hb dX4_put_18 (lv_at hl 5 rfl) ?_
  refine h_ist (D := G.1) hx hb hK 0 hFsg rfl hS hMsg (vp_in_nI (n := 3) (N := 5) (by omega) (by omega)) dX4_put_20 (fun H36 L36 hFsg z36 o36 hS => ?_)
  rw [nI_clamp (n := 3) (by omega)] at hFsg
  have hZ36 := hS.1
  refine lv_dup hx hb dX4_put_21 rfl ?_
  refine lv_iconst (v := nI 4) hx hb dX4_put_22 (by decide) ?_
  refine lv_iload hx hb dX4_put_23 (lv_at hl 6 rfl) ?_
  refine h_ist (D := G.1) hx hb hK 0 hFsg rfl hS hMsg (vp_in_nI (n := 4) (N := 5) (by omega) (by omega)) dX4_put_25 (fun H37 L37 hFsg z37 o37 hS => ?_)
  rw [nI_clamp (n := 4) (by omega)] at hFsg
  have hZ37 := hS.1
  obtain ⟨fS, hfS⟩ : ∃ f, f = upd (upd (upd (upd (upd (fun _ => 0) 0 a9) 1 b9) 2 c9) 3 d9) 4 e9 := ⟨_, rfl⟩
  rw [← hfS] at hFsg
  have hav : ∀ q : Nat, q < 5 → fS q = avI a9 b9 c9 d9 e9 q := fun q hq => by rw [hfS]; match q, hq with | 0, _ => rfl | 1, _ => rfl | 2, _ => rfl | 3, _ => rfl | 4, _ => rfl
  clear hfS
  refine lv_astore (lv' := [(7, .ref sg), (0, .ref am), (1, .int x), (2, .int a9), (3, .int b9), (4, .int c9), (5, .int d9), (6, .int e9)]) hx hb dX4_put_26 hl (by decide) rfl (fun ls hl => ?_)
  refine lv_iconst (v := nI 0) hx hb dX4_put_28 (by decide) ?_
  refine lv_istore (lv' := [(8, .int (nI 0)), (7, .ref sg), (0, .ref am), (1, .int x), (2, .int a9), (3, .int b9), (4, .int c9), (5, .int d9), (6, .int e9)]) hx hb dX4_put_29 hl (by decide) rfl (fun ls hl => ?_)
  refine lv_iconst (v := nI 0) hx hb dX4_put_31 (by decide) ?_
  refine h_newa (D := G.1) (atype := .int) (N := 0) (z := (0, .inl (fun _ => 0))) hx hb (hts _ tw_1_70) rfl (fun h => h) hK 0 rfl hS rfl (nI_pos (by omega)) (nI_clamp (by omega)) (show 0 * _ ≤ _ from by show 0 * 4 ≤ 536870912; omega) (Nat.le_trans (show (0 + 1) + 1 ≤ 13 by omega) (Nat.le_of_ble_eq_true rfl)) (Nat.le_trans (show (0 + 5) + 0 ≤ 376 by omega) (Nat.le_of_ble_eq_true rfl)) dX4_put_32 (fun nm H38 hnm hFnm z38 o38 hS => ?_)
  have n38hFsg : sg ≠ nm := fun q => absurd hFsg.lt (by rw [q, hnm]; exact Nat.lt_irrefl _)
  have hFsg := at_n hFsg o38
  have hZ38 := hS.1
  have hMnm : A nm := hA nm (by omega)
  have hk8 : kp (fun q => s.heap.size ≤ q) s.heap H38 := ((kp_wr hsg z32 o32 (by omega)).tr ((kp_w1 (A := fun q => s.heap.size ≤ q) (by omega) z33 o33).tr ((kp_w1 (A := fun q => s.heap.size ≤ q) (by omega) z34 o34).tr ((kp_w1 (A := fun q => s.heap.size ≤ q) (by omega) z35 o35).tr ((kp_w1 (A := fun q => s.heap.size ≤ q) (by omega) z36 o36).tr ((kp_w1 (A := fun q => s.heap.size ≤ q) (by omega) z37 o37).tr (kp.new z38 o38)))))))
  have hW := hW0.nw hk8
  have hN : IA0 G nm [] H38 := IA0.mk hFnm rfl (fun q hq => absurd hq (Nat.not_lt_zero q))
  have hnsg : sg ≠ nm := n38hFsg
  have hgr : ra < nm := by omega
  have hsr : s.heap.size ≤ sg := by omega
  refine lv_astore (lv' := [(9, .ref nm), (8, .int (nI 0)), (7, .ref sg), (0, .ref am), (1, .int x), (2, .int a9), (3, .int b9), (4, .int c9), (5, .int d9), (6, .int e9)]) hx hb dX4_put_34 hl (by decide) rfl (fun ls hl => ?_)
  refine lv_aload hx hb dX4_put_36 (lv_at hl 2 rfl) ?_
  refine lv_astore (lv' := [(10, .ref sg), (9, .ref nm), (8, .int (nI 0)), (7, .ref sg), (0, .ref am), (1, .int x), (2, .int a9), (3, .int b9), (4, .int c9), (5, .int d9), (6, .int e9)]) hx hb dX4_put_38 hl (by decide) rfl (fun ls hl => ?_)
  refine lv_aload hx hb dX4_put_40 (lv_at hl 0 rfl) ?_
  refine va_alen hx hb hK (at_P hFsg) 0 0 (v := nI 5) rfl rfl rfl dX4_put_42 ?_
  refine lv_istore (lv' := [(11, .int (nI 5)), (10, .ref sg), (9, .ref nm), (8, .int (nI 0)), (7, .ref sg), (0, .ref am), (1, .int x), (2, .int a9), (3, .int b9), (4, .int c9), (5, .int d9), (6, .int e9)]) hx hb dX4_put_43 hl (by decide) rfl (fun ls hl => ?_)
  refine lv_iconst (v := nI 0) hx hb dX4_put_45 (by decide) ?_
  refine lv_istore (lv' := [(12, .int (nI 0)), (11, .int (nI 5)), (10, .ref sg), (9, .ref nm), (8, .int (nI 0)), (7, .ref sg), (0, .ref am), (1, .int x), (2, .int a9), (3, .int b9), (4, .int c9), (5, .int d9), (6, .int e9)]) hx hb dX4_put_46 hl (by decide) rfl (fun ls hl => ?_)
  refine W.widen (k := 2 + 0 * 2) (n := 5 + 0 * 62) (by decide) (by decide) ?_
  have hl : lv_has ls 14 [(12, .int (nI 0)), (11, .int (nI 5)), (10, .ref sg), (9, .ref nm), (8, .int (bI false)), (0, .ref am), (1, .int x)] := (lv_sub hl [0, 1, 2, 3, 4, 6, 7] rfl)
  refine nloop (P := fun q => ∀ (ls : Array Slot) (H : Heap) (L : List Loc) (nm : Nat) (b : Bool) (w : List Nat), lv_has ls 14 [(12, .int (nI q)), (11, .int (nI 5)), (10, .ref sg), (9, .ref nm), (8, .int (bI b)), (0, .ref am), (1, .int x)] → va_S A s.heap H L → MWx G A am xa ra pa tx X P k th H → va_at G.1 vwCl (sg, .inl (G.2.1 0, 5, .inl fS)) H → IA0 G nm w H → ra < nm → s.heap.size ≤ nm → cumS (avI a9 b9 c9 d9 e9) q b w → W p l e rmX4_put s m [.ref am, .int x, .int a9, .int b9, .int c9, .int d9, .int e9].toArray below meth c H L (2 + q * 2) (5 + q * 62) (MQ below (qI A (fun r H => ((NT x) ∧ r = 0 ∧ MW G A am xa X P k 1 H) ∨ (((∃ i : Nat, i < 4 ∧ x = nI i) ∧ (badS a9 ∨ badS b9 ∨ badS c9 ∨ badS d9 ∨ badS e9)) ∧ r = 0 ∧ MW G A am xa X P k 2 H) ∨ ((∃ (i : Nat) (w : List Nat), i < 4 ∧ x = nI i ∧ comeS a9 b9 c9 d9 e9 w ∧ 60 < (X i ++ w).length) ∧ r = 0 ∧ MW G A am xa X P k 3 H) ∨ ∃ (i : Nat) (w : List Nat), i < 4 ∧ x = nI i ∧ comeS a9 b9 c9 d9 e9 w ∧ (X i ++ w).length ≤ 60 ∧ r = nI (X i ++ w).length ∧ MW G A am xa (updT X i (X i ++ w)) P k 0 H)) [.ref am, .int x, .int a9, .int b9, .int c9, .int d9, .int e9].toArray s 13 376 (A)) (F0 m 48 ls [])) 5 ?_ 0 (Nat.zero_le _) ls H38 L37 nm false [] hl hS hW hFsg hN hgr (by omega) ⟨rfl, rfl⟩
  clear hl
  intro q hq ih ls H L nm b w hl
  clear hS hW hFsg hN hgr hW0 hk8 hnsg
  intro hS hW hFsg hN hgr hgs hcu
  have hZ0 := hS.1
  have wl := cumS_len hcu
  have wok := cumS_ok hcu
  refine lv_iload hx hb dX4_put_48 (lv_at hl 0 rfl) ?_
  refine lv_iload hx hb dX4_put_50 (lv_at hl 1 rfl) ?_
  refine b_ge (tgt := 119) hx hb dX4_put_52 (by decide) (by omega) (by omega) (fun c_39 => ?_) (fun c_39 => ?_)
  · have e5 : q = 5 := by omega
    subst e5
    clear ih
    have hcu2 := cumS_end hcu
    have hO := hW.obj
    have hAm := hW.1
    have hng : nm ≠ ra := by omega
    refine lv_aload_n hx hb dX4_put_119 rfl (lv_at hl 5 rfl) ?_
    refine lv_iload_n hx hb dX4_put_120 rfl (lv_at hl 6 rfl) ?_
    refine kS_i (A := A) (As := [.int x]) (rest := .ref am :: []) ⟨hx, hb, hml, hown, hts⟩ (mX4_isNone (A := A) ) (va_cwS 1 hts (gS tw_4_203 tw_4_204 tw_1_8 tw_4_205) rfl rfl rfl (by decide +kernel) ⟨Nat.le_of_ble_eq_true rfl, Nat.le_of_ble_eq_true rfl⟩) hC hS hA  trivial rfl rfl hl.1 (Nat.le_of_ble_eq_true rfl) ⟨Nat.le_trans (show (2 + 5 * 2) ≤ 13 by omega) (Nat.le_of_ble_eq_true rfl), Nat.le_trans (show (5 + 5 * 62) ≤ 376 by omega) (Nat.le_of_ble_eq_true rfl)⟩ dX4_put_121 (fun r_40 hr_40 => ?_)
    obtain ⟨r_40v, hr_40v, rfl⟩ := hr_40
    refine lv_iconst (v := nI 1) hx hb dX4_put_124 (by decide) ?_
    cases r_40v
    · obtain ⟨i, hi, rfl⟩ : ∃ i : Nat, i < 4 ∧ x = nI i := Classical.byContradiction (fun q => Bool.noConfusion (hr_40v.mpr q))
      refine qI_V (A := A) (A1 := (fun q9 => A q9 ∧ q9 ≠ nm)) (b := am) (As := [.int (bI false), .int (nI 1)]) (rest := []) ⟨hx, hb, hml, hown, hts⟩ (mX4_start (A := (fun q9 => A q9 ∧ q9 ≠ nm)) (X := X) (P := P) (k := k) (xa := xa) (b := false) (w9 := 1) (by decide)) (cwV 2 hts (gV tw_4_206 tw_4_208 sel_X4_start tw_1_8 tw_4_209) rfl rfl rfl (by decide +kernel) ⟨Nat.le_of_ble_eq_true rfl, Nat.le_of_ble_eq_true rfl⟩) hC hS (fun _ h => h.1) (fun q h => ⟨hA q (Nat.le_trans hS.1 h), by have := hN.lt; omega⟩) (hW.recv hK) ⟨ra, pa, tx, MWx_but hK hW hN hng⟩ rfl rfl hl.1 (Nat.le_of_ble_eq_true rfl) ⟨Nat.le_trans (show (2 + 5 * 2) ≤ 13 by omega) (Nat.le_of_ble_eq_true rfl), Nat.le_trans (show (5 + 5 * 62) ≤ 376 by omega) (Nat.le_of_ble_eq_true rfl)⟩ dX4_put_125 (fun rv41 H41 L41 hP41 hk41 hS => ?_)
      have hZ41 := hS.1
      obtain ⟨hr41, hM41⟩ := hP41
      subst hr41
      have hN := hN.kp hk41 (fun q => q.2 rfl)
      obtain ⟨ra, pa, tx, hW⟩ := hM41
      have hng : nm ≠ ra := Ne.symm hW.2.2.2.2.1.2
      have hW : MWx G A am xa ra pa tx X P k (nI 0) H41 := MWx_mono (fun _ h => h.1) hW
      have hO := hW.obj
      have hAm := hW.1
      refine f_ne (tgt := 170) hx hb dX4_put_128 (by decide) (fun c_42 => ?_) (fun c_42 => ?_)
      · exact absurd c_42 (by decide)
      · refine lv_aload_n hx hb dX4_put_131 rfl (lv_at hl 5 rfl) ?_
        refine lv_iload hx hb dX4_put_132 (lv_at hl 4 rfl) ?_
        refine lv_iconst (v := nI 2) hx hb dX4_put_134 (by decide) ?_
        cases b
        · refine qI_V (A := A) (A1 := (fun q9 => A q9 ∧ q9 ≠ nm)) (b := am) (As := [.int (bI false), .int (nI 2)]) (rest := []) ⟨hx, hb, hml, hown, hts⟩ (mX4_refuse (A := (fun q9 => A q9 ∧ q9 ≠ nm)) (X := X) (P := P) (k := k) (xa := xa) (b := false) (th := 0) (w9 := 2) (by decide) (by decide)) (cwV 2 hts (gV tw_4_210 tw_4_212 sel_X4_refuse tw_1_8 tw_4_213) rfl rfl rfl (by decide +kernel) ⟨Nat.le_of_ble_eq_true rfl, Nat.le_of_ble_eq_true rfl⟩) hC hS (fun _ h => h.1) (fun q h => ⟨hA q (Nat.le_trans hS.1 h), by have := hN.lt; omega⟩) (hW.recv hK) ⟨ra, pa, tx, MWx_but hK hW hN hng⟩ rfl rfl hl.1 (Nat.le_of_ble_eq_true rfl) ⟨Nat.le_trans (show (2 + 5 * 2) ≤ 13 by omega) (Nat.le_of_ble_eq_true rfl), Nat.le_trans (show (5 + 5 * 62) ≤ 376 by omega) (Nat.le_of_ble_eq_true rfl)⟩ dX4_put_135 (fun rv43 H43 L43 hP43 hk43 hS => ?_)
          have hZ43 := hS.1
          obtain ⟨hr43, hM43⟩ := hP43
          subst hr43
          have hN := hN.kp hk43 (fun q => q.2 rfl)
          obtain ⟨ra, pa, tx, hW⟩ := hM43
          have hng : nm ≠ ra := Ne.symm hW.2.2.2.2.1.2
          have hW : MWx G A am xa ra pa tx X P k (nI 0) H43 := MWx_mono (fun _ h => h.1) hW
          have hO := hW.obj
          have hAm := hW.1
          refine f_ne (tgt := 170) hx hb dX4_put_138 (by decide) (fun c_44 => ?_) (fun c_44 => ?_)
          · exact absurd c_44 (by decide)
          · have hco := hcu2.2 rfl
            refine lv_aload_n hx hb dX4_put_141 rfl (lv_at hl 5 rfl) ?_
            refine lv_aload_n hx hb dX4_put_142 rfl (lv_at hl 5 rfl) ?_
            refine va_get (D := G.1) (ci := 8) (C := RX4) (T := TX4) (N := 5) hx hb hts inX4 hown hK (at_P hO) 0 rfl rfl 1 (by decide) (hts _ tw_4_173) (fun _ h9 => h9) rfl dX4_put_143 ?_
            refine lv_iload_n hx hb dX4_put_146 rfl (lv_at hl 6 rfl) ?_
            refine h_aaldI (D := G.1) hx hb hK 4 hW.txs rfl (vp_in_nI (n := i) (N := 4) (by omega) (by omega)) dX4_put_147 ?_
            refine v_cv (show va_rf _ = .ref (tx i) from by rw [nI_clamp (n := i) (by omega)]; rfl) ?_
            have hTi := (hW.tx (j := i) (by omega)).ia hC.2.1.2
            have x60i := hW.2.2.1 i (Or.inl (by omega))
            have i60 := x60i.2
            have la := List.length_append (as := X i) (bs := w)
            have hN0 := hN.ia hC.2.1.2
            refine h_ilen hx hb hC.2.1 hTi dX4_put_148 ?_
            refine lv_aload hx hb dX4_put_149 (lv_at hl 3 rfl) ?_
            refine h_ilen hx hb hC.2.1 hN0 dX4_put_151 ?_
            refine lv_iadd hx hb dX4_put_152 ?_
            refine lv_cv (nI_add ((X i).length) w.length) ?_
            refine lv_bipush (v := nI 60) hx hb dX4_put_153 (by decide) ?_
            refine b_le (tgt := 162) hx hb dX4_put_155 (by decide) (by omega) (by omega) (fun c_45 => ?_) (fun c_45 => ?_)
            · refine lv_iconst (v := nI 0) hx hb dX4_put_162 (by decide) ?_
              refine lv_iconst (v := nI 3) hx hb dX4_put_163 (by decide) ?_
              refine qI_V (A := A) (A1 := (fun q9 => A q9 ∧ q9 ≠ nm)) (b := am) (As := [.int (bI false), .int (nI 3)]) (rest := []) ⟨hx, hb, hml, hown, hts⟩ (mX4_refuse (A := (fun q9 => A q9 ∧ q9 ≠ nm)) (X := X) (P := P) (k := k) (xa := xa) (b := false) (th := 0) (w9 := 3) (by decide) (by decide)) (cwV 2 hts (gV tw_4_210 tw_4_212 sel_X4_refuse tw_1_8 tw_4_213) rfl rfl rfl (by decide +kernel) ⟨Nat.le_of_ble_eq_true rfl, Nat.le_of_ble_eq_true rfl⟩) hC hS (fun _ h => h.1) (fun q h => ⟨hA q (Nat.le_trans hS.1 h), by have := hN.lt; omega⟩) (hW.recv hK) ⟨ra, pa, tx, MWx_but hK hW hN hng⟩ rfl rfl hl.1 (Nat.le_of_ble_eq_true rfl) ⟨Nat.le_trans (show (2 + 5 * 2) ≤ 13 by omega) (Nat.le_of_ble_eq_true rfl), Nat.le_trans (show (5 + 5 * 62) ≤ 376 by omega) (Nat.le_of_ble_eq_true rfl)⟩ dX4_put_164 (fun rv46 H46 L46 hP46 hk46 hS => ?_)
              have hZ46 := hS.1
              obtain ⟨hr46, hM46⟩ := hP46
              subst hr46
              have hN := hN.kp hk46 (fun q => q.2 rfl)
              obtain ⟨ra, pa, tx, hW⟩ := hM46
              have hng : nm ≠ ra := Ne.symm hW.2.2.2.2.1.2
              have hW : MWx G A am xa ra pa tx X P k (nI 0) H46 := MWx_mono (fun _ h => h.1) hW
              have hO := hW.obj
              have hAm := hW.1
              refine f_eq (tgt := 172) hx hb dX4_put_167 (by decide) (fun c_47 => ?_) (fun c_47 => ?_)
              · refine lv_aload_n hx hb dX4_put_172 rfl (lv_at hl 5 rfl) ?_
                refine lv_iload_n hx hb dX4_put_173 rfl (lv_at hl 6 rfl) ?_
                refine lv_aload_n hx hb dX4_put_174 rfl (lv_at hl 5 rfl) ?_
                refine va_get (D := G.1) (ci := 8) (C := RX4) (T := TX4) (N := 5) hx hb hts inX4 hown hK (at_P hO) 0 rfl rfl 1 (by decide) (hts _ tw_4_173) (fun _ h9 => h9) rfl dX4_put_175 ?_
                refine lv_iload_n hx hb dX4_put_178 rfl (lv_at hl 6 rfl) ?_
                refine h_aaldI (D := G.1) hx hb hK 4 hW.txs rfl (vp_in_nI (n := i) (N := 4) (by omega) (by omega)) dX4_put_179 ?_
                refine v_cv (show va_rf _ = .ref (tx i) from by rw [nI_clamp (n := i) (by omega)]; rfl) ?_
                have hTi := (hW.tx (j := i) (by omega)).ia hC.2.1.2
                have x60i := hW.2.2.1 i (Or.inl (by omega))
                refine lv_aload hx hb dX4_put_180 (lv_at hl 3 rfl) ?_
                have hra := hW.row.lt
                refine qR_S (A := A) (A1 := nw H46.size)  (As := [.ref (tx i), .ref nm]) (rest := .int (nI i) :: .ref am :: []) ⟨hx, hb, hml, hown, hts⟩ (mX4_joined (A := nw H46.size) (sz := H46.size) (t := X i) (u := w) (by omega)) (va_cwS 2 hts (gS tw_4_200 tw_4_201 tw_1_8 tw_4_202) rfl rfl rfl (by decide +kernel) ⟨Nat.le_of_ble_eq_true rfl, Nat.le_of_ble_eq_true rfl⟩) hC hS (nw_in hA hS.1) nw_n  ⟨rfl, hTi, (hN.ia hC.2.1.2)⟩ rfl rfl hl.1 (Nat.le_of_ble_eq_true rfl) ⟨Nat.le_trans (show (2 + 5 * 2) + 1 ≤ 13 by omega) (Nat.le_of_ble_eq_true rfl), Nat.le_trans (show (5 + 5 * 62) + 61 ≤ 376 by omega) (Nat.le_of_ble_eq_true rfl)⟩ dX4_put_182 (fun rv48 H48 L48 hP48 hk48 hS => ?_)
                have hZ48 := hS.1
                have hW := hW.nw hk48
                refine qI_V (A := A) (A1 := A) (b := am) (As := [.int (nI i), .ref rv48]) (rest := []) ⟨hx, hb, hml, hown, hts⟩ (mX4_become (A := A) (X := X) (P := P) (k := k) (xa := xa) (t := X i ++ w) hi ⟨okc_app x60i.1 wok, by omega⟩) (cwV 2 hts (gV tw_4_214 tw_4_216 sel_X4_become tw_1_8 tw_4_217) rfl rfl rfl (by decide +kernel) ⟨Nat.le_of_ble_eq_true rfl, Nat.le_of_ble_eq_true rfl⟩) hC hS (fun _ h => h) (fun q h => hA q (Nat.le_trans hS.1 h)) (hW.recv hK) ⟨ra, pa, tx, hW, hP48.2, (by have := hP48.1; omega)⟩ rfl rfl hl.1 (Nat.le_of_ble_eq_true rfl) ⟨Nat.le_trans (show ((2 + 5 * 2) + 1) ≤ 13 by omega) (Nat.le_of_ble_eq_true rfl), Nat.le_trans (show ((5 + 5 * 62) + 61) ≤ 376 by omega) (Nat.le_of_ble_eq_true rfl)⟩ dX4_put_185 (fun rv49 H49 L49 hP49 hk49 hS => ?_)
                have hZ49 := hS.1
                exact q_i hx hb hr hlocks dX4_put_188 hS (by omega) (by omega) (Or.inr (Or.inr (Or.inr (⟨i, w, hi, rfl, hco, by omega, hP49.1, hP49.2⟩))))
              · exact absurd c_47 (by decide)
            · refine lv_iconst (v := nI 1) hx hb dX4_put_158 (by decide) ?_
              refine lv_goto (tgt := 163) hx hb dX4_put_159 (by decide) ?_
              refine lv_iconst (v := nI 3) hx hb dX4_put_163 (by decide) ?_
              refine qI_V (A := A) (A1 := (fun q9 => A q9 ∧ q9 ≠ nm)) (b := am) (As := [.int (bI true), .int (nI 3)]) (rest := []) ⟨hx, hb, hml, hown, hts⟩ (mX4_refuse (A := (fun q9 => A q9 ∧ q9 ≠ nm)) (X := X) (P := P) (k := k) (xa := xa) (b := true) (th := 0) (w9 := 3) (by decide) (by decide)) (cwV 2 hts (gV tw_4_210 tw_4_212 sel_X4_refuse tw_1_8 tw_4_213) rfl rfl rfl (by decide +kernel) ⟨Nat.le_of_ble_eq_true rfl, Nat.le_of_ble_eq_true rfl⟩) hC hS (fun _ h => h.1) (fun q h => ⟨hA q (Nat.le_trans hS.1 h), by have := hN.lt; omega⟩) (hW.recv hK) ⟨ra, pa, tx, MWx_but hK hW hN hng⟩ rfl rfl hl.1 (Nat.le_of_ble_eq_true rfl) ⟨Nat.le_trans (show (2 + 5 * 2) ≤ 13 by omega) (Nat.le_of_ble_eq_true rfl), Nat.le_trans (show (5 + 5 * 62) ≤ 376 by omega) (Nat.le_of_ble_eq_true rfl)⟩ dX4_put_164 (fun rv50 H50 L50 hP50 hk50 hS => ?_)
              have hZ50 := hS.1
              obtain ⟨hr50, hM50⟩ := hP50
              subst hr50
              have hN := hN.kp hk50 (fun q => q.2 rfl)
              obtain ⟨ra, pa, tx, hW⟩ := hM50
              have hng : nm ≠ ra := Ne.symm hW.2.2.2.2.1.2
              have hW : MWx G A am xa ra pa tx X P k (nI 3) H50 := MWx_mono (fun _ h => h.1) hW
              have hO := hW.obj
              have hAm := hW.1
              refine f_eq (tgt := 172) hx hb dX4_put_167 (by decide) (fun c_51 => ?_) (fun c_51 => ?_)
              · exact absurd c_51 (by decide)
              · refine lv_iconst (v := nI 0) hx hb dX4_put_170 (by decide) ?_
                exact q_i hx hb hr hlocks dX4_put_171 hS (by omega) (by omega) (Or.inr (Or.inr (Or.inl ⟨⟨i, w, hi, rfl, hco, by omega⟩, rfl, ra, pa, tx, hW⟩)))
        · refine qI_V (A := A) (A1 := (fun q9 => A q9 ∧ q9 ≠ nm)) (b := am) (As := [.int (bI true), .int (nI 2)]) (rest := []) ⟨hx, hb, hml, hown, hts⟩ (mX4_refuse (A := (fun q9 => A q9 ∧ q9 ≠ nm)) (X := X) (P := P) (k := k) (xa := xa) (b := true) (th := 0) (w9 := 2) (by decide) (by decide)) (cwV 2 hts (gV tw_4_210 tw_4_212 sel_X4_refuse tw_1_8 tw_4_213) rfl rfl rfl (by decide +kernel) ⟨Nat.le_of_ble_eq_true rfl, Nat.le_of_ble_eq_true rfl⟩) hC hS (fun _ h => h.1) (fun q h => ⟨hA q (Nat.le_trans hS.1 h), by have := hN.lt; omega⟩) (hW.recv hK) ⟨ra, pa, tx, MWx_but hK hW hN hng⟩ rfl rfl hl.1 (Nat.le_of_ble_eq_true rfl) ⟨Nat.le_trans (show (2 + 5 * 2) ≤ 13 by omega) (Nat.le_of_ble_eq_true rfl), Nat.le_trans (show (5 + 5 * 62) ≤ 376 by omega) (Nat.le_of_ble_eq_true rfl)⟩ dX4_put_135 (fun rv52 H52 L52 hP52 hk52 hS => ?_)
          have hZ52 := hS.1
          obtain ⟨hr52, hM52⟩ := hP52
          subst hr52
          have hN := hN.kp hk52 (fun q => q.2 rfl)
          obtain ⟨ra, pa, tx, hW⟩ := hM52
          have hng : nm ≠ ra := Ne.symm hW.2.2.2.2.1.2
          have hW : MWx G A am xa ra pa tx X P k (nI 2) H52 := MWx_mono (fun _ h => h.1) hW
          have hO := hW.obj
          have hAm := hW.1
          refine f_ne (tgt := 170) hx hb dX4_put_138 (by decide) (fun c_53 => ?_) (fun c_53 => ?_)
          · refine lv_iconst (v := nI 0) hx hb dX4_put_170 (by decide) ?_
            exact q_i hx hb hr hlocks dX4_put_171 hS (by omega) (by omega) (Or.inr (Or.inl ⟨⟨⟨i, hi, rfl⟩, hcu2.1 rfl⟩, rfl, ra, pa, tx, hW⟩))
          · exact absurd c_53 (by decide)
    · refine qI_V (A := A) (A1 := (fun q9 => A q9 ∧ q9 ≠ nm)) (b := am) (As := [.int (bI true), .int (nI 1)]) (rest := []) ⟨hx, hb, hml, hown, hts⟩ (mX4_start (A := (fun q9 => A q9 ∧ q9 ≠ nm)) (X := X) (P := P) (k := k) (xa := xa) (b := true) (w9 := 1) (by decide)) (cwV 2 hts (gV tw_4_206 tw_4_208 sel_X4_start tw_1_8 tw_4_209) rfl rfl rfl (by decide +kernel) ⟨Nat.le_of_ble_eq_true rfl, Nat.le_of_ble_eq_true rfl⟩) hC hS (fun _ h => h.1) (fun q h => ⟨hA q (Nat.le_trans hS.1 h), by have := hN.lt; omega⟩) (hW.recv hK) ⟨ra, pa, tx, MWx_but hK hW hN hng⟩ rfl rfl hl.1 (Nat.le_of_ble_eq_true rfl) ⟨Nat.le_trans (show (2 + 5 * 2) ≤ 13 by omega) (Nat.le_of_ble_eq_true rfl), Nat.le_trans (show (5 + 5 * 62) ≤ 376 by omega) (Nat.le_of_ble_eq_true rfl)⟩ dX4_put_125 (fun rv54 H54 L54 hP54 hk54 hS => ?_)
      have hZ54 := hS.1
      obtain ⟨hr54, hM54⟩ := hP54
      subst hr54
      have hN := hN.kp hk54 (fun q => q.2 rfl)
      obtain ⟨ra, pa, tx, hW⟩ := hM54
      have hng : nm ≠ ra := Ne.symm hW.2.2.2.2.1.2
      have hW : MWx G A am xa ra pa tx X P k (nI 1) H54 := MWx_mono (fun _ h => h.1) hW
      have hO := hW.obj
      have hAm := hW.1
      refine f_ne (tgt := 170) hx hb dX4_put_128 (by decide) (fun c_55 => ?_) (fun c_55 => ?_)
      · refine lv_iconst (v := nI 0) hx hb dX4_put_170 (by decide) ?_
        exact q_i hx hb hr hlocks dX4_put_171 hS (by omega) (by omega) (Or.inl ⟨(hr_40v.mp rfl), rfl, ra, pa, tx, hW⟩)
      · exact absurd c_55 (by decide)
  · refine lv_aload hx hb dX4_put_55 (lv_at hl 2 rfl) ?_
    refine lv_iload hx hb dX4_put_57 (lv_at hl 0 rfl) ?_
    refine va_iald hx hb hK (at_P hFsg) 0 0 rfl rfl (vp_in_nI (n := q) (N := 5) (by omega) (by omega)) dX4_put_59 ?_
    refine lv_cv (show _ = fS q from by rw [nI_clamp (by omega)]) ?_
    obtain ⟨x9, hx9⟩ : ∃ x9, x9 = fS q := ⟨_, rfl⟩
    refine lv_cv hx9.symm ?_
    rw [hav q (by omega)] at hx9
    refine lv_istore (lv' := [(13, .int x9), (12, .int (nI q)), (11, .int (nI 5)), (10, .ref sg), (9, .ref nm), (8, .int (bI b)), (0, .ref am), (1, .int x)]) hx hb dX4_put_60 hl (by decide) rfl (fun ls hl => ?_)
    refine lv_iload hx hb dX4_put_62 (lv_at hl 5 rfl) ?_
    refine lv_iload hx hb dX4_put_64 (lv_at hl 0 rfl) ?_
    refine lv_iconst (v := (-1)) hx hb dX4_put_66 (by decide) ?_
    refine lv_icmp_eq (tgt := 82) hx hb dX4_put_67 (by decide) (fun c_56 => ?_) (fun c_56 => ?_)
    · refine lv_iconst (v := nI 0) hx hb dX4_put_82 (by decide) ?_
      refine lv_ior hx hb dX4_put_83 ?_
      refine lv_cv (show _ = bI b from by cases b <;> decide) ?_
      refine lv_istore (lv' := [(8, .int (bI b)), (13, .int x9), (12, .int (nI q)), (11, .int (nI 5)), (10, .ref sg), (9, .ref nm), (0, .ref am), (1, .int x)]) hx hb dX4_put_84 hl (by decide) rfl (fun ls hl => ?_)
      refine lv_iload hx hb dX4_put_86 (lv_at hl 1 rfl) ?_
      refine kS_i (A := A) (As := [.int x9]) (rest := []) ⟨hx, hb, hml, hown, hts⟩ (mX4_isNoSign (A := A) ) (va_cwS 1 hts (gS tw_4_192 tw_4_193 tw_1_8 tw_4_194) rfl rfl rfl (by decide +kernel) ⟨Nat.le_of_ble_eq_true rfl, Nat.le_of_ble_eq_true rfl⟩) hC hS hA  trivial rfl rfl hl.1 (Nat.le_of_ble_eq_true rfl) ⟨Nat.le_trans (show (2 + q * 2) ≤ 13 by omega) (Nat.le_of_ble_eq_true rfl), Nat.le_trans (show (5 + q * 62) ≤ 376 by omega) (Nat.le_of_ble_eq_true rfl)⟩ dX4_put_88 (fun r_57 hr_57 => ?_)
      obtain ⟨r_57v, hr_57v, rfl⟩ := hr_57
      refine f_ne (tgt := 113) hx hb dX4_put_91 (by decide) (fun c_58 => ?_) (fun c_58 => ?_)
      · refine lv_iinc (v := nI (q + 1)) (lv' := [(12, .int (nI (q + 1))), (8, .int (bI b)), (13, .int x9), (11, .int (nI 5)), (10, .ref sg), (9, .ref nm), (0, .ref am), (1, .int x)]) hx hb dX4_put_113 hl (k := 2) rfl (nI_add q 1) (by decide) rfl (fun ls hl => ?_)
        refine lv_goto (tgt := 48) hx hb dX4_put_116 (by decide) ?_
        refine W.widen (k := 2 + (q + 1) * 2) (n := 5 + (q + 1) * 62) (by omega) (by omega) ?_
        exact ih (q + 1) (by omega) (by omega) ls H L nm b w (lv_sub hl [0, 3, 4, 5, 1, 6, 7] rfl) hS hW hFsg hN hgr hgs ⟨b, _, hcu, by rw [← hx9]; exact ⟨Or.inl ⟨(hr_57v.mp c_58), rfl⟩, ⟨fun q => Or.inl q, fun q => q.elim id (fun z => absurd c_56 z.1)⟩⟩⟩
      · exact absurd (hr_57v.mpr (by rw [c_56]; exact NSm1)) (by rw [c_58]; decide)
    · refine lv_iload hx hb dX4_put_70 (lv_at hl 0 rfl) ?_
      refine kS_i (A := A) (As := [.int x9]) (rest := .int (bI b) :: []) ⟨hx, hb, hml, hown, hts⟩ (mX4_isNoSign (A := A) ) (va_cwS 1 hts (gS tw_4_192 tw_4_193 tw_1_8 tw_4_194) rfl rfl rfl (by decide +kernel) ⟨Nat.le_of_ble_eq_true rfl, Nat.le_of_ble_eq_true rfl⟩) hC hS hA  trivial rfl rfl hl.1 (Nat.le_of_ble_eq_true rfl) ⟨Nat.le_trans (show (2 + q * 2) ≤ 13 by omega) (Nat.le_of_ble_eq_true rfl), Nat.le_trans (show (5 + q * 62) ≤ 376 by omega) (Nat.le_of_ble_eq_true rfl)⟩ dX4_put_72 (fun r_59 hr_59 => ?_)
      obtain ⟨r_59v, hr_59v, rfl⟩ := hr_59
      refine f_eq (tgt := 82) hx hb dX4_put_75 (by decide) (fun c_60 => ?_) (fun c_60 => ?_)
      · refine lv_iconst (v := nI 0) hx hb dX4_put_82 (by decide) ?_
        refine lv_ior hx hb dX4_put_83 ?_
        refine lv_cv (show _ = bI b from by cases b <;> decide) ?_
        refine lv_istore (lv' := [(8, .int (bI b)), (13, .int x9), (12, .int (nI q)), (11, .int (nI 5)), (10, .ref sg), (9, .ref nm), (0, .ref am), (1, .int x)]) hx hb dX4_put_84 hl (by decide) rfl (fun ls hl => ?_)
        refine lv_iload hx hb dX4_put_86 (lv_at hl 1 rfl) ?_
        refine kS_i (A := A) (As := [.int x9]) (rest := []) ⟨hx, hb, hml, hown, hts⟩ (mX4_isNoSign (A := A) ) (va_cwS 1 hts (gS tw_4_192 tw_4_193 tw_1_8 tw_4_194) rfl rfl rfl (by decide +kernel) ⟨Nat.le_of_ble_eq_true rfl, Nat.le_of_ble_eq_true rfl⟩) hC hS hA  trivial rfl rfl hl.1 (Nat.le_of_ble_eq_true rfl) ⟨Nat.le_trans (show (2 + q * 2) ≤ 13 by omega) (Nat.le_of_ble_eq_true rfl), Nat.le_trans (show (5 + q * 62) ≤ 376 by omega) (Nat.le_of_ble_eq_true rfl)⟩ dX4_put_88 (fun r_61 hr_61 => ?_)
        obtain ⟨r_61v, hr_61v, rfl⟩ := hr_61
        refine f_ne (tgt := 113) hx hb dX4_put_91 (by decide) (fun c_62 => ?_) (fun c_62 => ?_)
        · exact absurd (hr_59v.mpr (hr_61v.mp c_62)) (by rw [c_60]; decide)
        · obtain ⟨i9, hi9, rfl⟩ : ∃ i9 : Nat, i9 < 24 ∧ x9 = nI i9 := Classical.byContradiction (fun q => absurd (hr_61v.mpr q) (by rw [c_62]; decide))
          refine lv_aload hx hb dX4_put_94 (lv_at hl 5 rfl) ?_
          refine lv_iconst (v := nI 1) hx hb dX4_put_96 (by decide) ?_
          have hW0 := hW
          refine h_newa (D := G.1) (atype := .int) (N := 1) (z := (1, .inl (fun _ => 0))) hx hb (hts _ tw_1_70) rfl (fun h => h) hK 0 rfl hS rfl (nI_pos (by omega)) (nI_clamp (by omega)) (show 1 * _ ≤ _ from by show 1 * 4 ≤ 536870912; omega) (Nat.le_trans (show (2 + q * 2) + 1 ≤ 13 by omega) (Nat.le_of_ble_eq_true rfl)) (Nat.le_trans (show (5 + q * 62) + 1 ≤ 376 by omega) (Nat.le_of_ble_eq_true rfl)) dX4_put_97 (fun na H63 hna hFna z63 o63 hS => ?_)
          have hZ63 := hS.1
          have hMna : A na := hA na (by omega)
          refine lv_dup hx hb dX4_put_99 rfl ?_
          refine lv_iconst (v := nI 0) hx hb dX4_put_100 (by decide) ?_
          refine va_gets (v := .ref (G.2.2 1)) hx hb zc3 hS hown (hts _ tw_4_195) (fun _ h9 => h9) dX4_put_101 ?_
          refine lv_iload hx hb dX4_put_104 (lv_at hl 1 rfl) ?_
          refine va_ti (v := .int (nI (codeT.getD i9 0))) hx hb zc4 hS (vp_in_nI (n := i9) (N := 24) (by omega) (by omega)) (by rw [nI_clamp (n := i9) (by omega)]) dX4_put_106 ?_
          refine h_ist (D := G.1) hx hb hK 0 hFna rfl hS hMna (vp_in_nI (n := 0) (N := 1) (by omega) (by omega)) dX4_put_107 (fun H64 L64 hFna z64 o64 hS => ?_)
          rw [nI_clamp (n := 0) (by omega)] at hFna
          have hZ64 := hS.1
          have hk9 : kp (nw H.size) H H64 := kp_new1 hna z63 o63 z64 o64
          have hN1 : IA0 G na [codeT.getD i9 0] H64 := IA0.mk hFna rfl (fun q hq => by obtain rfl : q = 0 := (by omega); exact pk_us)
          have hW := hW0.nw hk9
          have hFsg := at_kp hFsg hk9 (Nat.not_le_of_lt hFsg.lt)
          have hN := hN.kp hk9 (Nat.not_le_of_lt hN.lt)
          have hra := hW.row.lt
          refine qR_S (A := A) (A1 := nw H64.size)  (As := [.ref nm, .ref na]) (rest := []) ⟨hx, hb, hml, hown, hts⟩ (mX4_joined (A := nw H64.size) (sz := H64.size) (t := w) (u := [codeT.getD i9 0]) (by show _ + 1 ≤ 61; omega)) (va_cwS 2 hts (gS tw_4_200 tw_4_201 tw_1_8 tw_4_202) rfl rfl rfl (by decide +kernel) ⟨Nat.le_of_ble_eq_true rfl, Nat.le_of_ble_eq_true rfl⟩) hC hS (nw_in hA hS.1) nw_n  ⟨rfl, (hN.ia hC.2.1.2), (hN1.ia hC.2.1.2)⟩ rfl rfl hl.1 (Nat.le_of_ble_eq_true rfl) ⟨Nat.le_trans (show ((2 + q * 2) + 1) + 1 ≤ 13 by omega) (Nat.le_of_ble_eq_true rfl), Nat.le_trans (show ((5 + q * 62) + 1) + 61 ≤ 376 by omega) (Nat.le_of_ble_eq_true rfl)⟩ dX4_put_108 (fun rv65 H65 L65 hP65 hk65 hS => ?_)
          have hZ65 := hS.1
          have hW := hW.nw hk65
          have hFsg := at_kp hFsg hk65 (Nat.not_le_of_lt hFsg.lt)
          refine lv_astore (lv' := [(9, .ref rv65), (8, .int (bI b)), (13, .int (nI i9)), (12, .int (nI q)), (11, .int (nI 5)), (10, .ref sg), (0, .ref am), (1, .int x)]) hx hb dX4_put_111 hl (by decide) rfl (fun ls hl => ?_)
          refine lv_iinc (v := nI (q + 1)) (lv' := [(12, .int (nI (q + 1))), (9, .ref rv65), (8, .int (bI b)), (13, .int (nI i9)), (11, .int (nI 5)), (10, .ref sg), (0, .ref am), (1, .int x)]) hx hb dX4_put_113 hl (k := 3) rfl (nI_add q 1) (by decide) rfl (fun ls hl => ?_)
          refine lv_goto (tgt := 48) hx hb dX4_put_116 (by decide) ?_
          refine W.widen (k := 2 + (q + 1) * 2) (n := 5 + (q + 1) * 62) (by omega) (by omega) ?_
          exact ih (q + 1) (by omega) (by omega) ls H65 L65 rv65 b (w ++ [codeT.getD i9 0]) (lv_sub hl [0, 4, 5, 1, 2, 6, 7] rfl) hS hW hFsg hP65.2 (by have := hP65.1; omega) (by have := hP65.1; omega) ⟨b, _, hcu, by rw [← hx9]; exact ⟨Or.inr ⟨i9, hi9, rfl, rfl⟩, ⟨fun q => Or.inl q, fun q => q.elim id (fun z => absurd ⟨i9, hi9, rfl⟩ z.2)⟩⟩⟩
      · refine lv_iconst (v := nI 1) hx hb dX4_put_78 (by decide) ?_
        refine lv_goto (tgt := 83) hx hb dX4_put_79 (by decide) ?_
        refine lv_ior hx hb dX4_put_83 ?_
        refine lv_cv (show _ = bI true from by cases b <;> decide) ?_
        refine lv_istore (lv' := [(8, .int (bI true)), (13, .int x9), (12, .int (nI q)), (11, .int (nI 5)), (10, .ref sg), (9, .ref nm), (0, .ref am), (1, .int x)]) hx hb dX4_put_84 hl (by decide) rfl (fun ls hl => ?_)
        refine lv_iload hx hb dX4_put_86 (lv_at hl 1 rfl) ?_
        refine kS_i (A := A) (As := [.int x9]) (rest := []) ⟨hx, hb, hml, hown, hts⟩ (mX4_isNoSign (A := A) ) (va_cwS 1 hts (gS tw_4_192 tw_4_193 tw_1_8 tw_4_194) rfl rfl rfl (by decide +kernel) ⟨Nat.le_of_ble_eq_true rfl, Nat.le_of_ble_eq_true rfl⟩) hC hS hA  trivial rfl rfl hl.1 (Nat.le_of_ble_eq_true rfl) ⟨Nat.le_trans (show (2 + q * 2) ≤ 13 by omega) (Nat.le_of_ble_eq_true rfl), Nat.le_trans (show (5 + q * 62) ≤ 376 by omega) (Nat.le_of_ble_eq_true rfl)⟩ dX4_put_88 (fun r_66 hr_66 => ?_)
        obtain ⟨r_66v, hr_66v, rfl⟩ := hr_66
        refine f_ne (tgt := 113) hx hb dX4_put_91 (by decide) (fun c_67 => ?_) (fun c_67 => ?_)
        · refine lv_iinc (v := nI (q + 1)) (lv' := [(12, .int (nI (q + 1))), (8, .int (bI true)), (13, .int x9), (11, .int (nI 5)), (10, .ref sg), (9, .ref nm), (0, .ref am), (1, .int x)]) hx hb dX4_put_113 hl (k := 2) rfl (nI_add q 1) (by decide) rfl (fun ls hl => ?_)
          refine lv_goto (tgt := 48) hx hb dX4_put_116 (by decide) ?_
          refine W.widen (k := 2 + (q + 1) * 2) (n := 5 + (q + 1) * 62) (by omega) (by omega) ?_
          exact ih (q + 1) (by omega) (by omega) ls H L nm true w (lv_sub hl [0, 3, 4, 5, 1, 6, 7] rfl) hS hW hFsg hN hgr hgs ⟨b, _, hcu, by rw [← hx9]; exact ⟨Or.inl ⟨(hr_66v.mp c_67), rfl⟩, ⟨fun _ => Or.inr ⟨c_56, (hr_66v.mp c_67)⟩, fun _ => rfl⟩⟩⟩
        · exact absurd (hr_66v.mpr (hr_59v.mp c_60)) (by rw [c_67]; decide)
