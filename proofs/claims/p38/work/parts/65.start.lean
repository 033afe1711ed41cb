/-! THE LAW, 3: the start: classes, statics and constants as the Statement gives them -/
theorem tb_at {w : Cond} {L : List Cond} (hL : ∀ x ∈ L, x ∈ lw_tbl) (k : Nat) (h : L[k]? = some w) : w ∈ lw_tbl := hL w (List.mem_of_getElem? h)
def NF : List Cond := flatC (Jvm.Cond.and given_1 narrow_1)
section START
variable {s : State} {args : Array Value}
theorem selP {C : String} {y z : MethodName} (hy : y.cls ≠ "java/lang/invoke/MethodHandle" ∧ y.cls ≠ "java/lang/invoke/VarHandle") (hyz : y.cls = z.cls) (hs : (Cond.selects C z z).before args s = true) (hz : (Cond.instanceMethod z).before args s = true) (hpriv : (Cond.privateMethod y).before args s = true) (hinst : (Cond.instanceMethod y).before args s = true) : (Cond.selects C y y).before args s = true := by
  obtain ⟨mk, methM, hnamed, hmethM, -, -⟩ := Cond.instanceMethod_spec hinst
  obtain ⟨mz, methZ, hnz, hmz, -, -⟩ := Cond.instanceMethod_spec hz
  have hfound := State.methodFound?_of_named hnamed hy
  have hcls : mk.cls = mz.cls := by
    have a := findClass_of_methodNamed hnamed
    have b := findClass_of_methodNamed hnz
    rw [hyz] at a
    exact Option.some.inj (a.symm.trans b)
  simp only [Cond.before, Cond.holds, Cond.value] at hs ⊢
  cases hc : s.vm.findClass C with
  | none => simp [hc] at hs
  | some c =>
    have hsel : selectMethod {} s.vm c mk = .method mk := selectMethod_private hmethM (Cond.privateMethod_at hpriv mk methM hnamed hmethM)
    cases hf : s.methodFound? z.cls z.name z.desc with
    | none => simp [hc, hf] at hs
    | some r =>
      simp only [hc, hf, hnz] at hs
      simp only [hfound, hnamed, hsel, hcls]
      cases hr : selectMethod {} s.vm c r <;> simp [hr] at hs ⊢
      exact hs.2
theorem gw_start {b : Nat} (hts : ∀ w ∈ lw_tbl, w.before #[Value.ref b] s = true) : ∀ w ∈ GW, w.before #[Value.ref b] s = true := by
  intro w hw
  rcases List.mem_append.mp (gw_in hw) with h | h
  · exact hts w h
  · rcases List.mem_cons.mp h with rfl | h
    · exact selP (z := yJ5_isLatin1_aae02) ⟨by decide +kernel, by decide +kernel⟩ rfl (hts _ (tb_at tin_6 12 rfl)) (hts _ (tb_at tin_6 10 rfl)) (hts _ (tb_at tin_5 230 rfl)) (hts _ (tb_at tin_5 231 rfl))
    · rcases List.mem_cons.mp h with rfl | h
      · exact selP (z := yJ5_isLatin1_aae02) ⟨by decide +kernel, by decide +kernel⟩ rfl (hts _ (tb_at tin_6 12 rfl)) (hts _ (tb_at tin_6 10 rfl)) (hts _ (tb_at tin_5 234 rfl)) (hts _ (tb_at tin_5 235 rfl))
      · cases h
theorem arr_start {ty : FieldType} (h : (Cond.arrayClass ty).before args s = true) : ∃ cA, ArrOfT s cA ty ∧ s.vm.findClass ("[" ++ ty.toString) = some cA ∧ ∃ (k : Class) (comp : ClassId), s.vm.classes[cA]? = some k ∧ k.kind = .array comp ty := by
  obtain ⟨c, k, comp, h1, h2, h3⟩ := Cond.arrayClass_spec (args := args) (first := s) (o := none) (idx := []) h
  exact ⟨c, fun N z => ⟨(fun q hq => by cases hq), k, h2, comp, h3⟩, h1, k, comp, h2, h3⟩
theorem arrO_start {C : String} (h : (Cond.arrayOver (.object C)).before args s = true) : ∃ cA, ArrOfT s cA (.object C) ∧ va_RA s cA (.object C) := by
  obtain ⟨comp, c, k, h1, h2, h3, h4, h5⟩ := Cond.arrayOver_spec (args := args) (first := s) (o := none) (idx := []) h
  exact ⟨c, fun N z => ⟨(fun q hq => by cases hq), k, h3, comp, h4⟩, k, comp, h3, h4, h1, h5⟩
theorem arrA_start {t : FieldType} (h : (Cond.arrayOver (.array t)).before args s = true) : ∃ cA, ArrOfT s cA (.array t) ∧ va_RA s cA (.array t) := by
  obtain ⟨comp, c, k, h1, h2, h3, h4, h5⟩ := arrayOver_specB (args := args) (first := s) (o := none) (idx := []) h
  exact ⟨c, fun N z => ⟨(fun q hq => by cases hq), k, h3, comp, h4⟩, h5⟩
theorem K_start (hG : ∀ w ∈ GW, w.before args s = true) : ∃ D : va_G, ∀ (k : Nat) (q : vw_C), vwCl[k]? = some q → u_Kn s q.1 q.2.1 q.2.2 (D.1 k) (D.2 k) := by
  obtain ⟨c0, i0, h0⟩ := u_known (C := RJ0) (T := TJ0) (N := 4) (n := 4) hG inJ0 (hG _ tw_1_176)
  obtain ⟨c1, i1, h1⟩ := u_known (C := RJ4) (T := TJ4) (N := 4) (n := 4) hG inJ4 (hG _ tw_5_195)
  obtain ⟨c2, i2, h2⟩ := u_known (C := RJx35411) (T := TJx35411) (N := 4) (n := 4) hG inJx35411 (hG _ tw_7_40)
  obtain ⟨c3, i3, h3⟩ := u_known (C := RJx4a65c) (T := TJx4a65c) (N := 3) (n := 3) hG inJx4a65c (hG _ tw_4_144)
  obtain ⟨c4, i4, h4⟩ := u_known (C := RX0) (T := TX0) (N := 2) (n := 2) hG inX0 (hG _ tw_1_39)
  obtain ⟨c5, i5, h5⟩ := u_known (C := RX1) (T := TX1) (N := 3) (n := 3) hG inX1 (hG _ tw_1_53)
  obtain ⟨c6, i6, h6⟩ := u_known (C := RX2) (T := TX2) (N := 8) (n := 8) hG inX2 (hG _ tw_1_30)
  obtain ⟨c7, i7, h7⟩ := u_known (C := RX3) (T := TX3) (N := 2) (n := 2) hG inX3 (hG _ tw_2_222)
  obtain ⟨c8, i8, h8⟩ := u_known (C := RX4) (T := TX4) (N := 5) (n := 5) hG inX4 (hG _ tw_4_136)
  refine ⟨(fun k => ([c0, c1, c2, c3, c4, c5, c6, c7, c8] : List ClassId).getD k c0, fun k => ([i0, i1, i2, i3, i4, i5, i6, i7, i8] : List (Nat → Nat)).getD k i0), ?_⟩
  intro k q hq
  match k, hq with
  | 0, hq => cases hq; exact h0
  | 1, hq => cases hq; exact h1
  | 2, hq => cases hq; exact h2
  | 3, hq => cases hq; exact h3
  | 4, hq => cases hq; exact h4
  | 5, hq => cases hq; exact h5
  | 6, hq => cases hq; exact h6
  | 7, hq => cases hq; exact h7
  | 8, hq => cases hq; exact h8
  | k + 9, hq => exact absurd hq (by simp [vwCl])
/-- a row of ints, of whatever class of such rows -/
theorem IA_of {tm : Term} {t : List Nat} (hN : t.length < 2 ^ 31) (harr : (Cond.arrayOf tm .int).before args s = true) (hlen : (Cond.eq (.length tm) (.int (Int32.ofNat t.length))).before args s = true) (hel : ∀ j : Nat, j < t.length → (Cond.eq (.elem tm (.int (Int32.ofNat j))) (.int (nI (t.getD j 0)))).before args s = true) :
    ∃ (a : Nat) (cA : ClassId), tm.eval args s none [] s = some (.ref a) ∧ a < s.heap.size ∧ (∃ (k : Class) (comp : ClassId), s.vm.classes[cA]? = some k ∧ k.kind = .array comp .int) ∧ ∀ (G : Cx) (i : Nat), G.2.1 (6 + i) = cA → IA G a t s.heap := by
  obtain ⟨a, e1, cell, h1, ⟨h2, k, hk, comp, hkd⟩, h3, h4, h5, h6, h7⟩ := va_Tof (f := fun j => .int (nI (t.getD j 0))) (A := fun q => s.heap.size ≤ q) hN harr (va_eqt hlen) (fun j hj => va_eqt (hel j hj)) (fun a h => Nat.not_le_of_lt h)
  exact ⟨a, cell.cls, e1, (Array.getElem?_eq_some_iff.mp h1).1, ⟨k, comp, hk, hkd⟩, fun G i hi => ⟨cell, i, h1, hi.symm, h3, h2, ⟨h4, h5⟩, h6⟩⟩
def kT : Term := .static "SigntextModel" "KNOWN" "[[I"
theorem nf_c0 : ∀ j : Nat, j < 24 → Cond.eq (.elem (.static "Signtext" "CODES" "[I") (.int (Int32.ofNat j))) (.int (nI (codeT.getD j 0))) ∈ NF := by decide +kernel
theorem nf_c1 : ∀ j : Nat, j < 24 → Cond.eq (.elem (.static "SigntextModel" "CODES" "[I") (.int (Int32.ofNat j))) (.int (nI (codeT.getD j 0))) ∈ NF := by decide +kernel
theorem nf_k0 : ∀ j : Nat, j < 7 → Cond.arrayOf (.elem kT (.int (Int32.ofNat j))) .int ∈ NF := by decide +kernel
theorem nf_k1 : ∀ j : Nat, j < 7 → Cond.eq (.length (.elem kT (.int (Int32.ofNat j)))) (.int (Int32.ofNat (knT j).length)) ∈ NF := by decide +kernel
theorem nf_k2 : ∀ j : Nat, j < 7 → ∀ i : Nat, i < (knT j).length → Cond.eq (.elem (.elem kT (.int (Int32.ofNat j))) (.int (Int32.ofNat i))) (.int (nI ((knT j).getD i 0))) ∈ NF := by decide +kernel
theorem kn_start (hq : ∀ w ∈ NF, w.before args s = true) (j : Nat) (hj : j < 7) : ∃ (a : Nat) (cA : ClassId), (Term.elem kT (.int (Int32.ofNat j))).eval args s none [] s = some (.ref a) ∧ a < s.heap.size ∧ (∃ (k : Class) (comp : ClassId), s.vm.classes[cA]? = some k ∧ k.kind = .array comp .int) ∧ ∀ (G : Cx) (i : Nat), G.2.1 (6 + i) = cA → IA G a (knT j) s.heap :=
  IA_of (by have : ∀ j : Nat, j < 7 → (knT j).length < 2 ^ 31 := by decide
            exact this j hj) (hq _ (nf_k0 j hj)) (hq _ (nf_k1 j hj)) (fun i hi => hq _ (nf_k2 j hj i hi))
def tS : Nat → Term
  | 0 => .string "Signtext" 243
  | 1 => .string "Signtext" 245
  | 2 => .string "Signtext" 247
  | 3 => .string "Signtext" 249
  | 4 => .string "Signtext" 251
  | 5 => .string "Signtext" 253
  | 6 => .string "SigntextModel" 150
  | 7 => .string "Signtext" 111
  | _ => .string "Signtext" 113
theorem nf_s0 : ∀ i : Nat, i < 9 → Cond.exactly (tS i) "java/lang/String" ∈ NF := by decide +kernel
theorem nf_s1 : ∀ i : Nat, i < 9 → Cond.eq (.field (tS i) "java/lang/String" "coder" "B") (.int 0) ∈ NF := by decide +kernel
theorem nf_s2 : ∀ i : Nat, i < 9 → Cond.arrayOf (.field (tS i) "java/lang/String" "value" "[B") .byte ∈ NF := by decide +kernel
theorem nf_s3 : ∀ i : Nat, i < 9 → Cond.eq (.length (.field (tS i) "java/lang/String" "value" "[B")) (.int (Int32.ofNat (stx i).length)) ∈ NF := by decide +kernel
theorem nf_s4 : ∀ i : Nat, i < 9 → ∀ j : Nat, j < (stx i).length → Cond.eq (.elem (.field (tS i) "java/lang/String" "value" "[B") (.int (Int32.ofNat j))) (.int (nI ((stx i).getD j 0))) ∈ NF := by decide +kernel
theorem st_start {A : Nat → Prop} (hq : ∀ w ∈ NF, w.before args s = true) (hA : ∀ a : Nat, a < s.heap.size → ¬ A a) (i : Nat) (hi : i < 9) : ∃ a v : Nat, (tS i).eval args s none [] s = some (.ref a) ∧ va_O "java/lang/String" a A s s.heap ∧ va_OF "java/lang/String" "coder" "B" (.int 0) a A s s.heap ∧ va_OF "java/lang/String" "value" "[B" (.ref v) a A s s.heap ∧ va_T .byte v (stx i).length (fun j => .int (nI ((stx i).getD j 0))) A s s.heap := by
  have hN : (stx i).length < 2 ^ 31 := by
    have : ∀ i : Nat, i < 9 → (stx i).length < 2 ^ 31 := by decide
    exact this i hi
  obtain ⟨a, c, cA, kA, q1, -⟩ := Cond.exactly_spec (args := args) (first := s) (o := none) (s := s) (idx := []) (t := tS i) (cls := "java/lang/String") (hq _ (nf_s0 i hi))
  obtain ⟨v, ev, hT⟩ := va_Tof (f := fun j => .int (nI ((stx i).getD j 0))) (A := A) hN (hq _ (nf_s2 i hi)) (va_eqt (hq _ (nf_s3 i hi))) (fun j hj => va_eqt (hq _ (nf_s4 i hi j hj))) hA
  exact ⟨a, v, q1, va_Oof (hq _ (nf_s0 i hi)) q1 hA, vk_OFof q1 (va_eqt (hq _ (nf_s1 i hi))) hA, vk_OFof q1 ev hA, hT⟩
theorem xw_start {b : Nat} (hts : ∀ w ∈ lw_tbl, w.before #[Value.ref b] s = true) (hq : ∀ w ∈ NF, w.before #[Value.ref b] s = true) : xWs s := by
  refine ⟨fun w hw => ?_, fun q h => ?_⟩
  · obtain ⟨h1, h2⟩ := List.mem_filter.mp hw
    exact x_moved h2 (Vm.Alike.refl _) (hts w h1)
  · have hm : ∀ q ∈ xN, Cond.not (.castable q.1 q.2) ∈ NF := by decide +kernel
    exact va_Nc.of (hq _ (hm q h))
theorem wn_start {b : Nat} (hts : ∀ w ∈ lw_tbl, w.before #[Value.ref b] s = true) (hq : ∀ w ∈ NF, w.before #[Value.ref b] s = true) : ∃ mi : Nat, ∀ G : Cx, G.2.2 11 = mi → wN G s := by
  obtain ⟨mi, hmi⟩ := va_Mi.of (C := "[Ljava/lang/Object;") (hq _ (by decide +kernel))
  refine ⟨mi, fun G hG => ⟨(va_Nw.of rfl (hts _ (tb_at tin_1 40 rfl))), (va_Nw.of rfl (hts _ (tb_at tin_1 54 rfl))), (va_Nw.of rfl (hts _ (tb_at tin_1 59 rfl))), va_AO.of (hts _ (tb_at tin_1 38 rfl)), va_AO.of (hts _ (tb_at tin_5 138 rfl)), (hts _ (tb_at tin_4 142 rfl)), xw_start hts hq, (va_Nw.of rfl (hts _ (tb_at tin_4 159 rfl))), (va_Nw.of rfl (hts _ (tb_at tin_2 227 rfl))), (va_Nw.of rfl (hts _ (tb_at tin_2 228 rfl))), (va_Nw.of rfl (hts _ (tb_at tin_2 223 rfl))), by rw [hG]; exact hmi, (va_Fw.of (hts _ (tb_at tin_7 65 rfl)) (hts _ (tb_at tin_7 64 rfl)) (hts _ (tb_at tin_7 70 rfl)) (hts _ (tb_at tin_7 68 rfl)) (hts _ (tb_at tin_7 66 rfl))), (va_Fw.of (hts _ (tb_at tin_7 75 rfl)) (hts _ (tb_at tin_7 74 rfl)) (hts _ (tb_at tin_7 79 rfl)) (hts _ (tb_at tin_7 77 rfl)) (hts _ (tb_at tin_7 66 rfl)))⟩⟩
theorem cx_start {b : Nat} (hts : ∀ w ∈ lw_tbl, w.before #[Value.ref b] s = true) (hq : ∀ w ∈ NF, w.before #[Value.ref b] s = true) : ∃ G : Cx, cx G (fun q => s.heap.size ≤ q) s := by
  have hG := gw_start hts
  have hA : ∀ a : Nat, a < s.heap.size → ¬ (fun q => s.heap.size ≤ q) a := fun a h => Nat.not_le_of_lt h
  obtain ⟨D, hD⟩ := K_start hG
  obtain ⟨cI, aI, fI, kI, mI, kI1, kI2⟩ := arr_start (hG _ tw_1_70)
  obtain ⟨cC, aC, fC, -⟩ := arr_start (hG _ tw_1_51)
  obtain ⟨cB, aB, fB, -⟩ := arr_start (hG _ tw_1_162)
  obtain ⟨cL, aL, rL⟩ := arrO_start (hts _ (tb_at tin_1 38 rfl))
  obtain ⟨cM, aM, rM⟩ := arrA_start (hts _ (tb_at tin_4 142 rfl))
  obtain ⟨cO, aO, rO⟩ := arrO_start (hts _ (tb_at tin_5 138 rfl))
  obtain ⟨mi, hwn⟩ := wn_start hts hq
  have hkn0 : ∀ j : Nat, ∃ (q : Nat × ClassId), (∃ (k : Class) (comp : ClassId), s.vm.classes[q.2]? = some k ∧ k.kind = .array comp .int) ∧ (j < 7 → (Term.elem kT (.int (Int32.ofNat j))).eval #[Value.ref b] s none [] s = some (.ref q.1) ∧ q.1 < s.heap.size ∧ ∀ (G : Cx) (i : Nat), G.2.1 (6 + i) = q.2 → IA G q.1 (knT j) s.heap) := by
    intro j
    by_cases hj : j < 7
    · obtain ⟨a, cA, h1, h2, h3, h4⟩ := kn_start hq j hj
      exact ⟨(a, cA), h3, fun _ => ⟨h1, h2, h4⟩⟩
    · exact ⟨(0, cI), ⟨kI, mI, kI1, kI2⟩, fun h => absurd h hj⟩
  obtain ⟨kn, hkn⟩ := Classical.axiomOfChoice hkn0
  have hst0 : ∀ i : Nat, ∃ (q : Nat × Nat), i < 9 → (tS i).eval #[Value.ref b] s none [] s = some (.ref q.1) ∧ va_O "java/lang/String" q.1 (fun q => s.heap.size ≤ q) s s.heap ∧ va_OF "java/lang/String" "coder" "B" (.int 0) q.1 (fun q => s.heap.size ≤ q) s s.heap ∧ va_OF "java/lang/String" "value" "[B" (.ref q.2) q.1 (fun q => s.heap.size ≤ q) s s.heap ∧ va_T .byte q.2 (stx i).length (fun j => .int (nI ((stx i).getD j 0))) (fun q => s.heap.size ≤ q) s s.heap := by
    intro i
    by_cases hi : i < 9
    · obtain ⟨a, v, h⟩ := st_start hq hA i hi
      exact ⟨(a, v), fun _ => h⟩
    · exact ⟨(0, 0), fun h => absurd h hi⟩
  obtain ⟨st, hst⟩ := Classical.axiomOfChoice hst0
  obtain ⟨t0, e0, T0⟩ := va_Tof (tm := .static "Signtext" "CODES" "[I") (ty := .int) (N := 24) (f := fun j => .int (nI (codeT.getD j 0))) (A := fun q => s.heap.size ≤ q) (by decide) (hq _ (by decide +kernel)) (va_eqt (hq _ (by decide +kernel))) (fun j hj => va_eqt (hq _ (nf_c0 j hj))) hA
  obtain ⟨t1, e1, T1⟩ := va_Tof (tm := .static "SigntextModel" "CODES" "[I") (ty := .int) (N := 24) (f := fun j => .int (nI (codeT.getD j 0))) (A := fun q => s.heap.size ≤ q) (by decide) (hq _ (by decide +kernel)) (va_eqt (hq _ (by decide +kernel))) (fun j hj => va_eqt (hq _ (nf_c1 j hj))) hA
  obtain ⟨t2, e2, T2⟩ := va_Tof (tm := kT) (ty := .array .int) (N := 7) (f := fun j => .ref (kn j).1) (A := fun q => s.heap.size ≤ q) (by decide) (hq _ (by decide +kernel)) (va_eqt (hq _ (by decide +kernel))) (fun j hj => ((hkn j).2 hj).1) hA
  obtain ⟨te, ee, Te⟩ := va_Tof (tm := .static "java/util/ArrayList" "DEFAULTCAPACITY_EMPTY_ELEMENTDATA" "[Ljava/lang/Object;") (ty := .object "java/lang/Object") (N := 0) (f := fun _ => .null) (A := fun q => s.heap.size ≤ q) (by decide) (hq _ (by decide +kernel)) (va_eqt (hq _ (by decide +kernel))) (fun j hj => absurd hj (Nat.not_lt_zero j)) hA
  obtain ⟨K, k0, k1, k2, k3, k4, k5, k6, k7⟩ : ∃ K : Nat → ClassId, K 0 = cI ∧ K 1 = cC ∧ K 2 = cB ∧ K 3 = cL ∧ K 4 = cM ∧ K 5 = cO ∧ K 6 = cI ∧ ∀ j : Nat, K (6 + (j + 1)) = (kn j).2 := by
    refine ⟨fun n => if n = 0 then cI else if n = 1 then cC else if n = 2 then cB else if n = 3 then cL else if n = 4 then cM else if n = 5 then cO else if n = 6 then cI else (kn (n - 7)).2, rfl, rfl, rfl, rfl, rfl, rfl, rfl, fun j => ?_⟩
    show (if 6 + (j + 1) = 0 then cI else if 6 + (j + 1) = 1 then cC else if 6 + (j + 1) = 2 then cB else if 6 + (j + 1) = 3 then cL else if 6 + (j + 1) = 4 then cM else if 6 + (j + 1) = 5 then cO else if 6 + (j + 1) = 6 then cI else (kn (6 + (j + 1) - 7)).2) = _
    rw [if_neg (by omega), if_neg (by omega), if_neg (by omega), if_neg (by omega), if_neg (by omega), if_neg (by omega), if_neg (by omega), show 6 + (j + 1) - 7 = j by omega]
  obtain ⟨g, g0, g1, g2, g3, g10, g11, g20, g40⟩ : ∃ g : Nat → Nat, g 0 = t0 ∧ g 1 = t1 ∧ g 2 = t2 ∧ (∀ j : Nat, j < 7 → g (3 + j) = (kn j).1) ∧ g 10 = te ∧ g 11 = mi ∧ (∀ i : Nat, i < 9 → g (20 + i) = (st i).1) ∧ (∀ i : Nat, i < 9 → g (40 + i) = (st i).2) := by
    refine ⟨fun n => if n = 0 then t0 else if n = 1 then t1 else if n = 2 then t2 else if n = 10 then te else if n = 11 then mi else if n < 10 then (kn (n - 3)).1 else if n < 40 then (st (n - 20)).1 else (st (n - 40)).2, rfl, rfl, rfl, fun j hj => ?_, rfl, rfl, fun i hi => ?_, fun i hi => ?_⟩
    · show (if 3 + j = 0 then t0 else if 3 + j = 1 then t1 else if 3 + j = 2 then t2 else if 3 + j = 10 then te else if 3 + j = 11 then mi else if 3 + j < 10 then (kn (3 + j - 3)).1 else if 3 + j < 40 then (st (3 + j - 20)).1 else (st (3 + j - 40)).2) = _
      rw [if_neg (by omega), if_neg (by omega), if_neg (by omega), if_neg (by omega), if_neg (by omega), if_pos (by omega), show 3 + j - 3 = j by omega]
    · show (if 20 + i = 0 then t0 else if 20 + i = 1 then t1 else if 20 + i = 2 then t2 else if 20 + i = 10 then te else if 20 + i = 11 then mi else if 20 + i < 10 then (kn (20 + i - 3)).1 else if 20 + i < 40 then (st (20 + i - 20)).1 else (st (20 + i - 40)).2) = _
      rw [if_neg (by omega), if_neg (by omega), if_neg (by omega), if_neg (by omega), if_neg (by omega), if_neg (by omega), if_pos (by omega), show 20 + i - 20 = i by omega]
    · show (if 40 + i = 0 then t0 else if 40 + i = 1 then t1 else if 40 + i = 2 then t2 else if 40 + i = 10 then te else if 40 + i = 11 then mi else if 40 + i < 10 then (kn (40 + i - 3)).1 else if 40 + i < 40 then (st (40 + i - 20)).1 else (st (40 + i - 40)).2) = _
      rw [if_neg (by omega), if_neg (by omega), if_neg (by omega), if_neg (by omega), if_neg (by omega), if_neg (by omega), if_neg (by omega), show 40 + i - 40 = i by omega]
  refine ⟨(D, K, g), ⟨hD, fun k q hk => ?_⟩, ⟨fun i => ?_, ?_⟩, ?_, fun i hi => ?_, ?_, hwn (D, K, g) g11⟩
  · match k, hk with
    | 0, hk => cases hk; show ArrOfT s (K 0) .int ∧ va_RA s (K 0) .int; rw [k0]; exact ⟨aI, fI⟩
    | 1, hk => cases hk; show ArrOfT s (K 1) .char ∧ va_RA s (K 1) .char; rw [k1]; exact ⟨aC, fC⟩
    | 2, hk => cases hk; show ArrOfT s (K 2) .byte ∧ va_RA s (K 2) .byte; rw [k2]; exact ⟨aB, fB⟩
    | 3, hk => cases hk; show ArrOfT s (K 3) (.object RX0) ∧ va_RA s (K 3) (.object RX0); rw [k3]; exact ⟨aL, rL⟩
    | 4, hk => cases hk; show ArrOfT s (K 4) (.array .int) ∧ va_RA s (K 4) (.array .int); rw [k4]; exact ⟨aM, rM⟩
    | 5, hk => cases hk; show ArrOfT s (K 5) (.object "java/lang/Object") ∧ va_RA s (K 5) (.object "java/lang/Object"); rw [k5]; exact ⟨aO, rO⟩
    | k + 6, hk => exact absurd hk (by simp)
  · cases i with
    | zero => exact ⟨kI, mI, by show s.vm.classes[K 6]? = some kI; rw [k6]; exact kI1, kI2⟩
    | succ j =>
      obtain ⟨kk, comp, h1, h2⟩ := (hkn j).1
      exact ⟨kk, comp, by show s.vm.classes[K (6 + (j + 1))]? = some kk; rw [k7]; exact h1, h2⟩
  · show K 6 = K 0
    rw [k6, k0]
  · refine ⟨?_, ?_, ?_, ?_, ?_, ?_, fun i hi => ?_, ?_, ?_, ?_, ?_, ?_, ?_⟩
    · show va_Z _ _ _ (.ref (g 0)) _ _ _; rw [g0]; exact va_Zref (hts _ (tb_at tin_3 31 rfl)) (hG _ tw_1_1) e0 hA
    · show va_T _ (g 0) _ _ _ _ _; rw [g0]; exact T0
    · show va_Z _ _ _ (.ref (g 1)) _ _ _; rw [g1]; exact va_Zref (hts _ (tb_at tin_4 200 rfl)) (hG _ tw_1_8) e1 hA
    · show va_T _ (g 1) _ _ _ _ _; rw [g1]; exact T1
    · show va_Z _ _ _ (.ref (g 2)) _ _ _; rw [g2]; exact va_Zref (hts _ (tb_at tin_5 61 rfl)) (hG _ tw_1_8) e2 hA
    · show va_T (.array .int) (g 2) 7 (fun j => .ref (g (3 + j))) _ _ _
      rw [g2]
      obtain ⟨cell, h1, h2, h3, h4, h5, h6, h7⟩ := T2
      exact ⟨cell, h1, h2, h3, h4, h5, fun j hj => by show cell.slots[j]? = some (Value.ref (g (3 + j))); rw [g3 j hj]; exact h6 j hj, h7⟩
    · have hk := (hkn i).2 hi
      show IA (D, K, g) (g (3 + i)) (knT i) s.heap ∧ ¬ s.heap.size ≤ g (3 + i)
      rw [g3 i hi]
      exact ⟨hk.2.2 (D, K, g) (i + 1) (k7 i), Nat.not_le_of_lt hk.2.1⟩
    · exact va_Zof (hts _ (tb_at tin_1 94 rfl)) (hG _ tw_1_4) (va_eqi (hq _ (by decide +kernel))) hA
    · show va_Z _ _ _ (.ref (g 10)) _ _ _; rw [g10]; exact va_Zref (hts _ (tb_at tin_4 156 rfl)) (hG _ tw_1_11) ee hA
    · show va_T _ (g 10) _ _ _ _ _; rw [g10]; exact Te
    · exact va_Zqof (hts _ (tb_at tin_1 110 rfl)) (hG _ tw_1_6) (hq _ (by decide +kernel)) hA
    · exact vx_Zqof (hts _ (tb_at tin_2 163 rfl)) (hG _ tw_1_13) (hq _ (by decide +kernel)) hA
    · exact vx_Zqof (hts _ (tb_at tin_2 165 rfl)) (hG _ tw_1_13) (hq _ (by decide +kernel)) hA
  · obtain ⟨-, h2, h3, h4, h5⟩ := hst i hi
    show va_O "java/lang/String" (g (20 + i)) _ _ _ ∧ va_OF "java/lang/String" "coder" "B" (.int 0) (g (20 + i)) _ _ _ ∧ va_OF "java/lang/String" "value" "[B" (.ref (g (40 + i))) (g (20 + i)) _ _ _ ∧ va_T .byte (g (40 + i)) _ _ _ _ _
    rw [g20 i hi, g40 i hi]
    exact ⟨h2, h3, h4, h5⟩
  · intro q hq9
    show vk_R q.1 q.2.1 q.2.2.1 (g (20 + q.2.2.2)) s
    have hall : ∀ q ∈ sRl, vk_R q.1 q.2.1 q.2.2.1 (g (20 + q.2.2.2)) s := by
      unfold sRl
      simp only [List.forall_mem_cons]
      exact ⟨(by rw [g20 0 (by decide)]; exact vk_R.of (hts _ (tb_at tin_1 74 rfl)) (hst 0 (by decide)).1), (by rw [g20 1 (by decide)]; exact vk_R.of (hts _ (tb_at tin_1 75 rfl)) (hst 1 (by decide)).1), (by rw [g20 2 (by decide)]; exact vk_R.of (hts _ (tb_at tin_1 76 rfl)) (hst 2 (by decide)).1), (by rw [g20 3 (by decide)]; exact vk_R.of (hts _ (tb_at tin_1 77 rfl)) (hst 3 (by decide)).1), (by rw [g20 4 (by decide)]; exact vk_R.of (hts _ (tb_at tin_1 78 rfl)) (hst 4 (by decide)).1), (by rw [g20 5 (by decide)]; exact vk_R.of (hts _ (tb_at tin_1 79 rfl)) (hst 5 (by decide)).1), (by rw [g20 6 (by decide)]; exact vk_R.of (hts _ (tb_at tin_1 80 rfl)) (va_eqv (u := .string "SigntextModel" 150) (hq _ (by decide +kernel)) (hst 6 (by decide)).1)), (by rw [g20 7 (by decide)]; exact vk_R.of (hts _ (tb_at tin_3 146 rfl)) (hst 7 (by decide)).1), (by rw [g20 8 (by decide)]; exact vk_R.of (hts _ (tb_at tin_3 147 rfl)) (hst 8 (by decide)).1), (by rw [g20 6 (by decide)]; exact vk_R.of (hts _ (tb_at tin_1 184 rfl)) (va_eqv (u := .string "SigntextModel" 150) (hq _ (by decide +kernel)) (hst 6 (by decide)).1)), (by rw [g20 6 (by decide)]; exact vk_R.of (hts _ (tb_at tin_5 194 rfl)) (hst 6 (by decide)).1), fun _ h => absurd h List.not_mem_nil⟩
    exact hall q hq9
end START
