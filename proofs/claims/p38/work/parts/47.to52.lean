/-! 47.mod11 -/
section
/-! The model, 11: the row's signs, known texts, a sign ahead -/
theorem h_aaTI {p : Program} {l : Launch} {e : Env} {R : Room} {s : State} {m : MethodId} {args : Array Value} {below : List Frame} {meth : Method} {c : Code} {H : Heap} {locs : List Loc} {cells slots : Nat} {Q : State → Prop} {cc : ByteArray} {pc : Nat} {ls : Array Slot} {rest : List Value} {A : Nat → Prop} {t N : Nat} {f : Nat → Value}
    (hx : p.tables.exec = Jvm.exec) (hb : c.code = cc) (hT : va_T (.array .int) t N f A s s.heap) (hS : va_S A s.heap H locs) {i : Int32} (hin : vp_in i N) {v : Value} (hv : f i.toNatClampNeg = v) (hdg : decode cc pc = .ok (.aaload, 1))
    (kk : W p l e R s m args below meth c H locs cells slots Q (F0 m (pc + 1) ls (v :: rest))) : W p l e R s m args below meth c H locs cells slots Q (F0 m pc ls (.int i :: .ref t :: rest)) := by
  obtain ⟨cell, h1, h2, h3, h4, h5, h6, h7⟩ := hT
  have hlt : i.toNatClampNeg < N := Nat.not_le.mp fun q => hin (Or.inr q)
  have hin' : ¬ (i < 0 ∨ cell.slots.size ≤ i.toNatClampNeg) := by
    intro q
    rcases q with q | q
    · exact hin (Or.inl q)
    · omega
  exact W.aald (v := v) (ty := .array .int) hx hb (by rw [hS.2.1 t (Array.getElem?_eq_some_iff.mp h1).1 h7]; exact h1) h2 rfl h3 hin' (by rw [h6 _ hlt, hv]) rfl rfl hdg kk
theorem set_getD_s {t : List Nat} {i c : Nat} (h : i < t.length) : (t.set i c).getD i 0 = c := by
  rw [List.getD_eq_getElem?_getD, List.getElem?_set_self h]; rfl
theorem set_getD_n {t : List Nat} {i j c : Nat} (h : j ≠ i) : (t.set i c).getD j 0 = t.getD j 0 := by
  rw [List.getD_eq_getElem?_getD, List.getElem?_set_ne (Ne.symm h), ← List.getD_eq_getElem?_getD]
theorem kp_new1 {H H1 H2 : Heap} {na : Nat} (hna : na = H.size) (z : H1.size = H.size + 1) (o : ∀ q : Nat, q < H.size → H1[q]? = H[q]?) (z2 : H2.size = H1.size) (o2 : ∀ q : Nat, q ≠ na → H2[q]? = H1[q]?) : kp (nw H.size) H H2 :=
  ⟨by rw [z2, z]; exact Nat.le_succ _, fun q hq _ => (o2 q (by omega)).trans (o q hq)⟩
section MWS3
variable {G : Cx} {A : Nat → Prop} {am xa : Nat} {X : Nat → List Nat} {P : List (List Nat)} {k th : Int32} {H H1 : Heap} {s : State}
/-- the row is written -/
theorem MWx.set {ra pa : Nat} {tx : Nat → Nat} (hK : va_K G.1 vwCl (tyL G.2.1) s) (h : MWx G A am xa ra pa tx X P k th H) {t : List Nat} (ht : okc t) (ht2 : t.length ≤ 60) (hR : IA0 G ra t H1) (oq : ∀ q : Nat, q ≠ ra → H1[q]? = H[q]?) : MWx G A am xa ra pa tx (updT X 11 t) P k th H1 := by
  obtain ⟨a1, a2, a3, a4, b1, b2, b3, b4, b5, b6, b7, b8⟩ := h
  obtain ⟨f7, b7a, -⟩ := b7
  have hI : ∀ {q : Nat} {t : List Nat}, IA0 G q t H → q ≠ ra → IA0 G q t H1 := fun {q t} hz hn => hz.o oq hn
  refine ⟨a1, a2, fun i hi => ?_, a4, b1, b2, b3, at_o b4 oq (at_ne_oa hK b4 (r := (RX4, TX4, 5)) rfl b7a 0 rfl), at_o b5 oq (at_ne_aa hK b5 b7a 4 0 rfl rfl (by decide)), fun j hj => ?_, ?_, ?_⟩
  · unfold updT; split
    · exact ⟨ht, ht2⟩
    · exact a3 i hi
  · rw [updT_n (by omega)]; exact ⟨hI (b6 j hj).1 (b6 j hj).2, (b6 j hj).2⟩
  · rw [updT_s]; exact hR
  · obtain ⟨h0, h | ⟨md, ed, cap, f, pe, h1, h2, h3, h4, h5, h6⟩⟩ := b8
    · obtain ⟨e, md, h⟩ := h
      exact ⟨h0, Or.inl ⟨e, md, at_o h oq (at_ne_oa hK h (r := (RJx4a65c, TJx4a65c, 3)) rfl b7a 0 rfl)⟩⟩
    · exact ⟨h0, Or.inr ⟨md, ed, cap, f, pe, at_o h1 oq (at_ne_oa hK h1 (r := (RJx4a65c, TJx4a65c, 3)) rfl b7a 0 rfl), at_o h2 oq (at_ne_aa hK h2 b7a 5 0 rfl rfl (by decide)), h3, h4, h5, fun i hi => ⟨(h6 i hi).1, hI (h6 i hi).2.1 (h6 i hi).2.2, (h6 i hi).2.2⟩⟩⟩
end MWS3
theorem dX4_ahead_0 : decode cX4_ahead 0 = .ok (.aload_n 0, 1) := by decide +kernel
theorem dX4_ahead_1 : decode cX4_ahead 1 = .ok (.iload_n 1, 1) := by decide +kernel
theorem dX4_ahead_2 : decode cX4_ahead 2 = .ok (.invokestatic 107, 3) := by decide +kernel
theorem dX4_ahead_5 : decode cX4_ahead 5 = .ok (.iconst 1, 1) := by decide +kernel
theorem dX4_ahead_6 : decode cX4_ahead 6 = .ok (.invokevirtual 110, 3) := by decide +kernel
theorem dX4_ahead_9 : decode cX4_ahead 9 = .ok (.ifCond .ne 40, 3) := by decide +kernel
theorem dX4_ahead_12 : decode cX4_ahead 12 = .ok (.aload_n 0, 1) := by decide +kernel
theorem dX4_ahead_13 : decode cX4_ahead 13 = .ok (.iload_n 2, 1) := by decide +kernel
theorem dX4_ahead_14 : decode cX4_ahead 14 = .ok (.invokestatic 100, 3) := by decide +kernel
theorem dX4_ahead_17 : decode cX4_ahead 17 = .ok (.iconst 2, 1) := by decide +kernel
theorem dX4_ahead_18 : decode cX4_ahead 18 = .ok (.invokevirtual 86, 3) := by decide +kernel
theorem dX4_ahead_21 : decode cX4_ahead 21 = .ok (.ifCond .ne 28, 3) := by decide +kernel
theorem dX4_ahead_24 : decode cX4_ahead 24 = .ok (.aload_n 0, 1) := by decide +kernel
theorem dX4_ahead_25 : decode cX4_ahead 25 = .ok (.aload_n 0, 1) := by decide +kernel
theorem dX4_ahead_26 : decode cX4_ahead 26 = .ok (.getfield 72, 3) := by decide +kernel
theorem dX4_ahead_29 : decode cX4_ahead 29 = .ok (.iload_n 1, 1) := by decide +kernel
theorem dX4_ahead_30 : decode cX4_ahead 30 = .ok (.aaload, 1) := by decide +kernel
theorem dX4_ahead_31 : decode cX4_ahead 31 = .ok (.arraylength, 1) := by decide +kernel
theorem dX4_ahead_32 : decode cX4_ahead 32 = .ok (.bipush 60, 2) := by decide +kernel
theorem dX4_ahead_34 : decode cX4_ahead 34 = .ok (.if_icmp .ne 7, 3) := by decide +kernel
theorem dX4_ahead_37 : decode cX4_ahead 37 = .ok (.iconst 1, 1) := by decide +kernel
theorem dX4_ahead_38 : decode cX4_ahead 38 = .ok (.goto 4, 3) := by decide +kernel
theorem dX4_ahead_41 : decode cX4_ahead 41 = .ok (.iconst 0, 1) := by decide +kernel
theorem dX4_ahead_42 : decode cX4_ahead 42 = .ok (.iconst 3, 1) := by decide +kernel
theorem dX4_ahead_43 : decode cX4_ahead 43 = .ok (.invokevirtual 86, 3) := by decide +kernel
theorem dX4_ahead_46 : decode cX4_ahead 46 = .ok (.ifCond .eq 5, 3) := by decide +kernel
theorem dX4_ahead_49 : decode cX4_ahead 49 = .ok (.iconst 0, 1) := by decide +kernel
theorem dX4_ahead_50 : decode cX4_ahead 50 = .ok (.ireturn, 1) := by decide +kernel
theorem dX4_ahead_51 : decode cX4_ahead 51 = .ok (.aload_n 0, 1) := by decide +kernel
theorem dX4_ahead_52 : decode cX4_ahead 52 = .ok (.iload_n 1, 1) := by decide +kernel
theorem dX4_ahead_53 : decode cX4_ahead 53 = .ok (.iconst 1, 1) := by decide +kernel
theorem dX4_ahead_54 : decode cX4_ahead 54 = .ok (.newarray .int, 2) := by decide +kernel
theorem dX4_ahead_56 : decode cX4_ahead 56 = .ok (.dup, 1) := by decide +kernel
theorem dX4_ahead_57 : decode cX4_ahead 57 = .ok (.iconst 0, 1) := by decide +kernel
theorem dX4_ahead_58 : decode cX4_ahead 58 = .ok (.getstatic 94, 3) := by decide +kernel
theorem dX4_ahead_61 : decode cX4_ahead 61 = .ok (.iload_n 2, 1) := by decide +kernel
theorem dX4_ahead_62 : decode cX4_ahead 62 = .ok (.iaload, 1) := by decide +kernel
theorem dX4_ahead_63 : decode cX4_ahead 63 = .ok (.iastore, 1) := by decide +kernel
theorem dX4_ahead_64 : decode cX4_ahead 64 = .ok (.aload_n 0, 1) := by decide +kernel
theorem dX4_ahead_65 : decode cX4_ahead 65 = .ok (.getfield 72, 3) := by decide +kernel
theorem dX4_ahead_68 : decode cX4_ahead 68 = .ok (.iload_n 1, 1) := by decide +kernel
theorem dX4_ahead_69 : decode cX4_ahead 69 = .ok (.aaload, 1) := by decide +kernel
theorem dX4_ahead_70 : decode cX4_ahead 70 = .ok (.invokestatic 103, 3) := by decide +kernel
theorem dX4_ahead_73 : decode cX4_ahead 73 = .ok (.invokevirtual 113, 3) := by decide +kernel
theorem dX4_ahead_76 : decode cX4_ahead 76 = .ok (.ireturn, 1) := by decide +kernel
theorem dX4_known_0 : decode cX4_known 0 = .ok (.aload_n 0, 1) := by decide +kernel
theorem dX4_known_1 : decode cX4_known 1 = .ok (.iload_n 1, 1) := by decide +kernel
theorem dX4_known_2 : decode cX4_known 2 = .ok (.invokestatic 107, 3) := by decide +kernel
theorem dX4_known_5 : decode cX4_known 5 = .ok (.iconst 1, 1) := by decide +kernel
theorem dX4_known_6 : decode cX4_known 6 = .ok (.invokevirtual 110, 3) := by decide +kernel
theorem dX4_known_9 : decode cX4_known 9 = .ok (.ifCond .ne 47, 3) := by decide +kernel
theorem dX4_known_12 : decode cX4_known 12 = .ok (.aload_n 0, 1) := by decide +kernel
theorem dX4_known_13 : decode cX4_known 13 = .ok (.iload_n 2, 1) := by decide +kernel
theorem dX4_known_14 : decode cX4_known 14 = .ok (.invokestatic 135, 3) := by decide +kernel
theorem dX4_known_17 : decode cX4_known 17 = .ok (.iconst 2, 1) := by decide +kernel
theorem dX4_known_18 : decode cX4_known 18 = .ok (.invokevirtual 86, 3) := by decide +kernel
theorem dX4_known_21 : decode cX4_known 21 = .ok (.ifCond .ne 35, 3) := by decide +kernel
theorem dX4_known_24 : decode cX4_known 24 = .ok (.aload_n 0, 1) := by decide +kernel
theorem dX4_known_25 : decode cX4_known 25 = .ok (.aload_n 0, 1) := by decide +kernel
theorem dX4_known_26 : decode cX4_known 26 = .ok (.getfield 72, 3) := by decide +kernel
theorem dX4_known_29 : decode cX4_known 29 = .ok (.iload_n 1, 1) := by decide +kernel
theorem dX4_known_30 : decode cX4_known 30 = .ok (.aaload, 1) := by decide +kernel
theorem dX4_known_31 : decode cX4_known 31 = .ok (.arraylength, 1) := by decide +kernel
theorem dX4_known_32 : decode cX4_known 32 = .ok (.getstatic 97, 3) := by decide +kernel
theorem dX4_known_35 : decode cX4_known 35 = .ok (.iload_n 2, 1) := by decide +kernel
theorem dX4_known_36 : decode cX4_known 36 = .ok (.aaload, 1) := by decide +kernel
theorem dX4_known_37 : decode cX4_known 37 = .ok (.arraylength, 1) := by decide +kernel
theorem dX4_known_38 : decode cX4_known 38 = .ok (.iadd, 1) := by decide +kernel
theorem dX4_known_39 : decode cX4_known 39 = .ok (.bipush 60, 2) := by decide +kernel
theorem dX4_known_41 : decode cX4_known 41 = .ok (.if_icmp .le 7, 3) := by decide +kernel
theorem dX4_known_44 : decode cX4_known 44 = .ok (.iconst 1, 1) := by decide +kernel
theorem dX4_known_45 : decode cX4_known 45 = .ok (.goto 4, 3) := by decide +kernel
theorem dX4_known_48 : decode cX4_known 48 = .ok (.iconst 0, 1) := by decide +kernel
theorem dX4_known_49 : decode cX4_known 49 = .ok (.iconst 3, 1) := by decide +kernel
theorem dX4_known_50 : decode cX4_known 50 = .ok (.invokevirtual 86, 3) := by decide +kernel
theorem dX4_known_53 : decode cX4_known 53 = .ok (.ifCond .eq 5, 3) := by decide +kernel
theorem dX4_known_56 : decode cX4_known 56 = .ok (.iconst 0, 1) := by decide +kernel
theorem dX4_known_57 : decode cX4_known 57 = .ok (.ireturn, 1) := by decide +kernel
theorem dX4_known_58 : decode cX4_known 58 = .ok (.aload_n 0, 1) := by decide +kernel
theorem dX4_known_59 : decode cX4_known 59 = .ok (.iload_n 1, 1) := by decide +kernel
theorem dX4_known_60 : decode cX4_known 60 = .ok (.aload_n 0, 1) := by decide +kernel
theorem dX4_known_61 : decode cX4_known 61 = .ok (.getfield 72, 3) := by decide +kernel
theorem dX4_known_64 : decode cX4_known 64 = .ok (.iload_n 1, 1) := by decide +kernel
theorem dX4_known_65 : decode cX4_known 65 = .ok (.aaload, 1) := by decide +kernel
theorem dX4_known_66 : decode cX4_known 66 = .ok (.getstatic 97, 3) := by decide +kernel
theorem dX4_known_69 : decode cX4_known 69 = .ok (.iload_n 2, 1) := by decide +kernel
theorem dX4_known_70 : decode cX4_known 70 = .ok (.aaload, 1) := by decide +kernel
theorem dX4_known_71 : decode cX4_known 71 = .ok (.invokestatic 103, 3) := by decide +kernel
theorem dX4_known_74 : decode cX4_known 74 = .ok (.invokevirtual 113, 3) := by decide +kernel
theorem dX4_known_77 : decode cX4_known 77 = .ok (.ireturn, 1) := by decide +kernel
theorem dX4_set_0 : decode cX4_set 0 = .ok (.aload_n 0, 1) := by decide +kernel
theorem dX4_set_1 : decode cX4_set 1 = .ok (.aload_n 0, 1) := by decide +kernel
theorem dX4_set_2 : decode cX4_set 2 = .ok (.iload_n 1, 1) := by decide +kernel
theorem dX4_set_3 : decode cX4_set 3 = .ok (.invokevirtual 138, 3) := by decide +kernel
theorem dX4_set_6 : decode cX4_set 6 = .ok (.iconst 1, 1) := by decide +kernel
theorem dX4_set_7 : decode cX4_set 7 = .ok (.invokevirtual 110, 3) := by decide +kernel
theorem dX4_set_10 : decode cX4_set 10 = .ok (.ifCond .ne 15, 3) := by decide +kernel
theorem dX4_set_13 : decode cX4_set 13 = .ok (.aload_n 0, 1) := by decide +kernel
theorem dX4_set_14 : decode cX4_set 14 = .ok (.iload_n 2, 1) := by decide +kernel
theorem dX4_set_15 : decode cX4_set 15 = .ok (.invokestatic 100, 3) := by decide +kernel
theorem dX4_set_18 : decode cX4_set 18 = .ok (.iconst 2, 1) := by decide +kernel
theorem dX4_set_19 : decode cX4_set 19 = .ok (.invokevirtual 86, 3) := by decide +kernel
theorem dX4_set_22 : decode cX4_set 22 = .ok (.ifCond .eq 5, 3) := by decide +kernel
theorem dX4_set_25 : decode cX4_set 25 = .ok (.iconst 0, 1) := by decide +kernel
theorem dX4_set_26 : decode cX4_set 26 = .ok (.ireturn, 1) := by decide +kernel
theorem dX4_set_27 : decode cX4_set 27 = .ok (.aload_n 0, 1) := by decide +kernel
theorem dX4_set_28 : decode cX4_set 28 = .ok (.getfield 75, 3) := by decide +kernel
theorem dX4_set_31 : decode cX4_set 31 = .ok (.iload_n 1, 1) := by decide +kernel
theorem dX4_set_32 : decode cX4_set 32 = .ok (.iaload, 1) := by decide +kernel
theorem dX4_set_33 : decode cX4_set 33 = .ok (.istore_n 3, 1) := by decide +kernel
theorem dX4_set_34 : decode cX4_set 34 = .ok (.aload_n 0, 1) := by decide +kernel
theorem dX4_set_35 : decode cX4_set 35 = .ok (.getfield 75, 3) := by decide +kernel
theorem dX4_set_38 : decode cX4_set 38 = .ok (.iload_n 1, 1) := by decide +kernel
theorem dX4_set_39 : decode cX4_set 39 = .ok (.getstatic 94, 3) := by decide +kernel
theorem dX4_set_42 : decode cX4_set 42 = .ok (.iload_n 2, 1) := by decide +kernel
theorem dX4_set_43 : decode cX4_set 43 = .ok (.iaload, 1) := by decide +kernel
theorem dX4_set_44 : decode cX4_set 44 = .ok (.iastore, 1) := by decide +kernel
theorem dX4_set_45 : decode cX4_set 45 = .ok (.iload_n 3, 1) := by decide +kernel
theorem dX4_set_46 : decode cX4_set 46 = .ok (.ireturn, 1) := by decide +kernel
theorem dX4_rowAt_0 : decode cX4_rowAt 0 = .ok (.aload_n 0, 1) := by decide +kernel
theorem dX4_rowAt_1 : decode cX4_rowAt 1 = .ok (.aload_n 0, 1) := by decide +kernel
theorem dX4_rowAt_2 : decode cX4_rowAt 2 = .ok (.iload_n 1, 1) := by decide +kernel
theorem dX4_rowAt_3 : decode cX4_rowAt 3 = .ok (.invokevirtual 138, 3) := by decide +kernel
theorem dX4_rowAt_6 : decode cX4_rowAt 6 = .ok (.iconst 1, 1) := by decide +kernel
theorem dX4_rowAt_7 : decode cX4_rowAt 7 = .ok (.invokevirtual 110, 3) := by decide +kernel
theorem dX4_rowAt_10 : decode cX4_rowAt 10 = .ok (.ifCond .eq 7, 3) := by decide +kernel
theorem dX4_rowAt_13 : decode cX4_rowAt 13 = .ok (.iconst 0, 1) := by decide +kernel
theorem dX4_rowAt_14 : decode cX4_rowAt 14 = .ok (.goto 9, 3) := by decide +kernel
theorem dX4_rowAt_17 : decode cX4_rowAt 17 = .ok (.aload_n 0, 1) := by decide +kernel
theorem dX4_rowAt_18 : decode cX4_rowAt 18 = .ok (.getfield 75, 3) := by decide +kernel
theorem dX4_rowAt_21 : decode cX4_rowAt 21 = .ok (.iload_n 1, 1) := by decide +kernel
theorem dX4_rowAt_22 : decode cX4_rowAt 22 = .ok (.iaload, 1) := by decide +kernel
theorem dX4_rowAt_23 : decode cX4_rowAt 23 = .ok (.ireturn, 1) := by decide +kernel
abbrev rmX4_set : Room := { frames := 3, cells := 0, slots := 0, locals := 64 }
theorem mX4_set {l : Launch} {G : Cx} {A : Nat → Prop} {am xa : Nat} {X : Nat → List Nat} {P : List (List Nat)} {k : Int32} {x y th : Int32} : Met l yX4_set (.code yX4_set cX4_set 4 (some .int) :: GW) rmX4_set (PC G A [.ref am, .int x, .int y] (MW G A am xa X P k th)) (qI A (fun r H => ((¬ ∃ a9 : Nat, a9 < (X 11).length ∧ x = nI a9) ∧ r = 0 ∧ MW G A am xa X P k 1 H) ∨ (((∃ a9 : Nat, a9 < (X 11).length ∧ x = nI a9) ∧ NS y) ∧ r = 0 ∧ MW G A am xa X P k 2 H) ∨ ∃ a9 j : Nat, a9 < (X 11).length ∧ x = nI a9 ∧ j < 24 ∧ y = nI j ∧ r = nI ((X 11).getD a9 0) ∧ MW G A am xa (updT X 11 ((X 11).set a9 (codeT.getD j 0))) P k 0 H)) 0 0 (A) := by
  refine mstart "SigntextModel" (by decide +kernel) rfl (Nat.le_of_ble_eq_true rfl) ?_
  intro p e s m below meth c ls hx hb hr hts hown hml hlocks hname hC hA hW hl
  have hl : lv_has ls 4 [(0, .ref am), (1, .int x), (2, .int y)] := hl
  have hK := hC.1
  have hS : va_S A s.heap s.heap [] := va_S.rf
  obtain ⟨ra, pa, tx, hW⟩ := hW
  have hO := hW.obj
  have hAm := hW.1
  obtain ⟨-, -, zc3, zc4, zc5, zc6, zc7, -⟩ := hC.2.2.1
  refine lv_aload_n hx hb dX4_set_0 rfl (lv_at hl 0 rfl) ?_
  refine lv_aload_n hx hb dX4_set_1 rfl (lv_at hl 0 rfl) ?_
  refine lv_iload_n hx hb dX4_set_2 rfl (lv_at hl 1 rfl) ?_
  refine kV_i (A := A) (b := am) (As := [.int x]) (rest := .ref am :: []) ⟨hx, hb, hml, hown, hts⟩ (mX4_isNoPlace (A := A) (xa := xa) (X := X) (P := P) (k := k)) (cwV 1 hts (gV tw_5_66 tw_5_68 sel_X4_isNoPlace tw_1_8 tw_5_69) rfl rfl rfl (by decide +kernel) ⟨Nat.le_of_ble_eq_true rfl, Nat.le_of_ble_eq_true rfl⟩) hC hS hA (hW.recv hK) ⟨ra, pa, tx, hW⟩ rfl rfl hl.1 (Nat.le_of_ble_eq_true rfl) ⟨Nat.zero_le _, Nat.zero_le _⟩ dX4_set_3 (fun r_1 hr_1 => ?_)
  obtain ⟨r_1v, hr_1v, rfl⟩ := hr_1
  refine lv_iconst (v := nI 1) hx hb dX4_set_6 (by decide) ?_
  cases r_1v
  · obtain ⟨a9, ha9, rfl⟩ : ∃ a9 : Nat, a9 < (X 11).length ∧ x = nI a9 := Classical.byContradiction (fun q => Bool.noConfusion (hr_1v.mpr q))
    refine qI_V (A := A) (A1 := A) (b := am) (As := [.int (bI false), .int (nI 1)]) (rest := []) ⟨hx, hb, hml, hown, hts⟩ (mX4_start (A := A) (X := X) (P := P) (k := k) (xa := xa) (b := false) (w9 := 1) (by decide)) (cwV 2 hts (gV tw_4_206 tw_4_208 sel_X4_start tw_1_8 tw_4_209) rfl rfl rfl (by decide +kernel) ⟨Nat.le_of_ble_eq_true rfl, Nat.le_of_ble_eq_true rfl⟩) hC hS (fun _ h => h) (fun q h => hA q (Nat.le_trans hS.1 h)) (hW.recv hK) ⟨ra, pa, tx, hW⟩ rfl rfl hl.1 (Nat.le_of_ble_eq_true rfl) ⟨Nat.zero_le _, Nat.zero_le _⟩ dX4_set_7 (fun rv2 H2 L2 hP2 hk2 hS => ?_)
    have hZ2 := hS.1
    obtain ⟨hr2, hM2⟩ := hP2
    subst hr2
    obtain ⟨ra, pa, tx, hW⟩ := hM2
    have hW : MWx G A am xa ra pa tx X P k (nI 0) H2 := hW
    have hO := hW.obj
    have hAm := hW.1
    refine f_ne (tgt := 25) hx hb dX4_set_10 (by decide) (fun c_3 => ?_) (fun c_3 => ?_)
    · exact absurd c_3 (by decide)
    · refine lv_aload_n hx hb dX4_set_13 rfl (lv_at hl 0 rfl) ?_
      refine lv_iload_n hx hb dX4_set_14 rfl (lv_at hl 2 rfl) ?_
      have x11 := hW.2.2.1 11 (Or.inr rfl)
      have r60 := x11.2
      refine kS_i (A := A) (As := [.int y]) (rest := .ref am :: []) ⟨hx, hb, hml, hown, hts⟩ (mX4_isNoSign (A := A) ) (va_cwS 1 hts (gS tw_4_192 tw_4_193 tw_1_8 tw_4_194) rfl rfl rfl (by decide +kernel) ⟨Nat.le_of_ble_eq_true rfl, Nat.le_of_ble_eq_true rfl⟩) hC hS hA  trivial rfl rfl hl.1 (Nat.le_of_ble_eq_true rfl) ⟨Nat.zero_le _, Nat.zero_le _⟩ dX4_set_15 (fun r_4 hr_4 => ?_)
      obtain ⟨r_4v, hr_4v, rfl⟩ := hr_4
      refine lv_iconst (v := nI 2) hx hb dX4_set_18 (by decide) ?_
      cases r_4v
      · obtain ⟨j, hj, rfl⟩ : ∃ j : Nat, j < 24 ∧ y = nI j := Classical.byContradiction (fun q => Bool.noConfusion (hr_4v.mpr q))
        refine qI_V (A := A) (A1 := A) (b := am) (As := [.int (bI false), .int (nI 2)]) (rest := []) ⟨hx, hb, hml, hown, hts⟩ (mX4_refuse (A := A) (X := X) (P := P) (k := k) (xa := xa) (b := false) (th := 0) (w9 := 2) (by decide) (by decide)) (cwV 2 hts (gV tw_4_210 tw_4_212 sel_X4_refuse tw_1_8 tw_4_213) rfl rfl rfl (by decide +kernel) ⟨Nat.le_of_ble_eq_true rfl, Nat.le_of_ble_eq_true rfl⟩) hC hS (fun _ h => h) (fun q h => hA q (Nat.le_trans hS.1 h)) (hW.recv hK) ⟨ra, pa, tx, hW⟩ rfl rfl hl.1 (Nat.le_of_ble_eq_true rfl) ⟨Nat.zero_le _, Nat.zero_le _⟩ dX4_set_19 (fun rv5 H5 L5 hP5 hk5 hS => ?_)
        have hZ5 := hS.1
        obtain ⟨hr5, hM5⟩ := hP5
        subst hr5
        obtain ⟨ra, pa, tx, hW⟩ := hM5
        have hW : MWx G A am xa ra pa tx X P k (nI 0) H5 := hW
        have hO := hW.obj
        have hAm := hW.1
        refine f_eq (tgt := 27) hx hb dX4_set_22 (by decide) (fun c_6 => ?_) (fun c_6 => ?_)
        · obtain ⟨f0, hRf, hf0⟩ := hW.row
          refine lv_aload_n hx hb dX4_set_27 rfl (lv_at hl 0 rfl) ?_
          refine va_get (D := G.1) (ci := 8) (C := RX4) (T := TX4) (N := 5) hx hb hts inX4 hown hK (at_P hO) 0 rfl rfl 2 (by decide) (hts _ tw_4_174) (fun _ h9 => h9) rfl dX4_set_28 ?_
          refine lv_iload_n hx hb dX4_set_31 rfl (lv_at hl 1 rfl) ?_
          refine va_iald hx hb hK (at_P hRf) 0 0 rfl rfl (vp_in_nI (n := a9) (N := (X 11).length) (by omega) (by omega)) dX4_set_32 ?_
          refine lv_cv (show _ = nI ((X 11).getD a9 0) from by rw [nI_clamp (by omega)]; exact hf0 _ (by omega)) ?_
          refine lv_istore_n (lv' := [(3, .int (nI ((X 11).getD a9 0))), (0, .ref am), (1, .int (nI a9)), (2, .int (nI j))]) hx hb dX4_set_33 rfl hl (by decide) rfl (fun ls hl => ?_)
          refine lv_aload_n hx hb dX4_set_34 rfl (lv_at hl 1 rfl) ?_
          refine va_get (D := G.1) (ci := 8) (C := RX4) (T := TX4) (N := 5) hx hb hts inX4 hown hK (at_P hO) 0 rfl rfl 2 (by decide) (hts _ tw_4_174) (fun _ h9 => h9) rfl dX4_set_35 ?_
          refine lv_iload_n hx hb dX4_set_38 rfl (lv_at hl 2 rfl) ?_
          refine va_gets (v := .ref (G.2.2 1)) hx hb zc3 hS hown (hts _ tw_4_195) (fun _ h9 => h9) dX4_set_39 ?_
          refine lv_iload_n hx hb dX4_set_42 rfl (lv_at hl 3 rfl) ?_
          refine va_ti (v := .int (nI (codeT.getD j 0))) hx hb zc4 hS (vp_in_nI (n := j) (N := 24) (by omega) (by omega)) (by rw [nI_clamp (n := j) (by omega)]) dX4_set_43 ?_
          refine h_ist (D := G.1) hx hb hK 0 hRf rfl hS hW.2.2.2.2.1 (vp_in_nI (n := a9) (N := (X 11).length) (by omega) (by omega)) dX4_set_44 (fun H7 L7 hRf z7 o7 hS => ?_)
          rw [nI_clamp (n := a9) (by omega)] at hRf
          have hZ7 := hS.1
          have hR2 : IA0 G ra ((X 11).set a9 (codeT.getD j 0)) H7 := IA0.mk hRf (by rw [List.length_set]) (fun q hq => by by_cases e9 : q = a9; rw [e9, pk_us, set_getD_s ha9]; rw [pk_un e9, set_getD_n e9]; exact hf0 q hq)
          have hW := hW.set hK (okc_set x11.1 (codeT_lt j)) (by rw [List.length_set]; exact x11.2) hR2 o7
          refine lv_iload_n hx hb dX4_set_45 rfl (lv_at hl 0 rfl) ?_
          exact q_i hx hb hr hlocks dX4_set_46 hS (Nat.le_refl _) (Nat.le_refl _) (Or.inr (Or.inr (⟨a9, j, ha9, rfl, hj, rfl, rfl, ra, pa, tx, hW⟩)))
        · exact absurd c_6 (by decide)
      · refine qI_V (A := A) (A1 := A) (b := am) (As := [.int (bI true), .int (nI 2)]) (rest := []) ⟨hx, hb, hml, hown, hts⟩ (mX4_refuse (A := A) (X := X) (P := P) (k := k) (xa := xa) (b := true) (th := 0) (w9 := 2) (by decide) (by decide)) (cwV 2 hts (gV tw_4_210 tw_4_212 sel_X4_refuse tw_1_8 tw_4_213) rfl rfl rfl (by decide +kernel) ⟨Nat.le_of_ble_eq_true rfl, Nat.le_of_ble_eq_true rfl⟩) hC hS (fun _ h => h) (fun q h => hA q (Nat.le_trans hS.1 h)) (hW.recv hK) ⟨ra, pa, tx, hW⟩ rfl rfl hl.1 (Nat.le_of_ble_eq_true rfl) ⟨Nat.zero_le _, Nat.zero_le _⟩ dX4_set_19 (fun rv8 H8 L8 hP8 hk8 hS => ?_)
        have hZ8 := hS.1
        obtain ⟨hr8, hM8⟩ := hP8
        subst hr8
        obtain ⟨ra, pa, tx, hW⟩ := hM8
        have hW : MWx G A am xa ra pa tx X P k (nI 2) H8 := hW
        have hO := hW.obj
        have hAm := hW.1
        refine f_eq (tgt := 27) hx hb dX4_set_22 (by decide) (fun c_9 => ?_) (fun c_9 => ?_)
        · exact absurd c_9 (by decide)
        · refine lv_iconst (v := nI 0) hx hb dX4_set_25 (by decide) ?_
          exact q_i hx hb hr hlocks dX4_set_26 hS (Nat.le_refl _) (Nat.le_refl _) (Or.inr (Or.inl ⟨⟨⟨a9, ha9, rfl⟩, (hr_4v.mp rfl)⟩, rfl, ra, pa, tx, hW⟩))
  · refine qI_V (A := A) (A1 := A) (b := am) (As := [.int (bI true), .int (nI 1)]) (rest := []) ⟨hx, hb, hml, hown, hts⟩ (mX4_start (A := A) (X := X) (P := P) (k := k) (xa := xa) (b := true) (w9 := 1) (by decide)) (cwV 2 hts (gV tw_4_206 tw_4_208 sel_X4_start tw_1_8 tw_4_209) rfl rfl rfl (by decide +kernel) ⟨Nat.le_of_ble_eq_true rfl, Nat.le_of_ble_eq_true rfl⟩) hC hS (fun _ h => h) (fun q h => hA q (Nat.le_trans hS.1 h)) (hW.recv hK) ⟨ra, pa, tx, hW⟩ rfl rfl hl.1 (Nat.le_of_ble_eq_true rfl) ⟨Nat.zero_le _, Nat.zero_le _⟩ dX4_set_7 (fun rv10 H10 L10 hP10 hk10 hS => ?_)
    have hZ10 := hS.1
    obtain ⟨hr10, hM10⟩ := hP10
    subst hr10
    obtain ⟨ra, pa, tx, hW⟩ := hM10
    have hW : MWx G A am xa ra pa tx X P k (nI 1) H10 := hW
    have hO := hW.obj
    have hAm := hW.1
    refine f_ne (tgt := 25) hx hb dX4_set_10 (by decide) (fun c_11 => ?_) (fun c_11 => ?_)
    · refine lv_iconst (v := nI 0) hx hb dX4_set_25 (by decide) ?_
      exact q_i hx hb hr hlocks dX4_set_26 hS (Nat.le_refl _) (Nat.le_refl _) (Or.inl ⟨(hr_1v.mp rfl), rfl, ra, pa, tx, hW⟩)
    · exact absurd c_11 (by decide)

abbrev rmX4_rowAt : Room := { frames := 3, cells := 0, slots := 0, locals := 64 }
theorem mX4_rowAt {l : Launch} {G : Cx} {A : Nat → Prop} {am xa : Nat} {X : Nat → List Nat} {P : List (List Nat)} {k : Int32} {x th : Int32} : Met l yX4_rowAt (.code yX4_rowAt cX4_rowAt 2 (some .int) :: GW) rmX4_rowAt (PC G A [.ref am, .int x] (MW G A am xa X P k th)) (qI A (fun r H => ((¬ ∃ a9 : Nat, a9 < (X 11).length ∧ x = nI a9) ∧ r = 0 ∧ MW G A am xa X P k 1 H) ∨ ∃ a9 : Nat, a9 < (X 11).length ∧ x = nI a9 ∧ r = nI ((X 11).getD a9 0) ∧ MW G A am xa X P k 0 H)) 0 0 (A) := by
  refine mstart "SigntextModel" (by decide +kernel) rfl (Nat.le_of_ble_eq_true rfl) ?_
  intro p e s m below meth c ls hx hb hr hts hown hml hlocks hname hC hA hW hl
  have hl : lv_has ls 2 [(0, .ref am), (1, .int x)] := hl
  have hK := hC.1
  have hS : va_S A s.heap s.heap [] := va_S.rf
  obtain ⟨ra, pa, tx, hW⟩ := hW
  have hO := hW.obj
  have hAm := hW.1
  refine lv_aload_n hx hb dX4_rowAt_0 rfl (lv_at hl 0 rfl) ?_
  refine lv_aload_n hx hb dX4_rowAt_1 rfl (lv_at hl 0 rfl) ?_
  refine lv_iload_n hx hb dX4_rowAt_2 rfl (lv_at hl 1 rfl) ?_
  refine kV_i (A := A) (b := am) (As := [.int x]) (rest := .ref am :: []) ⟨hx, hb, hml, hown, hts⟩ (mX4_isNoPlace (A := A) (xa := xa) (X := X) (P := P) (k := k)) (cwV 1 hts (gV tw_5_66 tw_5_68 sel_X4_isNoPlace tw_1_8 tw_5_69) rfl rfl rfl (by decide +kernel) ⟨Nat.le_of_ble_eq_true rfl, Nat.le_of_ble_eq_true rfl⟩) hC hS hA (hW.recv hK) ⟨ra, pa, tx, hW⟩ rfl rfl hl.1 (Nat.le_of_ble_eq_true rfl) ⟨Nat.zero_le _, Nat.zero_le _⟩ dX4_rowAt_3 (fun r_12 hr_12 => ?_)
  obtain ⟨r_12v, hr_12v, rfl⟩ := hr_12
  refine lv_iconst (v := nI 1) hx hb dX4_rowAt_6 (by decide) ?_
  cases r_12v
  · obtain ⟨a9, ha9, rfl⟩ : ∃ a9 : Nat, a9 < (X 11).length ∧ x = nI a9 := Classical.byContradiction (fun q => Bool.noConfusion (hr_12v.mpr q))
    refine qI_V (A := A) (A1 := A) (b := am) (As := [.int (bI false), .int (nI 1)]) (rest := []) ⟨hx, hb, hml, hown, hts⟩ (mX4_start (A := A) (X := X) (P := P) (k := k) (xa := xa) (b := false) (w9 := 1) (by decide)) (cwV 2 hts (gV tw_4_206 tw_4_208 sel_X4_start tw_1_8 tw_4_209) rfl rfl rfl (by decide +kernel) ⟨Nat.le_of_ble_eq_true rfl, Nat.le_of_ble_eq_true rfl⟩) hC hS (fun _ h => h) (fun q h => hA q (Nat.le_trans hS.1 h)) (hW.recv hK) ⟨ra, pa, tx, hW⟩ rfl rfl hl.1 (Nat.le_of_ble_eq_true rfl) ⟨Nat.zero_le _, Nat.zero_le _⟩ dX4_rowAt_7 (fun rv13 H13 L13 hP13 hk13 hS => ?_)
    have hZ13 := hS.1
    obtain ⟨hr13, hM13⟩ := hP13
    subst hr13
    obtain ⟨ra, pa, tx, hW⟩ := hM13
    have hW : MWx G A am xa ra pa tx X P k (nI 0) H13 := hW
    have hO := hW.obj
    have hAm := hW.1
    refine f_eq (tgt := 17) hx hb dX4_rowAt_10 (by decide) (fun c_14 => ?_) (fun c_14 => ?_)
    · have hR1 := hW.row.ia hC.2.1.2
      have x11 := hW.2.2.1 11 (Or.inr rfl)
      have r60 := x11.2
      refine lv_aload_n hx hb dX4_rowAt_17 rfl (lv_at hl 0 rfl) ?_
      refine va_get (D := G.1) (ci := 8) (C := RX4) (T := TX4) (N := 5) hx hb hts inX4 hown hK (at_P hO) 0 rfl rfl 2 (by decide) (hts _ tw_4_174) (fun _ h9 => h9) rfl dX4_rowAt_18 ?_
      refine lv_iload_n hx hb dX4_rowAt_21 rfl (lv_at hl 1 rfl) ?_
      refine h_ild hx hb hC.2.1 hR1 (i := a9) (by omega) (by omega) dX4_rowAt_22 ?_
      exact q_i hx hb hr hlocks dX4_rowAt_23 hS (Nat.le_refl _) (Nat.le_refl _) (Or.inr (⟨a9, ha9, rfl, rfl, ra, pa, tx, hW⟩))
    · exact absurd c_14 (by decide)
  · refine qI_V (A := A) (A1 := A) (b := am) (As := [.int (bI true), .int (nI 1)]) (rest := []) ⟨hx, hb, hml, hown, hts⟩ (mX4_start (A := A) (X := X) (P := P) (k := k) (xa := xa) (b := true) (w9 := 1) (by decide)) (cwV 2 hts (gV tw_4_206 tw_4_208 sel_X4_start tw_1_8 tw_4_209) rfl rfl rfl (by decide +kernel) ⟨Nat.le_of_ble_eq_true rfl, Nat.le_of_ble_eq_true rfl⟩) hC hS (fun _ h => h) (fun q h => hA q (Nat.le_trans hS.1 h)) (hW.recv hK) ⟨ra, pa, tx, hW⟩ rfl rfl hl.1 (Nat.le_of_ble_eq_true rfl) ⟨Nat.zero_le _, Nat.zero_le _⟩ dX4_rowAt_7 (fun rv15 H15 L15 hP15 hk15 hS => ?_)
    have hZ15 := hS.1
    obtain ⟨hr15, hM15⟩ := hP15
    subst hr15
    obtain ⟨ra, pa, tx, hW⟩ := hM15
    have hW : MWx G A am xa ra pa tx X P k (nI 1) H15 := hW
    have hO := hW.obj
    have hAm := hW.1
    refine f_eq (tgt := 17) hx hb dX4_rowAt_10 (by decide) (fun c_16 => ?_) (fun c_16 => ?_)
    · exact absurd c_16 (by decide)
    · refine lv_iconst (v := nI 0) hx hb dX4_rowAt_13 (by decide) ?_
      refine lv_goto (tgt := 23) hx hb dX4_rowAt_14 (by decide) ?_
      exact q_i hx hb hr hlocks dX4_rowAt_23 hS (Nat.le_refl _) (Nat.le_refl _) (Or.inl ⟨(hr_12v.mp rfl), rfl, ra, pa, tx, hW⟩)

abbrev rmX4_known : Room := { frames := 3, cells := 1, slots := 61, locals := 64 }
theorem mX4_known {l : Launch} {G : Cx} {A : Nat → Prop} {am xa : Nat} {X : Nat → List Nat} {P : List (List Nat)} {k : Int32} {x y th : Int32} : Met l yX4_known (.code yX4_known cX4_known 3 (some .int) :: GW) rmX4_known (PC G A [.ref am, .int x, .int y] (MW G A am xa X P k th)) (qI A (fun r H => ((NT x) ∧ r = 0 ∧ MW G A am xa X P k 1 H) ∨ (((∃ i : Nat, i < 4 ∧ x = nI i) ∧ NK y) ∧ r = 0 ∧ MW G A am xa X P k 2 H) ∨ ((∃ i j : Nat, i < 4 ∧ x = nI i ∧ j < 7 ∧ y = nI j ∧ 60 < (X i ++ knT j).length) ∧ r = 0 ∧ MW G A am xa X P k 3 H) ∨ ∃ i j : Nat, i < 4 ∧ x = nI i ∧ j < 7 ∧ y = nI j ∧ (X i ++ knT j).length ≤ 60 ∧ r = nI (X i ++ knT j).length ∧ MW G A am xa (updT X i (X i ++ knT j)) P k 0 H)) 1 61 (A) := by
  refine mstart "SigntextModel" (by decide +kernel) rfl (Nat.le_of_ble_eq_true rfl) ?_
  intro p e s m below meth c ls hx hb hr hts hown hml hlocks hname hC hA hW hl
  have hl : lv_has ls 3 [(0, .ref am), (1, .int x), (2, .int y)] := hl
  have hK := hC.1
  have hS : va_S A s.heap s.heap [] := va_S.rf
  obtain ⟨ra, pa, tx, hW⟩ := hW
  have hO := hW.obj
  have hAm := hW.1
  obtain ⟨-, -, zc3, zc4, zc5, zc6, zc7, -⟩ := hC.2.2.1
  refine lv_aload_n hx hb dX4_known_0 rfl (lv_at hl 0 rfl) ?_
  refine lv_iload_n hx hb dX4_known_1 rfl (lv_at hl 1 rfl) ?_
  refine kS_i (A := A) (As := [.int x]) (rest := .ref am :: []) ⟨hx, hb, hml, hown, hts⟩ (mX4_isNone (A := A) ) (va_cwS 1 hts (gS tw_4_203 tw_4_204 tw_1_8 tw_4_205) rfl rfl rfl (by decide +kernel) ⟨Nat.le_of_ble_eq_true rfl, Nat.le_of_ble_eq_true rfl⟩) hC hS hA  trivial rfl rfl hl.1 (Nat.le_of_ble_eq_true rfl) ⟨Nat.zero_le _, Nat.zero_le _⟩ dX4_known_2 (fun r_17 hr_17 => ?_)
  obtain ⟨r_17v, hr_17v, rfl⟩ := hr_17
  refine lv_iconst (v := nI 1) hx hb dX4_known_5 (by decide) ?_
  cases r_17v
  · obtain ⟨i, hi, rfl⟩ : ∃ i : Nat, i < 4 ∧ x = nI i := Classical.byContradiction (fun q => Bool.noConfusion (hr_17v.mpr q))
    refine qI_V (A := A) (A1 := A) (b := am) (As := [.int (bI false), .int (nI 1)]) (rest := []) ⟨hx, hb, hml, hown, hts⟩ (mX4_start (A := A) (X := X) (P := P) (k := k) (xa := xa) (b := false) (w9 := 1) (by decide)) (cwV 2 hts (gV tw_4_206 tw_4_208 sel_X4_start tw_1_8 tw_4_209) rfl rfl rfl (by decide +kernel) ⟨Nat.le_of_ble_eq_true rfl, Nat.le_of_ble_eq_true rfl⟩) hC hS (fun _ h => h) (fun q h => hA q (Nat.le_trans hS.1 h)) (hW.recv hK) ⟨ra, pa, tx, hW⟩ rfl rfl hl.1 (Nat.le_of_ble_eq_true rfl) ⟨Nat.zero_le _, Nat.zero_le _⟩ dX4_known_6 (fun rv18 H18 L18 hP18 hk18 hS => ?_)
    have hZ18 := hS.1
    obtain ⟨hr18, hM18⟩ := hP18
    subst hr18
    obtain ⟨ra, pa, tx, hW⟩ := hM18
    have hW : MWx G A am xa ra pa tx X P k (nI 0) H18 := hW
    have hO := hW.obj
    have hAm := hW.1
    refine f_ne (tgt := 56) hx hb dX4_known_9 (by decide) (fun c_19 => ?_) (fun c_19 => ?_)
    · exact absurd c_19 (by decide)
    · refine lv_aload_n hx hb dX4_known_12 rfl (lv_at hl 0 rfl) ?_
      refine lv_iload_n hx hb dX4_known_13 rfl (lv_at hl 2 rfl) ?_
      refine kS_i (A := A) (As := [.int y]) (rest := .ref am :: []) ⟨hx, hb, hml, hown, hts⟩ (mX4_isNoKnown (A := A) ) (va_cwS 1 hts (gS tw_5_53 tw_5_54 tw_1_8 tw_5_55) rfl rfl rfl (by decide +kernel) ⟨Nat.le_of_ble_eq_true rfl, Nat.le_of_ble_eq_true rfl⟩) hC hS hA  trivial rfl rfl hl.1 (Nat.le_of_ble_eq_true rfl) ⟨Nat.zero_le _, Nat.zero_le _⟩ dX4_known_14 (fun r_20 hr_20 => ?_)
      obtain ⟨r_20v, hr_20v, rfl⟩ := hr_20
      refine lv_iconst (v := nI 2) hx hb dX4_known_17 (by decide) ?_
      cases r_20v
      · obtain ⟨j, hj, rfl⟩ : ∃ j : Nat, j < 7 ∧ y = nI j := Classical.byContradiction (fun q => Bool.noConfusion (hr_20v.mpr q))
        refine qI_V (A := A) (A1 := A) (b := am) (As := [.int (bI false), .int (nI 2)]) (rest := []) ⟨hx, hb, hml, hown, hts⟩ (mX4_refuse (A := A) (X := X) (P := P) (k := k) (xa := xa) (b := false) (th := 0) (w9 := 2) (by decide) (by decide)) (cwV 2 hts (gV tw_4_210 tw_4_212 sel_X4_refuse tw_1_8 tw_4_213) rfl rfl rfl (by decide +kernel) ⟨Nat.le_of_ble_eq_true rfl, Nat.le_of_ble_eq_true rfl⟩) hC hS (fun _ h => h) (fun q h => hA q (Nat.le_trans hS.1 h)) (hW.recv hK) ⟨ra, pa, tx, hW⟩ rfl rfl hl.1 (Nat.le_of_ble_eq_true rfl) ⟨Nat.zero_le _, Nat.zero_le _⟩ dX4_known_18 (fun rv21 H21 L21 hP21 hk21 hS => ?_)
        have hZ21 := hS.1
        obtain ⟨hr21, hM21⟩ := hP21
        subst hr21
        obtain ⟨ra, pa, tx, hW⟩ := hM21
        have hW : MWx G A am xa ra pa tx X P k (nI 0) H21 := hW
        have hO := hW.obj
        have hAm := hW.1
        refine f_ne (tgt := 56) hx hb dX4_known_21 (by decide) (fun c_22 => ?_) (fun c_22 => ?_)
        · exact absurd c_22 (by decide)
        · refine lv_aload_n hx hb dX4_known_24 rfl (lv_at hl 0 rfl) ?_
          refine lv_aload_n hx hb dX4_known_25 rfl (lv_at hl 0 rfl) ?_
          refine va_get (D := G.1) (ci := 8) (C := RX4) (T := TX4) (N := 5) hx hb hts inX4 hown hK (at_P hO) 0 rfl rfl 1 (by decide) (hts _ tw_4_173) (fun _ h9 => h9) rfl dX4_known_26 ?_
          refine lv_iload_n hx hb dX4_known_29 rfl (lv_at hl 1 rfl) ?_
          refine h_aaldI (D := G.1) hx hb hK 4 hW.txs rfl (vp_in_nI (n := i) (N := 4) (by omega) (by omega)) dX4_known_30 ?_
          refine v_cv (show va_rf _ = .ref (tx i) from by rw [nI_clamp (n := i) (by omega)]; rfl) ?_
          have hTi := (hW.tx (j := i) (by omega)).ia hC.2.1.2
          have x60i := hW.2.2.1 i (Or.inl (by omega))
          have hKnj := (zc7 j hj).1.at' (hS.2.1 _ (zc7 j hj).1.lt (zc7 j hj).2)
          have k4j := knT_le (i := j) hj
          have i60 := x60i.2
          have la := List.length_append (as := X i) (bs := knT j)
          refine h_ilen hx hb hC.2.1 hTi dX4_known_31 ?_
          refine va_gets (v := .ref (G.2.2 2)) hx hb zc5 hS hown (hts _ tw_5_56) (fun _ h9 => h9) dX4_known_32 ?_
          refine lv_iload_n hx hb dX4_known_35 rfl (lv_at hl 2 rfl) ?_
          refine h_aaTI (v := .ref (G.2.2 (3 + j))) hx hb zc6 hS (vp_in_nI (n := j) (N := 7) (by omega) (by omega)) (by rw [nI_clamp (n := j) (by omega)]) dX4_known_36 ?_
          refine h_ilen hx hb hC.2.1 hKnj dX4_known_37 ?_
          refine lv_iadd hx hb dX4_known_38 ?_
          refine lv_cv (nI_add ((X i).length) ((knT j).length)) ?_
          refine lv_bipush (v := nI 60) hx hb dX4_known_39 (by decide) ?_
          refine b_le (tgt := 48) hx hb dX4_known_41 (by decide) (by omega) (by omega) (fun c_23 => ?_) (fun c_23 => ?_)
          · refine lv_iconst (v := nI 0) hx hb dX4_known_48 (by decide) ?_
            refine lv_iconst (v := nI 3) hx hb dX4_known_49 (by decide) ?_
            refine qI_V (A := A) (A1 := A) (b := am) (As := [.int (bI false), .int (nI 3)]) (rest := []) ⟨hx, hb, hml, hown, hts⟩ (mX4_refuse (A := A) (X := X) (P := P) (k := k) (xa := xa) (b := false) (th := 0) (w9 := 3) (by decide) (by decide)) (cwV 2 hts (gV tw_4_210 tw_4_212 sel_X4_refuse tw_1_8 tw_4_213) rfl rfl rfl (by decide +kernel) ⟨Nat.le_of_ble_eq_true rfl, Nat.le_of_ble_eq_true rfl⟩) hC hS (fun _ h => h) (fun q h => hA q (Nat.le_trans hS.1 h)) (hW.recv hK) ⟨ra, pa, tx, hW⟩ rfl rfl hl.1 (Nat.le_of_ble_eq_true rfl) ⟨Nat.zero_le _, Nat.zero_le _⟩ dX4_known_50 (fun rv24 H24 L24 hP24 hk24 hS => ?_)
            have hZ24 := hS.1
            obtain ⟨hr24, hM24⟩ := hP24
            subst hr24
            obtain ⟨ra, pa, tx, hW⟩ := hM24
            have hW : MWx G A am xa ra pa tx X P k (nI 0) H24 := hW
            have hO := hW.obj
            have hAm := hW.1
            refine f_eq (tgt := 58) hx hb dX4_known_53 (by decide) (fun c_25 => ?_) (fun c_25 => ?_)
            · refine lv_aload_n hx hb dX4_known_58 rfl (lv_at hl 0 rfl) ?_
              refine lv_iload_n hx hb dX4_known_59 rfl (lv_at hl 1 rfl) ?_
              refine lv_aload_n hx hb dX4_known_60 rfl (lv_at hl 0 rfl) ?_
              refine va_get (D := G.1) (ci := 8) (C := RX4) (T := TX4) (N := 5) hx hb hts inX4 hown hK (at_P hO) 0 rfl rfl 1 (by decide) (hts _ tw_4_173) (fun _ h9 => h9) rfl dX4_known_61 ?_
              refine lv_iload_n hx hb dX4_known_64 rfl (lv_at hl 1 rfl) ?_
              refine h_aaldI (D := G.1) hx hb hK 4 hW.txs rfl (vp_in_nI (n := i) (N := 4) (by omega) (by omega)) dX4_known_65 ?_
              refine v_cv (show va_rf _ = .ref (tx i) from by rw [nI_clamp (n := i) (by omega)]; rfl) ?_
              refine va_gets (v := .ref (G.2.2 2)) hx hb zc5 hS hown (hts _ tw_5_56) (fun _ h9 => h9) dX4_known_66 ?_
              refine lv_iload_n hx hb dX4_known_69 rfl (lv_at hl 2 rfl) ?_
              refine h_aaTI (v := .ref (G.2.2 (3 + j))) hx hb zc6 hS (vp_in_nI (n := j) (N := 7) (by omega) (by omega)) (by rw [nI_clamp (n := j) (by omega)]) dX4_known_70 ?_
              have hTi := (hW.tx (j := i) (by omega)).ia hC.2.1.2
              have x60i := hW.2.2.1 i (Or.inl (by omega))
              have hKnj := (zc7 j hj).1.at' (hS.2.1 _ (zc7 j hj).1.lt (zc7 j hj).2)
              have k4j := knT_le (i := j) hj
              have hra := hW.row.lt
              refine qR_S (A := A) (A1 := nw H24.size)  (As := [.ref (tx i), .ref (G.2.2 (3 + j))]) (rest := .int (nI i) :: .ref am :: []) ⟨hx, hb, hml, hown, hts⟩ (mX4_joined (A := nw H24.size) (sz := H24.size) (t := X i) (u := knT j) (by omega)) (va_cwS 2 hts (gS tw_4_200 tw_4_201 tw_1_8 tw_4_202) rfl rfl rfl (by decide +kernel) ⟨Nat.le_of_ble_eq_true rfl, Nat.le_of_ble_eq_true rfl⟩) hC hS (nw_in hA hS.1) nw_n  ⟨rfl, hTi, hKnj⟩ rfl rfl hl.1 (Nat.le_of_ble_eq_true rfl) ⟨Nat.le_trans (show 0 + 1 ≤ 1 by omega) (Nat.le_of_ble_eq_true rfl), Nat.le_trans (show 0 + 61 ≤ 61 by omega) (Nat.le_of_ble_eq_true rfl)⟩ dX4_known_71 (fun rv26 H26 L26 hP26 hk26 hS => ?_)
              have hZ26 := hS.1
              have hW := hW.nw hk26
              refine qI_V (A := A) (A1 := A) (b := am) (As := [.int (nI i), .ref rv26]) (rest := []) ⟨hx, hb, hml, hown, hts⟩ (mX4_become (A := A) (X := X) (P := P) (k := k) (xa := xa) (t := X i ++ knT j) hi ⟨okc_app x60i.1 k4j.2, by omega⟩) (cwV 2 hts (gV tw_4_214 tw_4_216 sel_X4_become tw_1_8 tw_4_217) rfl rfl rfl (by decide +kernel) ⟨Nat.le_of_ble_eq_true rfl, Nat.le_of_ble_eq_true rfl⟩) hC hS (fun _ h => h) (fun q h => hA q (Nat.le_trans hS.1 h)) (hW.recv hK) ⟨ra, pa, tx, hW, hP26.2, (by have := hP26.1; omega)⟩ rfl rfl hl.1 (Nat.le_of_ble_eq_true rfl) ⟨Nat.le_trans (show (0 + 1) ≤ 1 by omega) (Nat.le_of_ble_eq_true rfl), Nat.le_trans (show (0 + 61) ≤ 61 by omega) (Nat.le_of_ble_eq_true rfl)⟩ dX4_known_74 (fun rv27 H27 L27 hP27 hk27 hS => ?_)
              have hZ27 := hS.1
              exact q_i hx hb hr hlocks dX4_known_77 hS (by omega) (by omega) (Or.inr (Or.inr (Or.inr (⟨i, j, hi, rfl, hj, rfl, by omega, hP27.1, hP27.2⟩))))
            · exact absurd c_25 (by decide)
          · refine lv_iconst (v := nI 1) hx hb dX4_known_44 (by decide) ?_
            refine lv_goto (tgt := 49) hx hb dX4_known_45 (by decide) ?_
            refine lv_iconst (v := nI 3) hx hb dX4_known_49 (by decide) ?_
            refine qI_V (A := A) (A1 := A) (b := am) (As := [.int (bI true), .int (nI 3)]) (rest := []) ⟨hx, hb, hml, hown, hts⟩ (mX4_refuse (A := A) (X := X) (P := P) (k := k) (xa := xa) (b := true) (th := 0) (w9 := 3) (by decide) (by decide)) (cwV 2 hts (gV tw_4_210 tw_4_212 sel_X4_refuse tw_1_8 tw_4_213) rfl rfl rfl (by decide +kernel) ⟨Nat.le_of_ble_eq_true rfl, Nat.le_of_ble_eq_true rfl⟩) hC hS (fun _ h => h) (fun q h => hA q (Nat.le_trans hS.1 h)) (hW.recv hK) ⟨ra, pa, tx, hW⟩ rfl rfl hl.1 (Nat.le_of_ble_eq_true rfl) ⟨Nat.zero_le _, Nat.zero_le _⟩ dX4_known_50 (fun rv28 H28 L28 hP28 hk28 hS => ?_)
            have hZ28 := hS.1
            obtain ⟨hr28, hM28⟩ := hP28
            subst hr28
            obtain ⟨ra, pa, tx, hW⟩ := hM28
            have hW : MWx G A am xa ra pa tx X P k (nI 3) H28 := hW
            have hO := hW.obj
            have hAm := hW.1
            refine f_eq (tgt := 58) hx hb dX4_known_53 (by decide) (fun c_29 => ?_) (fun c_29 => ?_)
            · exact absurd c_29 (by decide)
            · refine lv_iconst (v := nI 0) hx hb dX4_known_56 (by decide) ?_
              exact q_i hx hb hr hlocks dX4_known_57 hS (by omega) (by omega) (Or.inr (Or.inr (Or.inl ⟨⟨i, j, hi, rfl, hj, rfl, by omega⟩, rfl, ra, pa, tx, hW⟩)))
      · refine qI_V (A := A) (A1 := A) (b := am) (As := [.int (bI true), .int (nI 2)]) (rest := []) ⟨hx, hb, hml, hown, hts⟩ (mX4_refuse (A := A) (X := X) (P := P) (k := k) (xa := xa) (b := true) (th := 0) (w9 := 2) (by decide) (by decide)) (cwV 2 hts (gV tw_4_210 tw_4_212 sel_X4_refuse tw_1_8 tw_4_213) rfl rfl rfl (by decide +kernel) ⟨Nat.le_of_ble_eq_true rfl, Nat.le_of_ble_eq_true rfl⟩) hC hS (fun _ h => h) (fun q h => hA q (Nat.le_trans hS.1 h)) (hW.recv hK) ⟨ra, pa, tx, hW⟩ rfl rfl hl.1 (Nat.le_of_ble_eq_true rfl) ⟨Nat.zero_le _, Nat.zero_le _⟩ dX4_known_18 (fun rv30 H30 L30 hP30 hk30 hS => ?_)
        have hZ30 := hS.1
        obtain ⟨hr30, hM30⟩ := hP30
        subst hr30
        obtain ⟨ra, pa, tx, hW⟩ := hM30
        have hW : MWx G A am xa ra pa tx X P k (nI 2) H30 := hW
        have hO := hW.obj
        have hAm := hW.1
        refine f_ne (tgt := 56) hx hb dX4_known_21 (by decide) (fun c_31 => ?_) (fun c_31 => ?_)
        · refine lv_iconst (v := nI 0) hx hb dX4_known_56 (by decide) ?_
          exact q_i hx hb hr hlocks dX4_known_57 hS (by omega) (by omega) (Or.inr (Or.inl ⟨⟨⟨i, hi, rfl⟩, (hr_20v.mp rfl)⟩, rfl, ra, pa, tx, hW⟩))
        · exact absurd c_31 (by decide)
  · refine qI_V (A := A) (A1 := A) (b := am) (As := [.int (bI true), .int (nI 1)]) (rest := []) ⟨hx, hb, hml, hown, hts⟩ (mX4_start (A := A) (X := X) (P := P) (k := k) (xa := xa) (b := true) (w9 := 1) (by decide)) (cwV 2 hts (gV tw_4_206 tw_4_208 sel_X4_start tw_1_8 tw_4_209) rfl rfl rfl (by decide +kernel) ⟨Nat.le_of_ble_eq_true rfl, Nat.le_of_ble_eq_true rfl⟩) hC hS (fun _ h => h) (fun q h => hA q (Nat.le_trans hS.1 h)) (hW.recv hK) ⟨ra, pa, tx, hW⟩ rfl rfl hl.1 (Nat.le_of_ble_eq_true rfl) ⟨Nat.zero_le _, Nat.zero_le _⟩ dX4_known_6 (fun rv32 H32 L32 hP32 hk32 hS => ?_)
    have hZ32 := hS.1
    obtain ⟨hr32, hM32⟩ := hP32
    subst hr32
    obtain ⟨ra, pa, tx, hW⟩ := hM32
    have hW : MWx G A am xa ra pa tx X P k (nI 1) H32 := hW
    have hO := hW.obj
    have hAm := hW.1
    refine f_ne (tgt := 56) hx hb dX4_known_9 (by decide) (fun c_33 => ?_) (fun c_33 => ?_)
    · refine lv_iconst (v := nI 0) hx hb dX4_known_56 (by decide) ?_
      exact q_i hx hb hr hlocks dX4_known_57 hS (by omega) (by omega) (Or.inl ⟨(hr_17v.mp rfl), rfl, ra, pa, tx, hW⟩)
    · exact absurd c_33 (by decide)

abbrev rmX4_ahead : Room := { frames := 3, cells := 2, slots := 62, locals := 64 }
theorem mX4_ahead {l : Launch} {G : Cx} {A : Nat → Prop} {am xa : Nat} {X : Nat → List Nat} {P : List (List Nat)} {k : Int32} {x y th : Int32} : Met l yX4_ahead (.code yX4_ahead cX4_ahead 3 (some .int) :: GW) rmX4_ahead (PC G A [.ref am, .int x, .int y] (MW G A am xa X P k th)) (qI A (fun r H => ((NT x) ∧ r = 0 ∧ MW G A am xa X P k 1 H) ∨ (((∃ i : Nat, i < 4 ∧ x = nI i) ∧ NS y) ∧ r = 0 ∧ MW G A am xa X P k 2 H) ∨ ((∃ i j : Nat, i < 4 ∧ x = nI i ∧ j < 24 ∧ y = nI j ∧ 60 < ([codeT.getD j 0] ++ X i).length) ∧ r = 0 ∧ MW G A am xa X P k 3 H) ∨ ∃ i j : Nat, i < 4 ∧ x = nI i ∧ j < 24 ∧ y = nI j ∧ ([codeT.getD j 0] ++ X i).length ≤ 60 ∧ r = nI ([codeT.getD j 0] ++ X i).length ∧ MW G A am xa (updT X i ([codeT.getD j 0] ++ X i)) P k 0 H)) 2 62 (A) := by
  refine mstart "SigntextModel" (by decide +kernel) rfl (Nat.le_of_ble_eq_true rfl) ?_
  intro p e s m below meth c ls hx hb hr hts hown hml hlocks hname hC hA hW hl
  have hl : lv_has ls 3 [(0, .ref am), (1, .int x), (2, .int y)] := hl
  have hK := hC.1
  have hS : va_S A s.heap s.heap [] := va_S.rf
  obtain ⟨ra, pa, tx, hW⟩ := hW
  have hO := hW.obj
  have hAm := hW.1
  obtain ⟨-, -, zc3, zc4, zc5, zc6, zc7, -⟩ := hC.2.2.1
  refine lv_aload_n hx hb dX4_ahead_0 rfl (lv_at hl 0 rfl) ?_
  refine lv_iload_n hx hb dX4_ahead_1 rfl (lv_at hl 1 rfl) ?_
  refine kS_i (A := A) (As := [.int x]) (rest := .ref am :: []) ⟨hx, hb, hml, hown, hts⟩ (mX4_isNone (A := A) ) (va_cwS 1 hts (gS tw_4_203 tw_4_204 tw_1_8 tw_4_205) rfl rfl rfl (by decide +kernel) ⟨Nat.le_of_ble_eq_true rfl, Nat.le_of_ble_eq_true rfl⟩) hC hS hA  trivial rfl rfl hl.1 (Nat.le_of_ble_eq_true rfl) ⟨Nat.zero_le _, Nat.zero_le _⟩ dX4_ahead_2 (fun r_34 hr_34 => ?_)
  obtain ⟨r_34v, hr_34v, rfl⟩ := hr_34
  refine lv_iconst (v := nI 1) hx hb dX4_ahead_5 (by decide) ?_
  cases r_34v
  · obtain ⟨i, hi, rfl⟩ : ∃ i : Nat, i < 4 ∧ x = nI i := Classical.byContradiction (fun q => Bool.noConfusion (hr_34v.mpr q))
    refine qI_V (A := A) (A1 := A) (b := am) (As := [.int (bI false), .int (nI 1)]) (rest := []) ⟨hx, hb, hml, hown, hts⟩ (mX4_start (A := A) (X := X) (P := P) (k := k) (xa := xa) (b := false) (w9 := 1) (by decide)) (cwV 2 hts (gV tw_4_206 tw_4_208 sel_X4_start tw_1_8 tw_4_209) rfl rfl rfl (by decide +kernel) ⟨Nat.le_of_ble_eq_true rfl, Nat.le_of_ble_eq_true rfl⟩) hC hS (fun _ h => h) (fun q h => hA q (Nat.le_trans hS.1 h)) (hW.recv hK) ⟨ra, pa, tx, hW⟩ rfl rfl hl.1 (Nat.le_of_ble_eq_true rfl) ⟨Nat.zero_le _, Nat.zero_le _⟩ dX4_ahead_6 (fun rv35 H35 L35 hP35 hk35 hS => ?_)
    have hZ35 := hS.1
    obtain ⟨hr35, hM35⟩ := hP35
    subst hr35
    obtain ⟨ra, pa, tx, hW⟩ := hM35
    have hW : MWx G A am xa ra pa tx X P k (nI 0) H35 := hW
    have hO := hW.obj
    have hAm := hW.1
    refine f_ne (tgt := 49) hx hb dX4_ahead_9 (by decide) (fun c_36 => ?_) (fun c_36 => ?_)
    · exact absurd c_36 (by decide)
    · refine lv_aload_n hx hb dX4_ahead_12 rfl (lv_at hl 0 rfl) ?_
      refine lv_iload_n hx hb dX4_ahead_13 rfl (lv_at hl 2 rfl) ?_
      refine kS_i (A := A) (As := [.int y]) (rest := .ref am :: []) ⟨hx, hb, hml, hown, hts⟩ (mX4_isNoSign (A := A) ) (va_cwS 1 hts (gS tw_4_192 tw_4_193 tw_1_8 tw_4_194) rfl rfl rfl (by decide +kernel) ⟨Nat.le_of_ble_eq_true rfl, Nat.le_of_ble_eq_true rfl⟩) hC hS hA  trivial rfl rfl hl.1 (Nat.le_of_ble_eq_true rfl) ⟨Nat.zero_le _, Nat.zero_le _⟩ dX4_ahead_14 (fun r_37 hr_37 => ?_)
      obtain ⟨r_37v, hr_37v, rfl⟩ := hr_37
      refine lv_iconst (v := nI 2) hx hb dX4_ahead_17 (by decide) ?_
      cases r_37v
      · obtain ⟨j, hj, rfl⟩ : ∃ j : Nat, j < 24 ∧ y = nI j := Classical.byContradiction (fun q => Bool.noConfusion (hr_37v.mpr q))
        refine qI_V (A := A) (A1 := A) (b := am) (As := [.int (bI false), .int (nI 2)]) (rest := []) ⟨hx, hb, hml, hown, hts⟩ (mX4_refuse (A := A) (X := X) (P := P) (k := k) (xa := xa) (b := false) (th := 0) (w9 := 2) (by decide) (by decide)) (cwV 2 hts (gV tw_4_210 tw_4_212 sel_X4_refuse tw_1_8 tw_4_213) rfl rfl rfl (by decide +kernel) ⟨Nat.le_of_ble_eq_true rfl, Nat.le_of_ble_eq_true rfl⟩) hC hS (fun _ h => h) (fun q h => hA q (Nat.le_trans hS.1 h)) (hW.recv hK) ⟨ra, pa, tx, hW⟩ rfl rfl hl.1 (Nat.le_of_ble_eq_true rfl) ⟨Nat.zero_le _, Nat.zero_le _⟩ dX4_ahead_18 (fun rv38 H38 L38 hP38 hk38 hS => ?_)
        have hZ38 := hS.1
        obtain ⟨hr38, hM38⟩ := hP38
        subst hr38
        obtain ⟨ra, pa, tx, hW⟩ := hM38
        have hW : MWx G A am xa ra pa tx X P k (nI 0) H38 := hW
        have hO := hW.obj
        have hAm := hW.1
        refine f_ne (tgt := 49) hx hb dX4_ahead_21 (by decide) (fun c_39 => ?_) (fun c_39 => ?_)
        · exact absurd c_39 (by decide)
        · refine lv_aload_n hx hb dX4_ahead_24 rfl (lv_at hl 0 rfl) ?_
          refine lv_aload_n hx hb dX4_ahead_25 rfl (lv_at hl 0 rfl) ?_
          refine va_get (D := G.1) (ci := 8) (C := RX4) (T := TX4) (N := 5) hx hb hts inX4 hown hK (at_P hO) 0 rfl rfl 1 (by decide) (hts _ tw_4_173) (fun _ h9 => h9) rfl dX4_ahead_26 ?_
          refine lv_iload_n hx hb dX4_ahead_29 rfl (lv_at hl 1 rfl) ?_
          refine h_aaldI (D := G.1) hx hb hK 4 hW.txs rfl (vp_in_nI (n := i) (N := 4) (by omega) (by omega)) dX4_ahead_30 ?_
          refine v_cv (show va_rf _ = .ref (tx i) from by rw [nI_clamp (n := i) (by omega)]; rfl) ?_
          have hTi := (hW.tx (j := i) (by omega)).ia hC.2.1.2
          have x60i := hW.2.2.1 i (Or.inl (by omega))
          have i60 := x60i.2
          have la : ([codeT.getD j 0] ++ X i).length = 1 + (X i).length := List.length_append
          refine h_ilen hx hb hC.2.1 hTi dX4_ahead_31 ?_
          refine lv_bipush (v := nI 60) hx hb dX4_ahead_32 (by decide) ?_
          refine b_ne (tgt := 41) hx hb dX4_ahead_34 (by decide) (by omega) (by omega) (fun c_40 => ?_) (fun c_40 => ?_)
          · refine lv_iconst (v := nI 0) hx hb dX4_ahead_41 (by decide) ?_
            refine lv_iconst (v := nI 3) hx hb dX4_ahead_42 (by decide) ?_
            refine qI_V (A := A) (A1 := A) (b := am) (As := [.int (bI false), .int (nI 3)]) (rest := []) ⟨hx, hb, hml, hown, hts⟩ (mX4_refuse (A := A) (X := X) (P := P) (k := k) (xa := xa) (b := false) (th := 0) (w9 := 3) (by decide) (by decide)) (cwV 2 hts (gV tw_4_210 tw_4_212 sel_X4_refuse tw_1_8 tw_4_213) rfl rfl rfl (by decide +kernel) ⟨Nat.le_of_ble_eq_true rfl, Nat.le_of_ble_eq_true rfl⟩) hC hS (fun _ h => h) (fun q h => hA q (Nat.le_trans hS.1 h)) (hW.recv hK) ⟨ra, pa, tx, hW⟩ rfl rfl hl.1 (Nat.le_of_ble_eq_true rfl) ⟨Nat.zero_le _, Nat.zero_le _⟩ dX4_ahead_43 (fun rv41 H41 L41 hP41 hk41 hS => ?_)
            have hZ41 := hS.1
            obtain ⟨hr41, hM41⟩ := hP41
            subst hr41
            obtain ⟨ra, pa, tx, hW⟩ := hM41
            have hW : MWx G A am xa ra pa tx X P k (nI 0) H41 := hW
            have hO := hW.obj
            have hAm := hW.1
            refine f_eq (tgt := 51) hx hb dX4_ahead_46 (by decide) (fun c_42 => ?_) (fun c_42 => ?_)
            · refine lv_aload_n hx hb dX4_ahead_51 rfl (lv_at hl 0 rfl) ?_
              refine lv_iload_n hx hb dX4_ahead_52 rfl (lv_at hl 1 rfl) ?_
              refine lv_iconst (v := nI 1) hx hb dX4_ahead_53 (by decide) ?_
              have hW0 := hW
              refine h_newa (D := G.1) (atype := .int) (N := 1) (z := (1, .inl (fun _ => 0))) hx hb (hts _ tw_1_70) rfl (fun h => h) hK 0 rfl hS rfl (nI_pos (by omega)) (nI_clamp (by omega)) (show 1 * _ ≤ _ from by show 1 * 4 ≤ 536870912; omega) (Nat.le_trans (show 0 + 1 ≤ 2 by omega) (Nat.le_of_ble_eq_true rfl)) (Nat.le_trans (show 0 + 1 ≤ 62 by omega) (Nat.le_of_ble_eq_true rfl)) dX4_ahead_54 (fun na H43 hna hFna z43 o43 hS => ?_)
              have hZ43 := hS.1
              have hMna : A na := hA na (by omega)
              refine lv_dup hx hb dX4_ahead_56 rfl ?_
              refine lv_iconst (v := nI 0) hx hb dX4_ahead_57 (by decide) ?_
              refine va_gets (v := .ref (G.2.2 1)) hx hb zc3 hS hown (hts _ tw_4_195) (fun _ h9 => h9) dX4_ahead_58 ?_
              refine lv_iload_n hx hb dX4_ahead_61 rfl (lv_at hl 2 rfl) ?_
              refine va_ti (v := .int (nI (codeT.getD j 0))) hx hb zc4 hS (vp_in_nI (n := j) (N := 24) (by omega) (by omega)) (by rw [nI_clamp (n := j) (by omega)]) dX4_ahead_62 ?_
              refine h_ist (D := G.1) hx hb hK 0 hFna rfl hS hMna (vp_in_nI (n := 0) (N := 1) (by omega) (by omega)) dX4_ahead_63 (fun H44 L44 hFna z44 o44 hS => ?_)
              rw [nI_clamp (n := 0) (by omega)] at hFna
              have hZ44 := hS.1
              have hk9 : kp (nw H41.size) H41 H44 := kp_new1 hna z43 o43 z44 o44
              have hN1 : IA0 G na [codeT.getD j 0] H44 := IA0.mk hFna rfl (fun q hq => by obtain rfl : q = 0 := (by omega); exact pk_us)
              have hW := hW0.nw hk9
              have hO := hW.obj
              have hAm := hW.1
              refine lv_aload_n hx hb dX4_ahead_64 rfl (lv_at hl 0 rfl) ?_
              refine va_get (D := G.1) (ci := 8) (C := RX4) (T := TX4) (N := 5) hx hb hts inX4 hown hK (at_P hO) 0 rfl rfl 1 (by decide) (hts _ tw_4_173) (fun _ h9 => h9) rfl dX4_ahead_65 ?_
              refine lv_iload_n hx hb dX4_ahead_68 rfl (lv_at hl 1 rfl) ?_
              refine h_aaldI (D := G.1) hx hb hK 4 hW.txs rfl (vp_in_nI (n := i) (N := 4) (by omega) (by omega)) dX4_ahead_69 ?_
              refine v_cv (show va_rf _ = .ref (tx i) from by rw [nI_clamp (n := i) (by omega)]; rfl) ?_
              have hTi := (hW.tx (j := i) (by omega)).ia hC.2.1.2
              have x60i := hW.2.2.1 i (Or.inl (by omega))
              have hra := hW.row.lt
              refine qR_S (A := A) (A1 := nw H44.size)  (As := [.ref na, .ref (tx i)]) (rest := .int (nI i) :: .ref am :: []) ⟨hx, hb, hml, hown, hts⟩ (mX4_joined (A := nw H44.size) (sz := H44.size) (t := [codeT.getD j 0]) (u := X i) (by show 1 + _ ≤ 61; omega)) (va_cwS 2 hts (gS tw_4_200 tw_4_201 tw_1_8 tw_4_202) rfl rfl rfl (by decide +kernel) ⟨Nat.le_of_ble_eq_true rfl, Nat.le_of_ble_eq_true rfl⟩) hC hS (nw_in hA hS.1) nw_n  ⟨rfl, (hN1.ia hC.2.1.2), hTi⟩ rfl rfl hl.1 (Nat.le_of_ble_eq_true rfl) ⟨Nat.le_trans (show (0 + 1) + 1 ≤ 2 by omega) (Nat.le_of_ble_eq_true rfl), Nat.le_trans (show (0 + 1) + 61 ≤ 62 by omega) (Nat.le_of_ble_eq_true rfl)⟩ dX4_ahead_70 (fun rv45 H45 L45 hP45 hk45 hS => ?_)
              have hZ45 := hS.1
              have hW := hW.nw hk45
              refine qI_V (A := A) (A1 := A) (b := am) (As := [.int (nI i), .ref rv45]) (rest := []) ⟨hx, hb, hml, hown, hts⟩ (mX4_become (A := A) (X := X) (P := P) (k := k) (xa := xa) (t := [codeT.getD j 0] ++ X i) hi ⟨okc_app (okc_one (codeT_lt j)) x60i.1, by omega⟩) (cwV 2 hts (gV tw_4_214 tw_4_216 sel_X4_become tw_1_8 tw_4_217) rfl rfl rfl (by decide +kernel) ⟨Nat.le_of_ble_eq_true rfl, Nat.le_of_ble_eq_true rfl⟩) hC hS (fun _ h => h) (fun q h => hA q (Nat.le_trans hS.1 h)) (hW.recv hK) ⟨ra, pa, tx, hW, hP45.2, (by have := hP45.1; omega)⟩ rfl rfl hl.1 (Nat.le_of_ble_eq_true rfl) ⟨Nat.le_trans (show ((0 + 1) + 1) ≤ 2 by omega) (Nat.le_of_ble_eq_true rfl), Nat.le_trans (show ((0 + 1) + 61) ≤ 62 by omega) (Nat.le_of_ble_eq_true rfl)⟩ dX4_ahead_73 (fun rv46 H46 L46 hP46 hk46 hS => ?_)
              have hZ46 := hS.1
              exact q_i hx hb hr hlocks dX4_ahead_76 hS (by omega) (by omega) (Or.inr (Or.inr (Or.inr (⟨i, j, hi, rfl, hj, rfl, by omega, hP46.1, hP46.2⟩))))
            · exact absurd c_42 (by decide)
          · refine lv_iconst (v := nI 1) hx hb dX4_ahead_37 (by decide) ?_
            refine lv_goto (tgt := 42) hx hb dX4_ahead_38 (by decide) ?_
            refine lv_iconst (v := nI 3) hx hb dX4_ahead_42 (by decide) ?_
            refine qI_V (A := A) (A1 := A) (b := am) (As := [.int (bI true), .int (nI 3)]) (rest := []) ⟨hx, hb, hml, hown, hts⟩ (mX4_refuse (A := A) (X := X) (P := P) (k := k) (xa := xa) (b := true) (th := 0) (w9 := 3) (by decide) (by decide)) (cwV 2 hts (gV tw_4_210 tw_4_212 sel_X4_refuse tw_1_8 tw_4_213) rfl rfl rfl (by decide +kernel) ⟨Nat.le_of_ble_eq_true rfl, Nat.le_of_ble_eq_true rfl⟩) hC hS (fun _ h => h) (fun q h => hA q (Nat.le_trans hS.1 h)) (hW.recv hK) ⟨ra, pa, tx, hW⟩ rfl rfl hl.1 (Nat.le_of_ble_eq_true rfl) ⟨Nat.zero_le _, Nat.zero_le _⟩ dX4_ahead_43 (fun rv47 H47 L47 hP47 hk47 hS => ?_)
            have hZ47 := hS.1
            obtain ⟨hr47, hM47⟩ := hP47
            subst hr47
            obtain ⟨ra, pa, tx, hW⟩ := hM47
            have hW : MWx G A am xa ra pa tx X P k (nI 3) H47 := hW
            have hO := hW.obj
            have hAm := hW.1
            refine f_eq (tgt := 51) hx hb dX4_ahead_46 (by decide) (fun c_48 => ?_) (fun c_48 => ?_)
            · exact absurd c_48 (by decide)
            · refine lv_iconst (v := nI 0) hx hb dX4_ahead_49 (by decide) ?_
              exact q_i hx hb hr hlocks dX4_ahead_50 hS (by omega) (by omega) (Or.inr (Or.inr (Or.inl ⟨⟨i, j, hi, rfl, hj, rfl, by omega⟩, rfl, ra, pa, tx, hW⟩)))
      · refine qI_V (A := A) (A1 := A) (b := am) (As := [.int (bI true), .int (nI 2)]) (rest := []) ⟨hx, hb, hml, hown, hts⟩ (mX4_refuse (A := A) (X := X) (P := P) (k := k) (xa := xa) (b := true) (th := 0) (w9 := 2) (by decide) (by decide)) (cwV 2 hts (gV tw_4_210 tw_4_212 sel_X4_refuse tw_1_8 tw_4_213) rfl rfl rfl (by decide +kernel) ⟨Nat.le_of_ble_eq_true rfl, Nat.le_of_ble_eq_true rfl⟩) hC hS (fun _ h => h) (fun q h => hA q (Nat.le_trans hS.1 h)) (hW.recv hK) ⟨ra, pa, tx, hW⟩ rfl rfl hl.1 (Nat.le_of_ble_eq_true rfl) ⟨Nat.zero_le _, Nat.zero_le _⟩ dX4_ahead_18 (fun rv49 H49 L49 hP49 hk49 hS => ?_)
        have hZ49 := hS.1
        obtain ⟨hr49, hM49⟩ := hP49
        subst hr49
        obtain ⟨ra, pa, tx, hW⟩ := hM49
        have hW : MWx G A am xa ra pa tx X P k (nI 2) H49 := hW
        have hO := hW.obj
        have hAm := hW.1
        refine f_ne (tgt := 49) hx hb dX4_ahead_21 (by decide) (fun c_50 => ?_) (fun c_50 => ?_)
        · refine lv_iconst (v := nI 0) hx hb dX4_ahead_49 (by decide) ?_
          exact q_i hx hb hr hlocks dX4_ahead_50 hS (by omega) (by omega) (Or.inr (Or.inl ⟨⟨⟨i, hi, rfl⟩, (hr_37v.mp rfl)⟩, rfl, ra, pa, tx, hW⟩))
        · exact absurd c_50 (by decide)
  · refine qI_V (A := A) (A1 := A) (b := am) (As := [.int (bI true), .int (nI 1)]) (rest := []) ⟨hx, hb, hml, hown, hts⟩ (mX4_start (A := A) (X := X) (P := P) (k := k) (xa := xa) (b := true) (w9 := 1) (by decide)) (cwV 2 hts (gV tw_4_206 tw_4_208 sel_X4_start tw_1_8 tw_4_209) rfl rfl rfl (by decide +kernel) ⟨Nat.le_of_ble_eq_true rfl, Nat.le_of_ble_eq_true rfl⟩) hC hS (fun _ h => h) (fun q h => hA q (Nat.le_trans hS.1 h)) (hW.recv hK) ⟨ra, pa, tx, hW⟩ rfl rfl hl.1 (Nat.le_of_ble_eq_true rfl) ⟨Nat.zero_le _, Nat.zero_le _⟩ dX4_ahead_6 (fun rv51 H51 L51 hP51 hk51 hS => ?_)
    have hZ51 := hS.1
    obtain ⟨hr51, hM51⟩ := hP51
    subst hr51
    obtain ⟨ra, pa, tx, hW⟩ := hM51
    have hW : MWx G A am xa ra pa tx X P k (nI 1) H51 := hW
    have hO := hW.obj
    have hAm := hW.1
    refine f_ne (tgt := 49) hx hb dX4_ahead_9 (by decide) (fun c_52 => ?_) (fun c_52 => ?_)
    · refine lv_iconst (v := nI 0) hx hb dX4_ahead_49 (by decide) ?_
      exact q_i hx hb hr hlocks dX4_ahead_50 hS (by omega) (by omega) (Or.inl ⟨(hr_34v.mp rfl), rfl, ra, pa, tx, hW⟩)
    · exact absurd c_52 (by decide)
end
/-! 48.mod12 -/
section
/-! The model, 12: parts of the row, texts so many times, a sign asked for -/
theorem okc_rep {t : List Nat} (h : okc t) (m : Nat) : okc (repL t m) := by
  induction m with
  | zero => exact okc_nil
  | succ m ih => exact okc_app ih h
theorem tbL_ge {b : Bool} {t : List Nat} (h : tbL b t < t.length) : goesN b (t.getD (tbL b t) 0) = false := by
  induction t with
  | nil => exact absurd h (Nat.not_lt_zero _)
  | cons c t ih =>
    unfold tbL at h ⊢
    split
    · next q =>
      rw [if_pos q] at h
      rw [List.getD_cons_succ]; exact ih (by simpa using h)
    · next q => rw [List.getD_cons_zero]; cases e : goesN b c with
      | false => rfl
      | true => exact absurd e q
theorem tbL_all {b : Bool} {t : List Nat} {e9 : Nat} (h : isTe b t e9) (he : e9 = tbL b t) : tbL b t = t.length := by
  have h1 := tbL_le b t
  rcases Nat.lt_or_ge (tbL b t) t.length with q | q
  · have h2 := h.2.2.1 (tbL b t) (by omega) q
    rw [tbL_ge q] at h2; cases h2
  · omega
theorem dX4_times_0 : decode cX4_times 0 = .ok (.aload_n 0, 1) := by decide +kernel
theorem dX4_times_1 : decode cX4_times 1 = .ok (.iload_n 1, 1) := by decide +kernel
theorem dX4_times_2 : decode cX4_times 2 = .ok (.invokestatic 107, 3) := by decide +kernel
theorem dX4_times_5 : decode cX4_times 5 = .ok (.ifCond .ne 10, 3) := by decide +kernel
theorem dX4_times_8 : decode cX4_times 8 = .ok (.iload_n 3, 1) := by decide +kernel
theorem dX4_times_9 : decode cX4_times 9 = .ok (.invokestatic 107, 3) := by decide +kernel
theorem dX4_times_12 : decode cX4_times 12 = .ok (.ifCond .eq 7, 3) := by decide +kernel
theorem dX4_times_15 : decode cX4_times 15 = .ok (.iconst 1, 1) := by decide +kernel
theorem dX4_times_16 : decode cX4_times 16 = .ok (.goto 4, 3) := by decide +kernel
theorem dX4_times_19 : decode cX4_times 19 = .ok (.iconst 0, 1) := by decide +kernel
theorem dX4_times_20 : decode cX4_times 20 = .ok (.iconst 1, 1) := by decide +kernel
theorem dX4_times_21 : decode cX4_times 21 = .ok (.invokevirtual 110, 3) := by decide +kernel
theorem dX4_times_24 : decode cX4_times 24 = .ok (.ifCond .ne 53, 3) := by decide +kernel
theorem dX4_times_27 : decode cX4_times 27 = .ok (.aload_n 0, 1) := by decide +kernel
theorem dX4_times_28 : decode cX4_times 28 = .ok (.iload_n 2, 1) := by decide +kernel
theorem dX4_times_29 : decode cX4_times 29 = .ok (.iconst 0, 1) := by decide +kernel
theorem dX4_times_30 : decode cX4_times 30 = .ok (.bipush 60, 2) := by decide +kernel
theorem dX4_times_32 : decode cX4_times 32 = .ok (.invokestatic 90, 3) := by decide +kernel
theorem dX4_times_35 : decode cX4_times 35 = .ok (.ifCond .ne 7, 3) := by decide +kernel
theorem dX4_times_38 : decode cX4_times 38 = .ok (.iconst 1, 1) := by decide +kernel
theorem dX4_times_39 : decode cX4_times 39 = .ok (.goto 4, 3) := by decide +kernel
theorem dX4_times_42 : decode cX4_times 42 = .ok (.iconst 0, 1) := by decide +kernel
theorem dX4_times_43 : decode cX4_times 43 = .ok (.iconst 2, 1) := by decide +kernel
theorem dX4_times_44 : decode cX4_times 44 = .ok (.invokevirtual 86, 3) := by decide +kernel
theorem dX4_times_47 : decode cX4_times 47 = .ok (.ifCond .ne 30, 3) := by decide +kernel
theorem dX4_times_50 : decode cX4_times 50 = .ok (.aload_n 0, 1) := by decide +kernel
theorem dX4_times_51 : decode cX4_times 51 = .ok (.aload_n 0, 1) := by decide +kernel
theorem dX4_times_52 : decode cX4_times 52 = .ok (.getfield 72, 3) := by decide +kernel
theorem dX4_times_55 : decode cX4_times 55 = .ok (.iload_n 1, 1) := by decide +kernel
theorem dX4_times_56 : decode cX4_times 56 = .ok (.aaload, 1) := by decide +kernel
theorem dX4_times_57 : decode cX4_times 57 = .ok (.arraylength, 1) := by decide +kernel
theorem dX4_times_58 : decode cX4_times 58 = .ok (.iload_n 2, 1) := by decide +kernel
theorem dX4_times_59 : decode cX4_times 59 = .ok (.imul, 1) := by decide +kernel
theorem dX4_times_60 : decode cX4_times 60 = .ok (.bipush 60, 2) := by decide +kernel
theorem dX4_times_62 : decode cX4_times 62 = .ok (.if_icmp .le 7, 3) := by decide +kernel
theorem dX4_times_65 : decode cX4_times 65 = .ok (.iconst 1, 1) := by decide +kernel
theorem dX4_times_66 : decode cX4_times 66 = .ok (.goto 4, 3) := by decide +kernel
theorem dX4_times_69 : decode cX4_times 69 = .ok (.iconst 0, 1) := by decide +kernel
theorem dX4_times_70 : decode cX4_times 70 = .ok (.iconst 3, 1) := by decide +kernel
theorem dX4_times_71 : decode cX4_times 71 = .ok (.invokevirtual 86, 3) := by decide +kernel
theorem dX4_times_74 : decode cX4_times 74 = .ok (.ifCond .eq 5, 3) := by decide +kernel
theorem dX4_times_77 : decode cX4_times 77 = .ok (.iconst 0, 1) := by decide +kernel
theorem dX4_times_78 : decode cX4_times 78 = .ok (.ireturn, 1) := by decide +kernel
theorem dX4_times_79 : decode cX4_times 79 = .ok (.iconst 0, 1) := by decide +kernel
theorem dX4_times_80 : decode cX4_times 80 = .ok (.newarray .int, 2) := by decide +kernel
theorem dX4_times_82 : decode cX4_times 82 = .ok (.astore 4, 2) := by decide +kernel
theorem dX4_times_84 : decode cX4_times 84 = .ok (.iconst 0, 1) := by decide +kernel
theorem dX4_times_85 : decode cX4_times 85 = .ok (.istore 5, 2) := by decide +kernel
theorem dX4_times_87 : decode cX4_times 87 = .ok (.iload 5, 2) := by decide +kernel
theorem dX4_times_89 : decode cX4_times 89 = .ok (.iload_n 2, 1) := by decide +kernel
theorem dX4_times_90 : decode cX4_times 90 = .ok (.if_icmp .ge 22, 3) := by decide +kernel
theorem dX4_times_93 : decode cX4_times 93 = .ok (.aload 4, 2) := by decide +kernel
theorem dX4_times_95 : decode cX4_times 95 = .ok (.aload_n 0, 1) := by decide +kernel
theorem dX4_times_96 : decode cX4_times 96 = .ok (.getfield 72, 3) := by decide +kernel
theorem dX4_times_99 : decode cX4_times 99 = .ok (.iload_n 1, 1) := by decide +kernel
theorem dX4_times_100 : decode cX4_times 100 = .ok (.aaload, 1) := by decide +kernel
theorem dX4_times_101 : decode cX4_times 101 = .ok (.invokestatic 103, 3) := by decide +kernel
theorem dX4_times_104 : decode cX4_times 104 = .ok (.astore 4, 2) := by decide +kernel
theorem dX4_times_106 : decode cX4_times 106 = .ok (.iinc 5 1, 3) := by decide +kernel
theorem dX4_times_109 : decode cX4_times 109 = .ok (.goto (-22), 3) := by decide +kernel
theorem dX4_times_112 : decode cX4_times 112 = .ok (.aload_n 0, 1) := by decide +kernel
theorem dX4_times_113 : decode cX4_times 113 = .ok (.iload_n 3, 1) := by decide +kernel
theorem dX4_times_114 : decode cX4_times 114 = .ok (.aload 4, 2) := by decide +kernel
theorem dX4_times_116 : decode cX4_times 116 = .ok (.invokevirtual 113, 3) := by decide +kernel
theorem dX4_times_119 : decode cX4_times 119 = .ok (.ireturn, 1) := by decide +kernel
theorem dX4_takePart_0 : decode cX4_takePart 0 = .ok (.aload_n 0, 1) := by decide +kernel
theorem dX4_takePart_1 : decode cX4_takePart 1 = .ok (.iload_n 1, 1) := by decide +kernel
theorem dX4_takePart_2 : decode cX4_takePart 2 = .ok (.invokestatic 107, 3) := by decide +kernel
theorem dX4_takePart_5 : decode cX4_takePart 5 = .ok (.ifCond .ne 26, 3) := by decide +kernel
theorem dX4_takePart_8 : decode cX4_takePart 8 = .ok (.iload_n 2, 1) := by decide +kernel
theorem dX4_takePart_9 : decode cX4_takePart 9 = .ok (.ifCond .lt 22, 3) := by decide +kernel
theorem dX4_takePart_12 : decode cX4_takePart 12 = .ok (.iload_n 3, 1) := by decide +kernel
theorem dX4_takePart_13 : decode cX4_takePart 13 = .ok (.ifCond .lt 18, 3) := by decide +kernel
theorem dX4_takePart_16 : decode cX4_takePart 16 = .ok (.iload_n 2, 1) := by decide +kernel
theorem dX4_takePart_17 : decode cX4_takePart 17 = .ok (.i2l, 1) := by decide +kernel
theorem dX4_takePart_18 : decode cX4_takePart 18 = .ok (.iload_n 3, 1) := by decide +kernel
theorem dX4_takePart_19 : decode cX4_takePart 19 = .ok (.i2l, 1) := by decide +kernel
theorem dX4_takePart_20 : decode cX4_takePart 20 = .ok (.ladd, 1) := by decide +kernel
theorem dX4_takePart_21 : decode cX4_takePart 21 = .ok (.aload_n 0, 1) := by decide +kernel
theorem dX4_takePart_22 : decode cX4_takePart 22 = .ok (.getfield 75, 3) := by decide +kernel
theorem dX4_takePart_25 : decode cX4_takePart 25 = .ok (.arraylength, 1) := by decide +kernel
theorem dX4_takePart_26 : decode cX4_takePart 26 = .ok (.i2l, 1) := by decide +kernel
theorem dX4_takePart_27 : decode cX4_takePart 27 = .ok (.lcmp, 1) := by decide +kernel
theorem dX4_takePart_28 : decode cX4_takePart 28 = .ok (.ifCond .le 7, 3) := by decide +kernel
theorem dX4_takePart_31 : decode cX4_takePart 31 = .ok (.iconst 1, 1) := by decide +kernel
theorem dX4_takePart_32 : decode cX4_takePart 32 = .ok (.goto 4, 3) := by decide +kernel
theorem dX4_takePart_35 : decode cX4_takePart 35 = .ok (.iconst 0, 1) := by decide +kernel
theorem dX4_takePart_36 : decode cX4_takePart 36 = .ok (.iconst 1, 1) := by decide +kernel
theorem dX4_takePart_37 : decode cX4_takePart 37 = .ok (.invokevirtual 110, 3) := by decide +kernel
theorem dX4_takePart_40 : decode cX4_takePart 40 = .ok (.ifCond .eq 7, 3) := by decide +kernel
theorem dX4_takePart_43 : decode cX4_takePart 43 = .ok (.iconst 0, 1) := by decide +kernel
theorem dX4_takePart_44 : decode cX4_takePart 44 = .ok (.goto 19, 3) := by decide +kernel
theorem dX4_takePart_47 : decode cX4_takePart 47 = .ok (.aload_n 0, 1) := by decide +kernel
theorem dX4_takePart_48 : decode cX4_takePart 48 = .ok (.iload_n 1, 1) := by decide +kernel
theorem dX4_takePart_49 : decode cX4_takePart 49 = .ok (.aload_n 0, 1) := by decide +kernel
theorem dX4_takePart_50 : decode cX4_takePart 50 = .ok (.getfield 75, 3) := by decide +kernel
theorem dX4_takePart_53 : decode cX4_takePart 53 = .ok (.iload_n 2, 1) := by decide +kernel
theorem dX4_takePart_54 : decode cX4_takePart 54 = .ok (.iload_n 2, 1) := by decide +kernel
theorem dX4_takePart_55 : decode cX4_takePart 55 = .ok (.iload_n 3, 1) := by decide +kernel
theorem dX4_takePart_56 : decode cX4_takePart 56 = .ok (.iadd, 1) := by decide +kernel
theorem dX4_takePart_57 : decode cX4_takePart 57 = .ok (.invokestatic 31, 3) := by decide +kernel
theorem dX4_takePart_60 : decode cX4_takePart 60 = .ok (.invokevirtual 113, 3) := by decide +kernel
theorem dX4_takePart_63 : decode cX4_takePart 63 = .ok (.ireturn, 1) := by decide +kernel
theorem dX4_at_0 : decode cX4_at 0 = .ok (.aload_n 0, 1) := by decide +kernel
theorem dX4_at_1 : decode cX4_at 1 = .ok (.iload_n 1, 1) := by decide +kernel
theorem dX4_at_2 : decode cX4_at 2 = .ok (.invokestatic 107, 3) := by decide +kernel
theorem dX4_at_5 : decode cX4_at 5 = .ok (.iconst 1, 1) := by decide +kernel
theorem dX4_at_6 : decode cX4_at 6 = .ok (.invokevirtual 110, 3) := by decide +kernel
theorem dX4_at_9 : decode cX4_at 9 = .ok (.ifCond .ne 33, 3) := by decide +kernel
theorem dX4_at_12 : decode cX4_at 12 = .ok (.aload_n 0, 1) := by decide +kernel
theorem dX4_at_13 : decode cX4_at 13 = .ok (.iload_n 2, 1) := by decide +kernel
theorem dX4_at_14 : decode cX4_at 14 = .ok (.iconst 0, 1) := by decide +kernel
theorem dX4_at_15 : decode cX4_at 15 = .ok (.aload_n 0, 1) := by decide +kernel
theorem dX4_at_16 : decode cX4_at 16 = .ok (.getfield 72, 3) := by decide +kernel
theorem dX4_at_19 : decode cX4_at 19 = .ok (.iload_n 1, 1) := by decide +kernel
theorem dX4_at_20 : decode cX4_at 20 = .ok (.aaload, 1) := by decide +kernel
theorem dX4_at_21 : decode cX4_at 21 = .ok (.arraylength, 1) := by decide +kernel
theorem dX4_at_22 : decode cX4_at 22 = .ok (.iconst 1, 1) := by decide +kernel
theorem dX4_at_23 : decode cX4_at 23 = .ok (.isub, 1) := by decide +kernel
theorem dX4_at_24 : decode cX4_at 24 = .ok (.invokestatic 90, 3) := by decide +kernel
theorem dX4_at_27 : decode cX4_at 27 = .ok (.ifCond .ne 7, 3) := by decide +kernel
theorem dX4_at_30 : decode cX4_at 30 = .ok (.iconst 1, 1) := by decide +kernel
theorem dX4_at_31 : decode cX4_at 31 = .ok (.goto 4, 3) := by decide +kernel
theorem dX4_at_34 : decode cX4_at 34 = .ok (.iconst 0, 1) := by decide +kernel
theorem dX4_at_35 : decode cX4_at 35 = .ok (.iconst 1, 1) := by decide +kernel
theorem dX4_at_36 : decode cX4_at 36 = .ok (.invokevirtual 86, 3) := by decide +kernel
theorem dX4_at_39 : decode cX4_at 39 = .ok (.ifCond .eq 7, 3) := by decide +kernel
theorem dX4_at_42 : decode cX4_at 42 = .ok (.iconst 0, 1) := by decide +kernel
theorem dX4_at_43 : decode cX4_at 43 = .ok (.goto 11, 3) := by decide +kernel
theorem dX4_at_46 : decode cX4_at 46 = .ok (.aload_n 0, 1) := by decide +kernel
theorem dX4_at_47 : decode cX4_at 47 = .ok (.getfield 72, 3) := by decide +kernel
theorem dX4_at_50 : decode cX4_at 50 = .ok (.iload_n 1, 1) := by decide +kernel
theorem dX4_at_51 : decode cX4_at 51 = .ok (.aaload, 1) := by decide +kernel
theorem dX4_at_52 : decode cX4_at 52 = .ok (.iload_n 2, 1) := by decide +kernel
theorem dX4_at_53 : decode cX4_at 53 = .ok (.iaload, 1) := by decide +kernel
theorem dX4_at_54 : decode cX4_at 54 = .ok (.ireturn, 1) := by decide +kernel
theorem dX4_isBlank_0 : decode cX4_isBlank 0 = .ok (.aload_n 0, 1) := by decide +kernel
theorem dX4_isBlank_1 : decode cX4_isBlank 1 = .ok (.iload_n 1, 1) := by decide +kernel
theorem dX4_isBlank_2 : decode cX4_isBlank 2 = .ok (.invokestatic 107, 3) := by decide +kernel
theorem dX4_isBlank_5 : decode cX4_isBlank 5 = .ok (.iconst 1, 1) := by decide +kernel
theorem dX4_isBlank_6 : decode cX4_isBlank 6 = .ok (.invokevirtual 110, 3) := by decide +kernel
theorem dX4_isBlank_9 : decode cX4_isBlank 9 = .ok (.ifCond .ne 21, 3) := by decide +kernel
theorem dX4_isBlank_12 : decode cX4_isBlank 12 = .ok (.aload_n 0, 1) := by decide +kernel
theorem dX4_isBlank_13 : decode cX4_isBlank 13 = .ok (.getfield 72, 3) := by decide +kernel
theorem dX4_isBlank_16 : decode cX4_isBlank 16 = .ok (.iload_n 1, 1) := by decide +kernel
theorem dX4_isBlank_17 : decode cX4_isBlank 17 = .ok (.aaload, 1) := by decide +kernel
theorem dX4_isBlank_18 : decode cX4_isBlank 18 = .ok (.iconst 1, 1) := by decide +kernel
theorem dX4_isBlank_19 : decode cX4_isBlank 19 = .ok (.invokestatic 117, 3) := by decide +kernel
theorem dX4_isBlank_22 : decode cX4_isBlank 22 = .ok (.arraylength, 1) := by decide +kernel
theorem dX4_isBlank_23 : decode cX4_isBlank 23 = .ok (.ifCond .ne 7, 3) := by decide +kernel
theorem dX4_isBlank_26 : decode cX4_isBlank 26 = .ok (.iconst 1, 1) := by decide +kernel
theorem dX4_isBlank_27 : decode cX4_isBlank 27 = .ok (.goto 4, 3) := by decide +kernel
theorem dX4_isBlank_30 : decode cX4_isBlank 30 = .ok (.iconst 0, 1) := by decide +kernel
theorem dX4_isBlank_31 : decode cX4_isBlank 31 = .ok (.ireturn, 1) := by decide +kernel
abbrev rmX4_takePart : Room := { frames := 3, cells := 1, slots := 61, locals := 64 }
theorem mX4_takePart {l : Launch} {G : Cx} {A : Nat → Prop} {am xa : Nat} {X : Nat → List Nat} {P : List (List Nat)} {k : Int32} {x f9 m9 th : Int32} : Met l yX4_takePart (.code yX4_takePart cX4_takePart 4 (some .int) :: GW) rmX4_takePart (PC G A [.ref am, .int x, .int f9, .int m9] (MW G A am xa X P k th)) (qI A (fun r H => ((NT x ∨ ¬ (∃ a9 b9 : Nat, f9 = nI a9 ∧ m9 = nI b9 ∧ a9 + b9 ≤ (X 11).length)) ∧ r = 0 ∧ MW G A am xa X P k 1 H) ∨ ∃ i a9 b9 : Nat, i < 4 ∧ x = nI i ∧ f9 = nI a9 ∧ m9 = nI b9 ∧ a9 + b9 ≤ (X 11).length ∧ r = nI (cutL (X 11) a9 (a9 + b9)).length ∧ MW G A am xa (updT X i (cutL (X 11) a9 (a9 + b9))) P k 0 H)) 1 61 (A) := by
  refine mstart "SigntextModel" (by decide +kernel) rfl (Nat.le_of_ble_eq_true rfl) ?_
  intro p e s m below meth c ls hx hb hr hts hown hml hlocks hname hC hA hW hl
  have hl : lv_has ls 4 [(0, .ref am), (1, .int x), (2, .int f9), (3, .int m9)] := hl
  have hK := hC.1
  have hS : va_S A s.heap s.heap [] := va_S.rf
  obtain ⟨ra, pa, tx, hW⟩ := hW
  have hO := hW.obj
  have hAm := hW.1
  refine lv_aload_n hx hb dX4_takePart_0 rfl (lv_at hl 0 rfl) ?_
  refine lv_iload_n hx hb dX4_takePart_1 rfl (lv_at hl 1 rfl) ?_
  refine kS_i (A := A) (As := [.int x]) (rest := .ref am :: []) ⟨hx, hb, hml, hown, hts⟩ (mX4_isNone (A := A) ) (va_cwS 1 hts (gS tw_4_203 tw_4_204 tw_1_8 tw_4_205) rfl rfl rfl (by decide +kernel) ⟨Nat.le_of_ble_eq_true rfl, Nat.le_of_ble_eq_true rfl⟩) hC hS hA  trivial rfl rfl hl.1 (Nat.le_of_ble_eq_true rfl) ⟨Nat.zero_le _, Nat.zero_le _⟩ dX4_takePart_2 (fun r_1 hr_1 => ?_)
  obtain ⟨r_1v, hr_1v, rfl⟩ := hr_1
  refine f_ne (tgt := 31) hx hb dX4_takePart_5 (by decide) (fun c_2 => ?_) (fun c_2 => ?_)
  · refine lv_iconst (v := nI 1) hx hb dX4_takePart_31 (by decide) ?_
    refine lv_goto (tgt := 36) hx hb dX4_takePart_32 (by decide) ?_
    refine lv_iconst (v := nI 1) hx hb dX4_takePart_36 (by decide) ?_
    refine qI_V (A := A) (A1 := A) (b := am) (As := [.int (bI true), .int (nI 1)]) (rest := []) ⟨hx, hb, hml, hown, hts⟩ (mX4_start (A := A) (X := X) (P := P) (k := k) (xa := xa) (b := true) (w9 := 1) (by decide)) (cwV 2 hts (gV tw_4_206 tw_4_208 sel_X4_start tw_1_8 tw_4_209) rfl rfl rfl (by decide +kernel) ⟨Nat.le_of_ble_eq_true rfl, Nat.le_of_ble_eq_true rfl⟩) hC hS (fun _ h => h) (fun q h => hA q (Nat.le_trans hS.1 h)) (hW.recv hK) ⟨ra, pa, tx, hW⟩ rfl rfl hl.1 (Nat.le_of_ble_eq_true rfl) ⟨Nat.zero_le _, Nat.zero_le _⟩ dX4_takePart_37 (fun rv3 H3 L3 hP3 hk3 hS => ?_)
    have hZ3 := hS.1
    obtain ⟨hr3, hM3⟩ := hP3
    subst hr3
    obtain ⟨ra, pa, tx, hW⟩ := hM3
    have hW : MWx G A am xa ra pa tx X P k (nI 1) H3 := hW
    have hO := hW.obj
    have hAm := hW.1
    refine f_eq (tgt := 47) hx hb dX4_takePart_40 (by decide) (fun c_4 => ?_) (fun c_4 => ?_)
    · exact absurd c_4 (by decide)
    · refine lv_iconst (v := nI 0) hx hb dX4_takePart_43 (by decide) ?_
      refine lv_goto (tgt := 63) hx hb dX4_takePart_44 (by decide) ?_
      exact q_i hx hb hr hlocks dX4_takePart_63 hS (by omega) (by omega) (Or.inl ⟨(Or.inl (hr_1v.mp c_2)), rfl, ra, pa, tx, hW⟩)
  · obtain ⟨i, hi, rfl⟩ : ∃ i : Nat, i < 4 ∧ x = nI i := Classical.byContradiction (fun q => absurd (hr_1v.mpr q) (by rw [c_2]; decide))
    have x11 := hW.2.2.1 11 (Or.inr rfl)
    have r60 := x11.2
    refine lv_iload_n hx hb dX4_takePart_8 rfl (lv_at hl 2 rfl) ?_
    refine lv_if_lt (tgt := 31) hx hb dX4_takePart_9 (by decide) (fun c_5 => ?_) (fun c_5 => ?_)
    · refine lv_iconst (v := nI 1) hx hb dX4_takePart_31 (by decide) ?_
      refine lv_goto (tgt := 36) hx hb dX4_takePart_32 (by decide) ?_
      refine lv_iconst (v := nI 1) hx hb dX4_takePart_36 (by decide) ?_
      refine qI_V (A := A) (A1 := A) (b := am) (As := [.int (bI true), .int (nI 1)]) (rest := []) ⟨hx, hb, hml, hown, hts⟩ (mX4_start (A := A) (X := X) (P := P) (k := k) (xa := xa) (b := true) (w9 := 1) (by decide)) (cwV 2 hts (gV tw_4_206 tw_4_208 sel_X4_start tw_1_8 tw_4_209) rfl rfl rfl (by decide +kernel) ⟨Nat.le_of_ble_eq_true rfl, Nat.le_of_ble_eq_true rfl⟩) hC hS (fun _ h => h) (fun q h => hA q (Nat.le_trans hS.1 h)) (hW.recv hK) ⟨ra, pa, tx, hW⟩ rfl rfl hl.1 (Nat.le_of_ble_eq_true rfl) ⟨Nat.zero_le _, Nat.zero_le _⟩ dX4_takePart_37 (fun rv6 H6 L6 hP6 hk6 hS => ?_)
      have hZ6 := hS.1
      obtain ⟨hr6, hM6⟩ := hP6
      subst hr6
      obtain ⟨ra, pa, tx, hW⟩ := hM6
      have hW : MWx G A am xa ra pa tx X P k (nI 1) H6 := hW
      have hO := hW.obj
      have hAm := hW.1
      refine f_eq (tgt := 47) hx hb dX4_takePart_40 (by decide) (fun c_7 => ?_) (fun c_7 => ?_)
      · exact absurd c_7 (by decide)
      · refine lv_iconst (v := nI 0) hx hb dX4_takePart_43 (by decide) ?_
        refine lv_goto (tgt := 63) hx hb dX4_takePart_44 (by decide) ?_
        exact q_i hx hb hr hlocks dX4_takePart_63 hS (by omega) (by omega) (Or.inl ⟨(Or.inr (fun ⟨a0, b0, w3, w4, w6⟩ => by rw [w3] at c_5; exact nI_pos (by omega) c_5)), rfl, ra, pa, tx, hW⟩)
    · obtain ⟨a9, ha31, rfl⟩ := nI_of c_5
      refine lv_iload_n hx hb dX4_takePart_12 rfl (lv_at hl 3 rfl) ?_
      refine lv_if_lt (tgt := 31) hx hb dX4_takePart_13 (by decide) (fun c_8 => ?_) (fun c_8 => ?_)
      · refine lv_iconst (v := nI 1) hx hb dX4_takePart_31 (by decide) ?_
        refine lv_goto (tgt := 36) hx hb dX4_takePart_32 (by decide) ?_
        refine lv_iconst (v := nI 1) hx hb dX4_takePart_36 (by decide) ?_
        refine qI_V (A := A) (A1 := A) (b := am) (As := [.int (bI true), .int (nI 1)]) (rest := []) ⟨hx, hb, hml, hown, hts⟩ (mX4_start (A := A) (X := X) (P := P) (k := k) (xa := xa) (b := true) (w9 := 1) (by decide)) (cwV 2 hts (gV tw_4_206 tw_4_208 sel_X4_start tw_1_8 tw_4_209) rfl rfl rfl (by decide +kernel) ⟨Nat.le_of_ble_eq_true rfl, Nat.le_of_ble_eq_true rfl⟩) hC hS (fun _ h => h) (fun q h => hA q (Nat.le_trans hS.1 h)) (hW.recv hK) ⟨ra, pa, tx, hW⟩ rfl rfl hl.1 (Nat.le_of_ble_eq_true rfl) ⟨Nat.zero_le _, Nat.zero_le _⟩ dX4_takePart_37 (fun rv9 H9 L9 hP9 hk9 hS => ?_)
        have hZ9 := hS.1
        obtain ⟨hr9, hM9⟩ := hP9
        subst hr9
        obtain ⟨ra, pa, tx, hW⟩ := hM9
        have hW : MWx G A am xa ra pa tx X P k (nI 1) H9 := hW
        have hO := hW.obj
        have hAm := hW.1
        refine f_eq (tgt := 47) hx hb dX4_takePart_40 (by decide) (fun c_10 => ?_) (fun c_10 => ?_)
        · exact absurd c_10 (by decide)
        · refine lv_iconst (v := nI 0) hx hb dX4_takePart_43 (by decide) ?_
          refine lv_goto (tgt := 63) hx hb dX4_takePart_44 (by decide) ?_
          exact q_i hx hb hr hlocks dX4_takePart_63 hS (by omega) (by omega) (Or.inl ⟨(Or.inr (fun ⟨a0, b0, w3, w4, w6⟩ => by rw [w4] at c_8; exact nI_pos (by omega) c_8)), rfl, ra, pa, tx, hW⟩)
      · obtain ⟨b9, hb31, rfl⟩ := nI_of c_8
        have hR1 := hW.row.ia hC.2.1.2
        have x11 := hW.2.2.1 11 (Or.inr rfl)
        refine lv_iload_n hx hb dX4_takePart_16 rfl (lv_at hl 2 rfl) ?_
        refine lv_i2l hx hb dX4_takePart_17 (nI_l (n := a9) (by omega)) ?_
        refine lv_iload_n hx hb dX4_takePart_18 rfl (lv_at hl 3 rfl) ?_
        refine lv_i2l hx hb dX4_takePart_19 (nI_l (n := b9) (by omega)) ?_
        refine lv_ladd hx hb dX4_takePart_20 ?_
        refine lv_cvl (lN_add a9 b9) ?_
        refine lv_aload_n hx hb dX4_takePart_21 rfl (lv_at hl 0 rfl) ?_
        refine va_get (D := G.1) (ci := 8) (C := RX4) (T := TX4) (N := 5) hx hb hts inX4 hown hK (at_P hO) 0 rfl rfl 2 (by decide) (hts _ tw_4_174) (fun _ h9 => h9) rfl dX4_takePart_22 ?_
        refine h_ilen hx hb hC.2.1 hR1 dX4_takePart_25 ?_
        refine lv_i2l hx hb dX4_takePart_26 (nI_l (n := (X 11).length) (by omega)) ?_
        refine W.lcmp hx hb dX4_takePart_27 ?_
        refine lv_if_le (tgt := 35) hx hb dX4_takePart_28 (by decide) (fun c_11 => ?_) (fun c_11 => ?_)
        · have c7 : a9 + b9 ≤ (X 11).length := (cmpL (by omega) (by omega)).mp c_11
          refine lv_iconst (v := nI 0) hx hb dX4_takePart_35 (by decide) ?_
          refine lv_iconst (v := nI 1) hx hb dX4_takePart_36 (by decide) ?_
          refine qI_V (A := A) (A1 := A) (b := am) (As := [.int (bI false), .int (nI 1)]) (rest := []) ⟨hx, hb, hml, hown, hts⟩ (mX4_start (A := A) (X := X) (P := P) (k := k) (xa := xa) (b := false) (w9 := 1) (by decide)) (cwV 2 hts (gV tw_4_206 tw_4_208 sel_X4_start tw_1_8 tw_4_209) rfl rfl rfl (by decide +kernel) ⟨Nat.le_of_ble_eq_true rfl, Nat.le_of_ble_eq_true rfl⟩) hC hS (fun _ h => h) (fun q h => hA q (Nat.le_trans hS.1 h)) (hW.recv hK) ⟨ra, pa, tx, hW⟩ rfl rfl hl.1 (Nat.le_of_ble_eq_true rfl) ⟨Nat.zero_le _, Nat.zero_le _⟩ dX4_takePart_37 (fun rv12 H12 L12 hP12 hk12 hS => ?_)
          have hZ12 := hS.1
          obtain ⟨hr12, hM12⟩ := hP12
          subst hr12
          obtain ⟨ra, pa, tx, hW⟩ := hM12
          have hW : MWx G A am xa ra pa tx X P k (nI 0) H12 := hW
          have hO := hW.obj
          have hAm := hW.1
          refine f_eq (tgt := 47) hx hb dX4_takePart_40 (by decide) (fun c_13 => ?_) (fun c_13 => ?_)
          · have hR1 := hW.row.ia hC.2.1.2
            have x11 := hW.2.2.1 11 (Or.inr rfl)
            refine lv_aload_n hx hb dX4_takePart_47 rfl (lv_at hl 0 rfl) ?_
            refine lv_iload_n hx hb dX4_takePart_48 rfl (lv_at hl 1 rfl) ?_
            refine lv_aload_n hx hb dX4_takePart_49 rfl (lv_at hl 0 rfl) ?_
            refine va_get (D := G.1) (ci := 8) (C := RX4) (T := TX4) (N := 5) hx hb hts inX4 hown hK (at_P hO) 0 rfl rfl 2 (by decide) (hts _ tw_4_174) (fun _ h9 => h9) rfl dX4_takePart_50 ?_
            refine lv_iload_n hx hb dX4_takePart_53 rfl (lv_at hl 2 rfl) ?_
            refine lv_iload_n hx hb dX4_takePart_54 rfl (lv_at hl 2 rfl) ?_
            refine lv_iload_n hx hb dX4_takePart_55 rfl (lv_at hl 3 rfl) ?_
            refine lv_iadd hx hb dX4_takePart_56 ?_
            refine lv_cv (nI_add a9 b9) ?_
            have hra := hW.row.lt
            refine qR_S (A := A) (A1 := nw H12.size)  (As := [.ref ra, .int (nI a9), .int (nI (a9 + b9))]) (rest := .int (nI i) :: .ref am :: []) ⟨hx, hb, hml, hown, hts⟩ (mX4_cut (A := nw H12.size) (sz := H12.size) (t := X 11) (i := a9) (i2 := (a9 + b9)) (Nat.le_add_right _ _) c7 (by omega)) (va_cwS 3 hts (gS tw_4_226 tw_4_227 tw_1_8 tw_4_228) rfl rfl rfl (by decide +kernel) ⟨Nat.le_of_ble_eq_true rfl, Nat.le_of_ble_eq_true rfl⟩) hC hS (nw_in hA hS.1) nw_n  ⟨rfl, hR1⟩ rfl rfl hl.1 (Nat.le_of_ble_eq_true rfl) ⟨Nat.le_trans (show 0 + 1 ≤ 1 by omega) (Nat.le_of_ble_eq_true rfl), Nat.le_trans (show 0 + 61 ≤ 61 by omega) (Nat.le_of_ble_eq_true rfl)⟩ dX4_takePart_57 (fun rv14 H14 L14 hP14 hk14 hS => ?_)
            have hZ14 := hS.1
            have hW := hW.nw hk14
            refine qI_V (A := A) (A1 := A) (b := am) (As := [.int (nI i), .ref rv14]) (rest := []) ⟨hx, hb, hml, hown, hts⟩ (mX4_become (A := A) (X := X) (P := P) (k := k) (xa := xa) (t := cutL (X 11) a9 (a9 + b9)) hi ⟨okc_cut x11.1 _ _, Nat.le_trans (cutL_le _ _ _) x11.2⟩) (cwV 2 hts (gV tw_4_214 tw_4_216 sel_X4_become tw_1_8 tw_4_217) rfl rfl rfl (by decide +kernel) ⟨Nat.le_of_ble_eq_true rfl, Nat.le_of_ble_eq_true rfl⟩) hC hS (fun _ h => h) (fun q h => hA q (Nat.le_trans hS.1 h)) (hW.recv hK) ⟨ra, pa, tx, hW, hP14.2, (by have := hP14.1; omega)⟩ rfl rfl hl.1 (Nat.le_of_ble_eq_true rfl) ⟨Nat.le_trans (show (0 + 1) ≤ 1 by omega) (Nat.le_of_ble_eq_true rfl), Nat.le_trans (show (0 + 61) ≤ 61 by omega) (Nat.le_of_ble_eq_true rfl)⟩ dX4_takePart_60 (fun rv15 H15 L15 hP15 hk15 hS => ?_)
            have hZ15 := hS.1
            exact q_i hx hb hr hlocks dX4_takePart_63 hS (by omega) (by omega) (Or.inr (⟨i, a9, b9, hi, rfl, rfl, rfl, c7, hP15.1, hP15.2⟩))
          · exact absurd c_13 (by decide)
        · have c7 : ¬ a9 + b9 ≤ (X 11).length := fun q => c_11 ((cmpL (by omega) (by omega)).mpr q)
          refine lv_iconst (v := nI 1) hx hb dX4_takePart_31 (by decide) ?_
          refine lv_goto (tgt := 36) hx hb dX4_takePart_32 (by decide) ?_
          refine lv_iconst (v := nI 1) hx hb dX4_takePart_36 (by decide) ?_
          refine qI_V (A := A) (A1 := A) (b := am) (As := [.int (bI true), .int (nI 1)]) (rest := []) ⟨hx, hb, hml, hown, hts⟩ (mX4_start (A := A) (X := X) (P := P) (k := k) (xa := xa) (b := true) (w9 := 1) (by decide)) (cwV 2 hts (gV tw_4_206 tw_4_208 sel_X4_start tw_1_8 tw_4_209) rfl rfl rfl (by decide +kernel) ⟨Nat.le_of_ble_eq_true rfl, Nat.le_of_ble_eq_true rfl⟩) hC hS (fun _ h => h) (fun q h => hA q (Nat.le_trans hS.1 h)) (hW.recv hK) ⟨ra, pa, tx, hW⟩ rfl rfl hl.1 (Nat.le_of_ble_eq_true rfl) ⟨Nat.zero_le _, Nat.zero_le _⟩ dX4_takePart_37 (fun rv16 H16 L16 hP16 hk16 hS => ?_)
          have hZ16 := hS.1
          obtain ⟨hr16, hM16⟩ := hP16
          subst hr16
          obtain ⟨ra, pa, tx, hW⟩ := hM16
          have hW : MWx G A am xa ra pa tx X P k (nI 1) H16 := hW
          have hO := hW.obj
          have hAm := hW.1
          refine f_eq (tgt := 47) hx hb dX4_takePart_40 (by decide) (fun c_17 => ?_) (fun c_17 => ?_)
          · exact absurd c_17 (by decide)
          · refine lv_iconst (v := nI 0) hx hb dX4_takePart_43 (by decide) ?_
            refine lv_goto (tgt := 63) hx hb dX4_takePart_44 (by decide) ?_
            exact q_i hx hb hr hlocks dX4_takePart_63 hS (by omega) (by omega) (Or.inl ⟨(Or.inr (fun ⟨a0, b0, w3, w4, w6⟩ => by have w8 : a0 = a9 := (nI_eq (by omega) (by omega)).mp w3.symm; have w9 : b0 = b9 := (nI_eq (by omega) (by omega)).mp w4.symm; omega)), rfl, ra, pa, tx, hW⟩)

abbrev rmX4_times : Room := { frames := 3, cells := 61, slots := 3660, locals := 64 }
theorem mX4_times {l : Launch} {G : Cx} {A : Nat → Prop} {am xa : Nat} {X : Nat → List Nat} {P : List (List Nat)} {k : Int32} {x m9 y th : Int32} : Met l yX4_times (.code yX4_times cX4_times 6 (some .int) :: GW) rmX4_times (PC G A [.ref am, .int x, .int m9, .int y] (MW G A am xa X P k th)) (qI A (fun r H => ((NT x ∨ NT y) ∧ r = 0 ∧ MW G A am xa X P k 1 H) ∨ (((∃ i : Nat, i < 4 ∧ x = nI i) ∧ (∃ j : Nat, j < 4 ∧ y = nI j) ∧ ¬ ∃ b8 : Nat, b8 ≤ 60 ∧ m9 = nI b8) ∧ r = 0 ∧ MW G A am xa X P k 2 H) ∨ ((∃ i j b8 : Nat, i < 4 ∧ x = nI i ∧ j < 4 ∧ y = nI j ∧ b8 ≤ 60 ∧ m9 = nI b8 ∧ 60 < (repL (X i) b8).length) ∧ r = 0 ∧ MW G A am xa X P k 3 H) ∨ ∃ i j b8 : Nat, i < 4 ∧ x = nI i ∧ j < 4 ∧ y = nI j ∧ b8 ≤ 60 ∧ m9 = nI b8 ∧ (repL (X i) b8).length ≤ 60 ∧ r = nI (repL (X i) b8).length ∧ MW G A am xa (updT X j (repL (X i) b8)) P k 0 H)) 61 3660 (A) := by
  refine mstart "SigntextModel" (by decide +kernel) rfl (Nat.le_of_ble_eq_true rfl) ?_
  intro p e s m below meth c ls hx hb hr hts hown hml hlocks hname hC hA hW hl
  have hl : lv_has ls 6 [(0, .ref am), (1, .int x), (2, .int m9), (3, .int y)] := hl
  have hK := hC.1
  have hS : va_S A s.heap s.heap [] := va_S.rf
  obtain ⟨ra, pa, tx, hW⟩ := hW
  have hO := hW.obj
  have hAm := hW.1
  obtain ⟨QQ, hQQ⟩ : ∃ Q9 : State → Prop, Q9 = (MQ below (qI A (fun r H => ((NT x ∨ NT y) ∧ r = 0 ∧ MW G A am xa X P k 1 H) ∨ (((∃ i : Nat, i < 4 ∧ x = nI i) ∧ (∃ j : Nat, j < 4 ∧ y = nI j) ∧ ¬ ∃ b8 : Nat, b8 ≤ 60 ∧ m9 = nI b8) ∧ r = 0 ∧ MW G A am xa X P k 2 H) ∨ ((∃ i j b8 : Nat, i < 4 ∧ x = nI i ∧ j < 4 ∧ y = nI j ∧ b8 ≤ 60 ∧ m9 = nI b8 ∧ 60 < (repL (X i) b8).length) ∧ r = 0 ∧ MW G A am xa X P k 3 H) ∨ ∃ i j b8 : Nat, i < 4 ∧ x = nI i ∧ j < 4 ∧ y = nI j ∧ b8 ≤ 60 ∧ m9 = nI b8 ∧ (repL (X i) b8).length ≤ 60 ∧ r = nI (repL (X i) b8).length ∧ MW G A am xa (updT X j (repL (X i) b8)) P k 0 H)) [.ref am, .int x, .int m9, .int y].toArray s 61 3660 (A)) := ⟨_, rfl⟩
  rw [← hQQ]
  refine lv_aload_n hx hb dX4_times_0 rfl (lv_at hl 0 rfl) ?_
  refine lv_iload_n hx hb dX4_times_1 rfl (lv_at hl 1 rfl) ?_
  refine kS_i (A := A) (As := [.int x]) (rest := .ref am :: []) ⟨hx, hb, hml, hown, hts⟩ (mX4_isNone (A := A) ) (va_cwS 1 hts (gS tw_4_203 tw_4_204 tw_1_8 tw_4_205) rfl rfl rfl (by decide +kernel) ⟨Nat.le_of_ble_eq_true rfl, Nat.le_of_ble_eq_true rfl⟩) hC hS hA  trivial rfl rfl hl.1 (Nat.le_of_ble_eq_true rfl) ⟨Nat.zero_le _, Nat.zero_le _⟩ dX4_times_2 (fun r_18 hr_18 => ?_)
  obtain ⟨r_18v, hr_18v, rfl⟩ := hr_18
  refine f_ne (tgt := 15) hx hb dX4_times_5 (by decide) (fun c_19 => ?_) (fun c_19 => ?_)
  · refine lv_iconst (v := nI 1) hx hb dX4_times_15 (by decide) ?_
    refine lv_goto (tgt := 20) hx hb dX4_times_16 (by decide) ?_
    refine lv_iconst (v := nI 1) hx hb dX4_times_20 (by decide) ?_
    refine qI_V (A := A) (A1 := A) (b := am) (As := [.int (bI true), .int (nI 1)]) (rest := []) ⟨hx, hb, hml, hown, hts⟩ (mX4_start (A := A) (X := X) (P := P) (k := k) (xa := xa) (b := true) (w9 := 1) (by decide)) (cwV 2 hts (gV tw_4_206 tw_4_208 sel_X4_start tw_1_8 tw_4_209) rfl rfl rfl (by decide +kernel) ⟨Nat.le_of_ble_eq_true rfl, Nat.le_of_ble_eq_true rfl⟩) hC hS (fun _ h => h) (fun q h => hA q (Nat.le_trans hS.1 h)) (hW.recv hK) ⟨ra, pa, tx, hW⟩ rfl rfl hl.1 (Nat.le_of_ble_eq_true rfl) ⟨Nat.zero_le _, Nat.zero_le _⟩ dX4_times_21 (fun rv20 H20 L20 hP20 hk20 hS => ?_)
    have hZ20 := hS.1
    obtain ⟨hr20, hM20⟩ := hP20
    subst hr20
    obtain ⟨ra, pa, tx, hW⟩ := hM20
    have hW : MWx G A am xa ra pa tx X P k (nI 1) H20 := hW
    have hO := hW.obj
    have hAm := hW.1
    refine f_ne (tgt := 77) hx hb dX4_times_24 (by decide) (fun c_21 => ?_) (fun c_21 => ?_)
    · refine lv_iconst (v := nI 0) hx hb dX4_times_77 (by decide) ?_
      subst hQQ
      exact q_i hx hb hr hlocks dX4_times_78 hS (by omega) (by omega) (Or.inl ⟨(Or.inl (hr_18v.mp c_19)), rfl, ra, pa, tx, hW⟩)
    · exact absurd c_21 (by decide)
  · obtain ⟨i, hi, rfl⟩ : ∃ i : Nat, i < 4 ∧ x = nI i := Classical.byContradiction (fun q => absurd (hr_18v.mpr q) (by rw [c_19]; decide))
    refine lv_iload_n hx hb dX4_times_8 rfl (lv_at hl 3 rfl) ?_
    refine kS_i (A := A) (As := [.int y]) (rest := .ref am :: []) ⟨hx, hb, hml, hown, hts⟩ (mX4_isNone (A := A) ) (va_cwS 1 hts (gS tw_4_203 tw_4_204 tw_1_8 tw_4_205) rfl rfl rfl (by decide +kernel) ⟨Nat.le_of_ble_eq_true rfl, Nat.le_of_ble_eq_true rfl⟩) hC hS hA  trivial rfl rfl hl.1 (Nat.le_of_ble_eq_true rfl) ⟨Nat.zero_le _, Nat.zero_le _⟩ dX4_times_9 (fun r_22 hr_22 => ?_)
    obtain ⟨r_22v, hr_22v, rfl⟩ := hr_22
    refine f_eq (tgt := 19) hx hb dX4_times_12 (by decide) (fun c_23 => ?_) (fun c_23 => ?_)
    · obtain ⟨j, hj, rfl⟩ : ∃ j : Nat, j < 4 ∧ y = nI j := Classical.byContradiction (fun q => absurd (hr_22v.mpr q) (by rw [c_23]; decide))
      refine lv_iconst (v := nI 0) hx hb dX4_times_19 (by decide) ?_
      refine lv_iconst (v := nI 1) hx hb dX4_times_20 (by decide) ?_
      refine qI_V (A := A) (A1 := A) (b := am) (As := [.int (bI false), .int (nI 1)]) (rest := []) ⟨hx, hb, hml, hown, hts⟩ (mX4_start (A := A) (X := X) (P := P) (k := k) (xa := xa) (b := false) (w9 := 1) (by decide)) (cwV 2 hts (gV tw_4_206 tw_4_208 sel_X4_start tw_1_8 tw_4_209) rfl rfl rfl (by decide +kernel) ⟨Nat.le_of_ble_eq_true rfl, Nat.le_of_ble_eq_true rfl⟩) hC hS (fun _ h => h) (fun q h => hA q (Nat.le_trans hS.1 h)) (hW.recv hK) ⟨ra, pa, tx, hW⟩ rfl rfl hl.1 (Nat.le_of_ble_eq_true rfl) ⟨Nat.zero_le _, Nat.zero_le _⟩ dX4_times_21 (fun rv24 H24 L24 hP24 hk24 hS => ?_)
      have hZ24 := hS.1
      obtain ⟨hr24, hM24⟩ := hP24
      subst hr24
      obtain ⟨ra, pa, tx, hW⟩ := hM24
      have hW : MWx G A am xa ra pa tx X P k (nI 0) H24 := hW
      have hO := hW.obj
      have hAm := hW.1
      refine f_ne (tgt := 77) hx hb dX4_times_24 (by decide) (fun c_25 => ?_) (fun c_25 => ?_)
      · exact absurd c_25 (by decide)
      · refine lv_aload_n hx hb dX4_times_27 rfl (lv_at hl 0 rfl) ?_
        refine lv_iload_n hx hb dX4_times_28 rfl (lv_at hl 2 rfl) ?_
        refine lv_iconst (v := nI 0) hx hb dX4_times_29 (by decide) ?_
        refine lv_bipush (v := nI 60) hx hb dX4_times_30 (by decide) ?_
        refine kS_i (A := A) (As := [.int m9, .int (nI 0), .int (nI 60)]) (rest := .ref am :: []) ⟨hx, hb, hml, hown, hts⟩ (mX4_isIn (A := A) ) (va_cwS 3 hts (gS tw_4_197 tw_4_198 tw_1_8 tw_4_199) rfl rfl rfl (by decide +kernel) ⟨Nat.le_of_ble_eq_true rfl, Nat.le_of_ble_eq_true rfl⟩) hC hS hA  trivial rfl rfl hl.1 (Nat.le_of_ble_eq_true rfl) ⟨Nat.zero_le _, Nat.zero_le _⟩ dX4_times_32 (fun r9 h9 => lv_cv h9 ?_)
        refine f_ne (tgt := 42) hx hb dX4_times_35 (by decide) (fun c_26 => ?_) (fun c_26 => ?_)
        · obtain ⟨b8, hb8, rfl⟩ := (rngI (n := 60) (by omega)).mp (of_decide_eq_true c_26)
          refine lv_iconst (v := nI 0) hx hb dX4_times_42 (by decide) ?_
          refine lv_iconst (v := nI 2) hx hb dX4_times_43 (by decide) ?_
          refine qI_V (A := A) (A1 := A) (b := am) (As := [.int (bI false), .int (nI 2)]) (rest := []) ⟨hx, hb, hml, hown, hts⟩ (mX4_refuse (A := A) (X := X) (P := P) (k := k) (xa := xa) (b := false) (th := 0) (w9 := 2) (by decide) (by decide)) (cwV 2 hts (gV tw_4_210 tw_4_212 sel_X4_refuse tw_1_8 tw_4_213) rfl rfl rfl (by decide +kernel) ⟨Nat.le_of_ble_eq_true rfl, Nat.le_of_ble_eq_true rfl⟩) hC hS (fun _ h => h) (fun q h => hA q (Nat.le_trans hS.1 h)) (hW.recv hK) ⟨ra, pa, tx, hW⟩ rfl rfl hl.1 (Nat.le_of_ble_eq_true rfl) ⟨Nat.zero_le _, Nat.zero_le _⟩ dX4_times_44 (fun rv27 H27 L27 hP27 hk27 hS => ?_)
          have hZ27 := hS.1
          obtain ⟨hr27, hM27⟩ := hP27
          subst hr27
          obtain ⟨ra, pa, tx, hW⟩ := hM27
          have hW : MWx G A am xa ra pa tx X P k (nI 0) H27 := hW
          have hO := hW.obj
          have hAm := hW.1
          refine f_ne (tgt := 77) hx hb dX4_times_47 (by decide) (fun c_28 => ?_) (fun c_28 => ?_)
          · exact absurd c_28 (by decide)
          · refine lv_aload_n hx hb dX4_times_50 rfl (lv_at hl 0 rfl) ?_
            refine lv_aload_n hx hb dX4_times_51 rfl (lv_at hl 0 rfl) ?_
            refine va_get (D := G.1) (ci := 8) (C := RX4) (T := TX4) (N := 5) hx hb hts inX4 hown hK (at_P hO) 0 rfl rfl 1 (by decide) (hts _ tw_4_173) (fun _ h9 => h9) rfl dX4_times_52 ?_
            refine lv_iload_n hx hb dX4_times_55 rfl (lv_at hl 1 rfl) ?_
            refine h_aaldI (D := G.1) hx hb hK 4 hW.txs rfl (vp_in_nI (n := i) (N := 4) (by omega) (by omega)) dX4_times_56 ?_
            refine v_cv (show va_rf _ = .ref (tx i) from by rw [nI_clamp (n := i) (by omega)]; rfl) ?_
            have hTi := (hW.tx (j := i) (by omega)).ia hC.2.1.2
            have x60i := hW.2.2.1 i (Or.inl (by omega))
            have hm : (X i).length * b8 ≤ 60 * 60 := Nat.mul_le_mul x60i.2 hb8
            refine h_ilen hx hb hC.2.1 hTi dX4_times_57 ?_
            refine lv_iload_n hx hb dX4_times_58 rfl (lv_at hl 2 rfl) ?_
            refine lv_imul hx hb dX4_times_59 ?_
            refine lv_cv (pk_mul ((X i).length) b8) ?_
            refine lv_bipush (v := nI 60) hx hb dX4_times_60 (by decide) ?_
            refine b_le (tgt := 69) hx hb dX4_times_62 (by decide) (by omega) (by omega) (fun c_29 => ?_) (fun c_29 => ?_)
            · refine lv_iconst (v := nI 0) hx hb dX4_times_69 (by decide) ?_
              refine lv_iconst (v := nI 3) hx hb dX4_times_70 (by decide) ?_
              refine qI_V (A := A) (A1 := A) (b := am) (As := [.int (bI false), .int (nI 3)]) (rest := []) ⟨hx, hb, hml, hown, hts⟩ (mX4_refuse (A := A) (X := X) (P := P) (k := k) (xa := xa) (b := false) (th := 0) (w9 := 3) (by decide) (by decide)) (cwV 2 hts (gV tw_4_210 tw_4_212 sel_X4_refuse tw_1_8 tw_4_213) rfl rfl rfl (by decide +kernel) ⟨Nat.le_of_ble_eq_true rfl, Nat.le_of_ble_eq_true rfl⟩) hC hS (fun _ h => h) (fun q h => hA q (Nat.le_trans hS.1 h)) (hW.recv hK) ⟨ra, pa, tx, hW⟩ rfl rfl hl.1 (Nat.le_of_ble_eq_true rfl) ⟨Nat.zero_le _, Nat.zero_le _⟩ dX4_times_71 (fun rv30 H30 L30 hP30 hk30 hS => ?_)
              have hZ30 := hS.1
              obtain ⟨hr30, hM30⟩ := hP30
              subst hr30
              obtain ⟨ra, pa, tx, hW⟩ := hM30
              have hW : MWx G A am xa ra pa tx X P k (nI 0) H30 := hW
              have hO := hW.obj
              have hAm := hW.1
              refine f_eq (tgt := 79) hx hb dX4_times_74 (by decide) (fun c_31 => ?_) (fun c_31 => ?_)
              · have c9 : (X i).length * b8 ≤ 60 := c_29
                refine lv_iconst (v := nI 0) hx hb dX4_times_79 (by decide) ?_
                have hW0 := hW
                have hra := hW.row.lt
                refine h_newa (D := G.1) (atype := .int) (N := 0) (z := (0, .inl (fun _ => 0))) hx hb (hts _ tw_1_70) rfl (fun h => h) hK 0 rfl hS rfl (nI_pos (by omega)) (nI_clamp (by omega)) (show 0 * _ ≤ _ from by show 0 * 4 ≤ 536870912; omega) (Nat.le_trans (show 0 + 1 ≤ 61 by omega) (Nat.le_of_ble_eq_true rfl)) (Nat.le_trans (show 0 + 0 ≤ 3660 by omega) (Nat.le_of_ble_eq_true rfl)) dX4_times_80 (fun na H32 hna hFna z32 o32 hS => ?_)
                have hZ32 := hS.1
                have hMna : A na := hA na (by omega)
                have hW := hW0.n o32
                have hN : IA0 G na (repL (X i) 0) H32 := IA0.mk hFna rfl (fun q hq => absurd hq (Nat.not_lt_zero q))
                refine lv_astore (lv' := [(4, .ref na), (0, .ref am), (1, .int (nI i)), (2, .int (nI b8)), (3, .int (nI j))]) hx hb dX4_times_82 hl (by decide) rfl (fun ls hl => ?_)
                refine lv_iconst (v := nI 0) hx hb dX4_times_84 (by decide) ?_
                refine lv_istore (lv' := [(5, .int (nI 0)), (4, .ref na), (0, .ref am), (1, .int (nI i)), (2, .int (nI b8)), (3, .int (nI j))]) hx hb dX4_times_85 hl (by decide) rfl (fun ls hl => ?_)
                refine W.widen (k := 1 + 0) (n := 0 + 0 * 61) (by decide) (by decide) ?_
                refine nloop (P := fun j8 => ∀ (ls : Array Slot) (H : Heap) (L : List Loc) (nm : Nat), lv_has ls 6 [(5, .int (nI j8)), (4, .ref nm), (0, .ref am), (1, .int (nI i)), (2, .int (nI b8)), (3, .int (nI j))] → va_S A s.heap H L → MWx G A am xa ra pa tx X P k (nI 0) H → IA0 G nm (repL (X i) j8) H → ra < nm → W p l e rmX4_times s m [.ref am, .int (nI i), .int (nI b8), .int (nI j)].toArray below meth c H L (1 + j8) (0 + j8 * 61) QQ (F0 m 87 ls [])) b8 ?_ 0 (Nat.zero_le _) ls H32 L30 na hl hS hW hN (by omega)
                clear hl
                intro j8 hj8 ih ls H L nm hl
                clear hS hW hN hra
                intro hS hW hN hra
                have hZ0 := hS.1
                have hO := hW.obj
                have hAm := hW.1
                refine lv_iload hx hb dX4_times_87 (lv_at hl 0 rfl) ?_
                refine lv_iload_n hx hb dX4_times_89 rfl (lv_at hl 4 rfl) ?_
                refine b_ge (tgt := 112) hx hb dX4_times_90 (by decide) (by omega) (by omega) (fun c_33 => ?_) (fun c_33 => ?_)
                · have e8 : j8 = b8 := by omega
                  rw [e8] at hN
                  refine lv_aload_n hx hb dX4_times_112 rfl (lv_at hl 2 rfl) ?_
                  refine lv_iload_n hx hb dX4_times_113 rfl (lv_at hl 5 rfl) ?_
                  refine lv_aload hx hb dX4_times_114 (lv_at hl 1 rfl) ?_
                  refine qI_V (A := A) (A1 := A) (b := am) (As := [.int (nI j), .ref nm]) (rest := []) ⟨hx, hb, hml, hown, hts⟩ (mX4_become (A := A) (X := X) (P := P) (k := k) (xa := xa) (t := repL (X i) b8) hj ⟨okc_rep x60i.1 b8, by rw [repL_len]; exact c9⟩) (cwV 2 hts (gV tw_4_214 tw_4_216 sel_X4_become tw_1_8 tw_4_217) rfl rfl rfl (by decide +kernel) ⟨Nat.le_of_ble_eq_true rfl, Nat.le_of_ble_eq_true rfl⟩) hC hS (fun _ h => h) (fun q h => hA q (Nat.le_trans hS.1 h)) (hW.recv hK) ⟨ra, pa, tx, hW, hN, (by omega)⟩ rfl rfl hl.1 (Nat.le_of_ble_eq_true rfl) ⟨Nat.le_trans (show (1 + j8) ≤ 61 by omega) (Nat.le_of_ble_eq_true rfl), Nat.le_trans (show (0 + j8 * 61) ≤ 3660 by omega) (Nat.le_of_ble_eq_true rfl)⟩ dX4_times_116 (fun rv34 H34 L34 hP34 hk34 hS => ?_)
                  have hZ34 := hS.1
                  subst hQQ
                  exact q_i hx hb hr hlocks dX4_times_119 hS (by omega) (by omega) (Or.inr (Or.inr (Or.inr (⟨i, j, b8, hi, rfl, hj, rfl, hb8, rfl, by rw [repL_len]; exact c9, hP34.1, hP34.2⟩))))
                · refine lv_aload hx hb dX4_times_93 (lv_at hl 1 rfl) ?_
                  refine lv_aload_n hx hb dX4_times_95 rfl (lv_at hl 2 rfl) ?_
                  refine va_get (D := G.1) (ci := 8) (C := RX4) (T := TX4) (N := 5) hx hb hts inX4 hown hK (at_P hO) 0 rfl rfl 1 (by decide) (hts _ tw_4_173) (fun _ h9 => h9) rfl dX4_times_96 ?_
                  refine lv_iload_n hx hb dX4_times_99 rfl (lv_at hl 3 rfl) ?_
                  refine h_aaldI (D := G.1) hx hb hK 4 hW.txs rfl (vp_in_nI (n := i) (N := 4) (by omega) (by omega)) dX4_times_100 ?_
                  refine v_cv (show va_rf _ = .ref (tx i) from by rw [nI_clamp (n := i) (by omega)]; rfl) ?_
                  have hTi := (hW.tx (j := i) (by omega)).ia hC.2.1.2
                  have x60i := hW.2.2.1 i (Or.inl (by omega))
                  have hm2 : (X i).length * (j8 + 1) ≤ (X i).length * b8 := Nat.mul_le_mul (Nat.le_refl _) (by omega)
                  rw [Nat.mul_succ] at hm2
                  have hra := hW.row.lt
                  refine qR_S (A := A) (A1 := nw H.size)  (As := [.ref nm, .ref (tx i)]) (rest := []) ⟨hx, hb, hml, hown, hts⟩ (mX4_joined (A := nw H.size) (sz := H.size) (t := repL (X i) j8) (u := X i) (by rw [repL_len]; omega)) (va_cwS 2 hts (gS tw_4_200 tw_4_201 tw_1_8 tw_4_202) rfl rfl rfl (by decide +kernel) ⟨Nat.le_of_ble_eq_true rfl, Nat.le_of_ble_eq_true rfl⟩) hC hS (nw_in hA hS.1) nw_n  ⟨rfl, (hN.ia hC.2.1.2), hTi⟩ rfl rfl hl.1 (Nat.le_of_ble_eq_true rfl) ⟨Nat.le_trans (show (1 + j8) + 1 ≤ 61 by omega) (Nat.le_of_ble_eq_true rfl), Nat.le_trans (show (0 + j8 * 61) + 61 ≤ 3660 by omega) (Nat.le_of_ble_eq_true rfl)⟩ dX4_times_101 (fun rv35 H35 L35 hP35 hk35 hS => ?_)
                  have hZ35 := hS.1
                  have hW := hW.nw hk35
                  refine lv_astore (lv' := [(4, .ref rv35), (5, .int (nI j8)), (0, .ref am), (1, .int (nI i)), (2, .int (nI b8)), (3, .int (nI j))]) hx hb dX4_times_104 hl (by decide) rfl (fun ls hl => ?_)
                  refine lv_iinc (v := nI (j8 + 1)) (lv' := [(5, .int (nI (j8 + 1))), (4, .ref rv35), (0, .ref am), (1, .int (nI i)), (2, .int (nI b8)), (3, .int (nI j))]) hx hb dX4_times_106 hl (k := 1) rfl (nI_add j8 1) (by decide) rfl (fun ls hl => ?_)
                  refine lv_goto (tgt := 87) hx hb dX4_times_109 (by decide) ?_
                  refine W.widen (k := 1 + (j8 + 1)) (n := 0 + (j8 + 1) * 61) (by omega) (by omega) ?_
                  exact ih (j8 + 1) (by omega) (by omega) ls H35 L35 _ (lv_sub hl [0, 1, 2, 3, 4, 5] rfl) hS hW hP35.2 (by have := hP35.1; omega)
              · exact absurd c_31 (by decide)
            · refine lv_iconst (v := nI 1) hx hb dX4_times_65 (by decide) ?_
              refine lv_goto (tgt := 70) hx hb dX4_times_66 (by decide) ?_
              refine lv_iconst (v := nI 3) hx hb dX4_times_70 (by decide) ?_
              refine qI_V (A := A) (A1 := A) (b := am) (As := [.int (bI true), .int (nI 3)]) (rest := []) ⟨hx, hb, hml, hown, hts⟩ (mX4_refuse (A := A) (X := X) (P := P) (k := k) (xa := xa) (b := true) (th := 0) (w9 := 3) (by decide) (by decide)) (cwV 2 hts (gV tw_4_210 tw_4_212 sel_X4_refuse tw_1_8 tw_4_213) rfl rfl rfl (by decide +kernel) ⟨Nat.le_of_ble_eq_true rfl, Nat.le_of_ble_eq_true rfl⟩) hC hS (fun _ h => h) (fun q h => hA q (Nat.le_trans hS.1 h)) (hW.recv hK) ⟨ra, pa, tx, hW⟩ rfl rfl hl.1 (Nat.le_of_ble_eq_true rfl) ⟨Nat.zero_le _, Nat.zero_le _⟩ dX4_times_71 (fun rv36 H36 L36 hP36 hk36 hS => ?_)
              have hZ36 := hS.1
              obtain ⟨hr36, hM36⟩ := hP36
              subst hr36
              obtain ⟨ra, pa, tx, hW⟩ := hM36
              have hW : MWx G A am xa ra pa tx X P k (nI 3) H36 := hW
              have hO := hW.obj
              have hAm := hW.1
              refine f_eq (tgt := 79) hx hb dX4_times_74 (by decide) (fun c_37 => ?_) (fun c_37 => ?_)
              · exact absurd c_37 (by decide)
              · refine lv_iconst (v := nI 0) hx hb dX4_times_77 (by decide) ?_
                subst hQQ
                exact q_i hx hb hr hlocks dX4_times_78 hS (by omega) (by omega) (Or.inr (Or.inr (Or.inl ⟨⟨i, j, b8, hi, rfl, hj, rfl, hb8, rfl, by rw [repL_len]; omega⟩, rfl, ra, pa, tx, hW⟩)))
        · refine lv_iconst (v := nI 1) hx hb dX4_times_38 (by decide) ?_
          refine lv_goto (tgt := 43) hx hb dX4_times_39 (by decide) ?_
          refine lv_iconst (v := nI 2) hx hb dX4_times_43 (by decide) ?_
          refine qI_V (A := A) (A1 := A) (b := am) (As := [.int (bI true), .int (nI 2)]) (rest := []) ⟨hx, hb, hml, hown, hts⟩ (mX4_refuse (A := A) (X := X) (P := P) (k := k) (xa := xa) (b := true) (th := 0) (w9 := 2) (by decide) (by decide)) (cwV 2 hts (gV tw_4_210 tw_4_212 sel_X4_refuse tw_1_8 tw_4_213) rfl rfl rfl (by decide +kernel) ⟨Nat.le_of_ble_eq_true rfl, Nat.le_of_ble_eq_true rfl⟩) hC hS (fun _ h => h) (fun q h => hA q (Nat.le_trans hS.1 h)) (hW.recv hK) ⟨ra, pa, tx, hW⟩ rfl rfl hl.1 (Nat.le_of_ble_eq_true rfl) ⟨Nat.zero_le _, Nat.zero_le _⟩ dX4_times_44 (fun rv38 H38 L38 hP38 hk38 hS => ?_)
          have hZ38 := hS.1
          obtain ⟨hr38, hM38⟩ := hP38
          subst hr38
          obtain ⟨ra, pa, tx, hW⟩ := hM38
          have hW : MWx G A am xa ra pa tx X P k (nI 2) H38 := hW
          have hO := hW.obj
          have hAm := hW.1
          refine f_ne (tgt := 77) hx hb dX4_times_47 (by decide) (fun c_39 => ?_) (fun c_39 => ?_)
          · refine lv_iconst (v := nI 0) hx hb dX4_times_77 (by decide) ?_
            subst hQQ
            exact q_i hx hb hr hlocks dX4_times_78 hS (by omega) (by omega) (Or.inr (Or.inl ⟨⟨⟨i, hi, rfl⟩, ⟨j, hj, rfl⟩, (fun q => absurd ((rngI (n := 60) (by omega)).mpr q) (of_decide_eq_false c_26))⟩, rfl, ra, pa, tx, hW⟩))
          · exact absurd c_39 (by decide)
    · refine lv_iconst (v := nI 1) hx hb dX4_times_15 (by decide) ?_
      refine lv_goto (tgt := 20) hx hb dX4_times_16 (by decide) ?_
      refine lv_iconst (v := nI 1) hx hb dX4_times_20 (by decide) ?_
      refine qI_V (A := A) (A1 := A) (b := am) (As := [.int (bI true), .int (nI 1)]) (rest := []) ⟨hx, hb, hml, hown, hts⟩ (mX4_start (A := A) (X := X) (P := P) (k := k) (xa := xa) (b := true) (w9 := 1) (by decide)) (cwV 2 hts (gV tw_4_206 tw_4_208 sel_X4_start tw_1_8 tw_4_209) rfl rfl rfl (by decide +kernel) ⟨Nat.le_of_ble_eq_true rfl, Nat.le_of_ble_eq_true rfl⟩) hC hS (fun _ h => h) (fun q h => hA q (Nat.le_trans hS.1 h)) (hW.recv hK) ⟨ra, pa, tx, hW⟩ rfl rfl hl.1 (Nat.le_of_ble_eq_true rfl) ⟨Nat.zero_le _, Nat.zero_le _⟩ dX4_times_21 (fun rv40 H40 L40 hP40 hk40 hS => ?_)
      have hZ40 := hS.1
      obtain ⟨hr40, hM40⟩ := hP40
      subst hr40
      obtain ⟨ra, pa, tx, hW⟩ := hM40
      have hW : MWx G A am xa ra pa tx X P k (nI 1) H40 := hW
      have hO := hW.obj
      have hAm := hW.1
      refine f_ne (tgt := 77) hx hb dX4_times_24 (by decide) (fun c_41 => ?_) (fun c_41 => ?_)
      · refine lv_iconst (v := nI 0) hx hb dX4_times_77 (by decide) ?_
        subst hQQ
        exact q_i hx hb hr hlocks dX4_times_78 hS (by omega) (by omega) (Or.inl ⟨(Or.inr (hr_22v.mp c_23)), rfl, ra, pa, tx, hW⟩)
      · exact absurd c_41 (by decide)

abbrev rmX4_at : Room := { frames := 3, cells := 0, slots := 0, locals := 64 }
theorem mX4_at {l : Launch} {G : Cx} {A : Nat → Prop} {am xa : Nat} {X : Nat → List Nat} {P : List (List Nat)} {k : Int32} {x y th : Int32} : Met l yX4_at (.code yX4_at cX4_at 3 (some .int) :: GW) rmX4_at (PC G A [.ref am, .int x, .int y] (MW G A am xa X P k th)) (qI A (fun r H => ((NT x ∨ ¬ ∃ i a9 : Nat, i < 4 ∧ x = nI i ∧ a9 < (X i).length ∧ y = nI a9) ∧ r = 0 ∧ MW G A am xa X P k 1 H) ∨ ∃ i a9 : Nat, i < 4 ∧ x = nI i ∧ a9 < (X i).length ∧ y = nI a9 ∧ r = nI ((X i).getD a9 0) ∧ MW G A am xa X P k 0 H)) 0 0 (A) := by
  refine mstart "SigntextModel" (by decide +kernel) rfl (Nat.le_of_ble_eq_true rfl) ?_
  intro p e s m below meth c ls hx hb hr hts hown hml hlocks hname hC hA hW hl
  have hl : lv_has ls 3 [(0, .ref am), (1, .int x), (2, .int y)] := hl
  have hK := hC.1
  have hS : va_S A s.heap s.heap [] := va_S.rf
  obtain ⟨ra, pa, tx, hW⟩ := hW
  have hO := hW.obj
  have hAm := hW.1
  refine lv_aload_n hx hb dX4_at_0 rfl (lv_at hl 0 rfl) ?_
  refine lv_iload_n hx hb dX4_at_1 rfl (lv_at hl 1 rfl) ?_
  refine kS_i (A := A) (As := [.int x]) (rest := .ref am :: []) ⟨hx, hb, hml, hown, hts⟩ (mX4_isNone (A := A) ) (va_cwS 1 hts (gS tw_4_203 tw_4_204 tw_1_8 tw_4_205) rfl rfl rfl (by decide +kernel) ⟨Nat.le_of_ble_eq_true rfl, Nat.le_of_ble_eq_true rfl⟩) hC hS hA  trivial rfl rfl hl.1 (Nat.le_of_ble_eq_true rfl) ⟨Nat.zero_le _, Nat.zero_le _⟩ dX4_at_2 (fun r_42 hr_42 => ?_)
  obtain ⟨r_42v, hr_42v, rfl⟩ := hr_42
  refine lv_iconst (v := nI 1) hx hb dX4_at_5 (by decide) ?_
  cases r_42v
  · obtain ⟨i, hi, rfl⟩ : ∃ i : Nat, i < 4 ∧ x = nI i := Classical.byContradiction (fun q => Bool.noConfusion (hr_42v.mpr q))
    refine qI_V (A := A) (A1 := A) (b := am) (As := [.int (bI false), .int (nI 1)]) (rest := []) ⟨hx, hb, hml, hown, hts⟩ (mX4_start (A := A) (X := X) (P := P) (k := k) (xa := xa) (b := false) (w9 := 1) (by decide)) (cwV 2 hts (gV tw_4_206 tw_4_208 sel_X4_start tw_1_8 tw_4_209) rfl rfl rfl (by decide +kernel) ⟨Nat.le_of_ble_eq_true rfl, Nat.le_of_ble_eq_true rfl⟩) hC hS (fun _ h => h) (fun q h => hA q (Nat.le_trans hS.1 h)) (hW.recv hK) ⟨ra, pa, tx, hW⟩ rfl rfl hl.1 (Nat.le_of_ble_eq_true rfl) ⟨Nat.zero_le _, Nat.zero_le _⟩ dX4_at_6 (fun rv43 H43 L43 hP43 hk43 hS => ?_)
    have hZ43 := hS.1
    obtain ⟨hr43, hM43⟩ := hP43
    subst hr43
    obtain ⟨ra, pa, tx, hW⟩ := hM43
    have hW : MWx G A am xa ra pa tx X P k (nI 0) H43 := hW
    have hO := hW.obj
    have hAm := hW.1
    refine f_ne (tgt := 42) hx hb dX4_at_9 (by decide) (fun c_44 => ?_) (fun c_44 => ?_)
    · exact absurd c_44 (by decide)
    · refine lv_aload_n hx hb dX4_at_12 rfl (lv_at hl 0 rfl) ?_
      refine lv_iload_n hx hb dX4_at_13 rfl (lv_at hl 2 rfl) ?_
      refine lv_iconst (v := nI 0) hx hb dX4_at_14 (by decide) ?_
      refine lv_aload_n hx hb dX4_at_15 rfl (lv_at hl 0 rfl) ?_
      refine va_get (D := G.1) (ci := 8) (C := RX4) (T := TX4) (N := 5) hx hb hts inX4 hown hK (at_P hO) 0 rfl rfl 1 (by decide) (hts _ tw_4_173) (fun _ h9 => h9) rfl dX4_at_16 ?_
      refine lv_iload_n hx hb dX4_at_19 rfl (lv_at hl 1 rfl) ?_
      refine h_aaldI (D := G.1) hx hb hK 4 hW.txs rfl (vp_in_nI (n := i) (N := 4) (by omega) (by omega)) dX4_at_20 ?_
      refine v_cv (show va_rf _ = .ref (tx i) from by rw [nI_clamp (n := i) (by omega)]; rfl) ?_
      have hTi := (hW.tx (j := i) (by omega)).ia hC.2.1.2
      have x60i := hW.2.2.1 i (Or.inl (by omega))
      have i60 := x60i.2
      refine h_ilen hx hb hC.2.1 hTi dX4_at_21 ?_
      refine lv_iconst (v := nI 1) hx hb dX4_at_22 (by decide) ?_
      refine lv_isub hx hb dX4_at_23 ?_
      refine kS_i (A := A) (As := [.int y, .int (nI 0), .int (nI ((X i).length) - nI 1)]) (rest := .ref am :: []) ⟨hx, hb, hml, hown, hts⟩ (mX4_isIn (A := A) ) (va_cwS 3 hts (gS tw_4_197 tw_4_198 tw_1_8 tw_4_199) rfl rfl rfl (by decide +kernel) ⟨Nat.le_of_ble_eq_true rfl, Nat.le_of_ble_eq_true rfl⟩) hC hS hA  trivial rfl rfl hl.1 (Nat.le_of_ble_eq_true rfl) ⟨Nat.zero_le _, Nat.zero_le _⟩ dX4_at_24 (fun r9 h9 => lv_cv h9 ?_)
      refine f_ne (tgt := 34) hx hb dX4_at_27 (by decide) (fun c_45 => ?_) (fun c_45 => ?_)
      · obtain ⟨a9, ha9, rfl⟩ := (rngL (n := (X i).length) (by omega)).mp (of_decide_eq_true c_45)
        refine lv_iconst (v := nI 0) hx hb dX4_at_34 (by decide) ?_
        refine lv_iconst (v := nI 1) hx hb dX4_at_35 (by decide) ?_
        refine qI_V (A := A) (A1 := A) (b := am) (As := [.int (bI false), .int (nI 1)]) (rest := []) ⟨hx, hb, hml, hown, hts⟩ (mX4_refuse (A := A) (X := X) (P := P) (k := k) (xa := xa) (b := false) (th := 0) (w9 := 1) (by decide) (by decide)) (cwV 2 hts (gV tw_4_210 tw_4_212 sel_X4_refuse tw_1_8 tw_4_213) rfl rfl rfl (by decide +kernel) ⟨Nat.le_of_ble_eq_true rfl, Nat.le_of_ble_eq_true rfl⟩) hC hS (fun _ h => h) (fun q h => hA q (Nat.le_trans hS.1 h)) (hW.recv hK) ⟨ra, pa, tx, hW⟩ rfl rfl hl.1 (Nat.le_of_ble_eq_true rfl) ⟨Nat.zero_le _, Nat.zero_le _⟩ dX4_at_36 (fun rv46 H46 L46 hP46 hk46 hS => ?_)
        have hZ46 := hS.1
        obtain ⟨hr46, hM46⟩ := hP46
        subst hr46
        obtain ⟨ra, pa, tx, hW⟩ := hM46
        have hW : MWx G A am xa ra pa tx X P k (nI 0) H46 := hW
        have hO := hW.obj
        have hAm := hW.1
        refine f_eq (tgt := 46) hx hb dX4_at_39 (by decide) (fun c_47 => ?_) (fun c_47 => ?_)
        · refine lv_aload_n hx hb dX4_at_46 rfl (lv_at hl 0 rfl) ?_
          refine va_get (D := G.1) (ci := 8) (C := RX4) (T := TX4) (N := 5) hx hb hts inX4 hown hK (at_P hO) 0 rfl rfl 1 (by decide) (hts _ tw_4_173) (fun _ h9 => h9) rfl dX4_at_47 ?_
          refine lv_iload_n hx hb dX4_at_50 rfl (lv_at hl 1 rfl) ?_
          refine h_aaldI (D := G.1) hx hb hK 4 hW.txs rfl (vp_in_nI (n := i) (N := 4) (by omega) (by omega)) dX4_at_51 ?_
          refine v_cv (show va_rf _ = .ref (tx i) from by rw [nI_clamp (n := i) (by omega)]; rfl) ?_
          have hTi := (hW.tx (j := i) (by omega)).ia hC.2.1.2
          have x60i := hW.2.2.1 i (Or.inl (by omega))
          refine lv_iload_n hx hb dX4_at_52 rfl (lv_at hl 2 rfl) ?_
          refine h_ild hx hb hC.2.1 hTi (i := a9) (by omega) (by omega) dX4_at_53 ?_
          exact q_i hx hb hr hlocks dX4_at_54 hS (Nat.le_refl _) (Nat.le_refl _) (Or.inr (⟨i, a9, hi, rfl, ha9, rfl, rfl, ra, pa, tx, hW⟩))
        · exact absurd c_47 (by decide)
      · refine lv_iconst (v := nI 1) hx hb dX4_at_30 (by decide) ?_
        refine lv_goto (tgt := 35) hx hb dX4_at_31 (by decide) ?_
        refine lv_iconst (v := nI 1) hx hb dX4_at_35 (by decide) ?_
        refine qI_V (A := A) (A1 := A) (b := am) (As := [.int (bI true), .int (nI 1)]) (rest := []) ⟨hx, hb, hml, hown, hts⟩ (mX4_refuse (A := A) (X := X) (P := P) (k := k) (xa := xa) (b := true) (th := 0) (w9 := 1) (by decide) (by decide)) (cwV 2 hts (gV tw_4_210 tw_4_212 sel_X4_refuse tw_1_8 tw_4_213) rfl rfl rfl (by decide +kernel) ⟨Nat.le_of_ble_eq_true rfl, Nat.le_of_ble_eq_true rfl⟩) hC hS (fun _ h => h) (fun q h => hA q (Nat.le_trans hS.1 h)) (hW.recv hK) ⟨ra, pa, tx, hW⟩ rfl rfl hl.1 (Nat.le_of_ble_eq_true rfl) ⟨Nat.zero_le _, Nat.zero_le _⟩ dX4_at_36 (fun rv48 H48 L48 hP48 hk48 hS => ?_)
        have hZ48 := hS.1
        obtain ⟨hr48, hM48⟩ := hP48
        subst hr48
        obtain ⟨ra, pa, tx, hW⟩ := hM48
        have hW : MWx G A am xa ra pa tx X P k (nI 1) H48 := hW
        have hO := hW.obj
        have hAm := hW.1
        refine f_eq (tgt := 46) hx hb dX4_at_39 (by decide) (fun c_49 => ?_) (fun c_49 => ?_)
        · exact absurd c_49 (by decide)
        · refine lv_iconst (v := nI 0) hx hb dX4_at_42 (by decide) ?_
          refine lv_goto (tgt := 54) hx hb dX4_at_43 (by decide) ?_
          exact q_i hx hb hr hlocks dX4_at_54 hS (Nat.le_refl _) (Nat.le_refl _) (Or.inl ⟨(Or.inr (fun ⟨i9, a0, w1, w2, w3, w4⟩ => (fun q => absurd ((rngL (n := (X i).length) (by omega)).mpr q) (of_decide_eq_false c_45)) ⟨a0, by have w7 : i9 = i := (nI_eq (by omega) (by omega)).mp w2.symm; rw [w7] at w3; exact w3, w4⟩)), rfl, ra, pa, tx, hW⟩)
  · refine qI_V (A := A) (A1 := A) (b := am) (As := [.int (bI true), .int (nI 1)]) (rest := []) ⟨hx, hb, hml, hown, hts⟩ (mX4_start (A := A) (X := X) (P := P) (k := k) (xa := xa) (b := true) (w9 := 1) (by decide)) (cwV 2 hts (gV tw_4_206 tw_4_208 sel_X4_start tw_1_8 tw_4_209) rfl rfl rfl (by decide +kernel) ⟨Nat.le_of_ble_eq_true rfl, Nat.le_of_ble_eq_true rfl⟩) hC hS (fun _ h => h) (fun q h => hA q (Nat.le_trans hS.1 h)) (hW.recv hK) ⟨ra, pa, tx, hW⟩ rfl rfl hl.1 (Nat.le_of_ble_eq_true rfl) ⟨Nat.zero_le _, Nat.zero_le _⟩ dX4_at_6 (fun rv50 H50 L50 hP50 hk50 hS => ?_)
    have hZ50 := hS.1
    obtain ⟨hr50, hM50⟩ := hP50
    subst hr50
    obtain ⟨ra, pa, tx, hW⟩ := hM50
    have hW : MWx G A am xa ra pa tx X P k (nI 1) H50 := hW
    have hO := hW.obj
    have hAm := hW.1
    refine f_ne (tgt := 42) hx hb dX4_at_9 (by decide) (fun c_51 => ?_) (fun c_51 => ?_)
    · refine lv_iconst (v := nI 0) hx hb dX4_at_42 (by decide) ?_
      refine lv_goto (tgt := 54) hx hb dX4_at_43 (by decide) ?_
      exact q_i hx hb hr hlocks dX4_at_54 hS (Nat.le_refl _) (Nat.le_refl _) (Or.inl ⟨(Or.inl (hr_42v.mp rfl)), rfl, ra, pa, tx, hW⟩)
    · exact absurd c_51 (by decide)

abbrev rmX4_isBlank : Room := { frames := 3, cells := 1, slots := 61, locals := 67 }
theorem mX4_isBlank {l : Launch} {G : Cx} {A : Nat → Prop} {am xa : Nat} {X : Nat → List Nat} {P : List (List Nat)} {k : Int32} {x th : Int32} : Met l yX4_isBlank (.code yX4_isBlank cX4_isBlank 2 (some .boolean) :: GW) rmX4_isBlank (PC G A [.ref am, .int x] (MW G A am xa X P k th)) (qI A (fun r H => ((NT x) ∧ r = 0 ∧ MW G A am xa X P k 1 H) ∨ ∃ i : Nat, i < 4 ∧ x = nI i ∧ r = bI (decide (tbL true (X i) = (X i).length)) ∧ MW G A am xa X P k 0 H)) 1 61 (A) := by
  refine mstart "SigntextModel" (by decide +kernel) rfl (Nat.le_of_ble_eq_true rfl) ?_
  intro p e s m below meth c ls hx hb hr hts hown hml hlocks hname hC hA hW hl
  have hl : lv_has ls 2 [(0, .ref am), (1, .int x)] := hl
  have hK := hC.1
  have hS : va_S A s.heap s.heap [] := va_S.rf
  obtain ⟨ra, pa, tx, hW⟩ := hW
  have hO := hW.obj
  have hAm := hW.1
  refine lv_aload_n hx hb dX4_isBlank_0 rfl (lv_at hl 0 rfl) ?_
  refine lv_iload_n hx hb dX4_isBlank_1 rfl (lv_at hl 1 rfl) ?_
  refine kS_i (A := A) (As := [.int x]) (rest := .ref am :: []) ⟨hx, hb, hml, hown, hts⟩ (mX4_isNone (A := A) ) (va_cwS 1 hts (gS tw_4_203 tw_4_204 tw_1_8 tw_4_205) rfl rfl rfl (by decide +kernel) ⟨Nat.le_of_ble_eq_true rfl, Nat.le_of_ble_eq_true rfl⟩) hC hS hA  trivial rfl rfl hl.1 (Nat.le_of_ble_eq_true rfl) ⟨Nat.zero_le _, Nat.zero_le _⟩ dX4_isBlank_2 (fun r_52 hr_52 => ?_)
  obtain ⟨r_52v, hr_52v, rfl⟩ := hr_52
  refine lv_iconst (v := nI 1) hx hb dX4_isBlank_5 (by decide) ?_
  cases r_52v
  · obtain ⟨i, hi, rfl⟩ : ∃ i : Nat, i < 4 ∧ x = nI i := Classical.byContradiction (fun q => Bool.noConfusion (hr_52v.mpr q))
    refine qI_V (A := A) (A1 := A) (b := am) (As := [.int (bI false), .int (nI 1)]) (rest := []) ⟨hx, hb, hml, hown, hts⟩ (mX4_start (A := A) (X := X) (P := P) (k := k) (xa := xa) (b := false) (w9 := 1) (by decide)) (cwV 2 hts (gV tw_4_206 tw_4_208 sel_X4_start tw_1_8 tw_4_209) rfl rfl rfl (by decide +kernel) ⟨Nat.le_of_ble_eq_true rfl, Nat.le_of_ble_eq_true rfl⟩) hC hS (fun _ h => h) (fun q h => hA q (Nat.le_trans hS.1 h)) (hW.recv hK) ⟨ra, pa, tx, hW⟩ rfl rfl hl.1 (Nat.le_of_ble_eq_true rfl) ⟨Nat.zero_le _, Nat.zero_le _⟩ dX4_isBlank_6 (fun rv53 H53 L53 hP53 hk53 hS => ?_)
    have hZ53 := hS.1
    obtain ⟨hr53, hM53⟩ := hP53
    subst hr53
    obtain ⟨ra, pa, tx, hW⟩ := hM53
    have hW : MWx G A am xa ra pa tx X P k (nI 0) H53 := hW
    have hO := hW.obj
    have hAm := hW.1
    refine f_ne (tgt := 30) hx hb dX4_isBlank_9 (by decide) (fun c_54 => ?_) (fun c_54 => ?_)
    · exact absurd c_54 (by decide)
    · refine lv_aload_n hx hb dX4_isBlank_12 rfl (lv_at hl 0 rfl) ?_
      refine va_get (D := G.1) (ci := 8) (C := RX4) (T := TX4) (N := 5) hx hb hts inX4 hown hK (at_P hO) 0 rfl rfl 1 (by decide) (hts _ tw_4_173) (fun _ h9 => h9) rfl dX4_isBlank_13 ?_
      refine lv_iload_n hx hb dX4_isBlank_16 rfl (lv_at hl 1 rfl) ?_
      refine h_aaldI (D := G.1) hx hb hK 4 hW.txs rfl (vp_in_nI (n := i) (N := 4) (by omega) (by omega)) dX4_isBlank_17 ?_
      refine v_cv (show va_rf _ = .ref (tx i) from by rw [nI_clamp (n := i) (by omega)]; rfl) ?_
      have hTi := (hW.tx (j := i) (by omega)).ia hC.2.1.2
      have x60i := hW.2.2.1 i (Or.inl (by omega))
      refine lv_iconst (v := nI 1) hx hb dX4_isBlank_18 (by decide) ?_
      have hra := hW.row.lt
      have i60 := x60i.2
      have ht0 := tbL_le true (X i)
      refine qR_S (A := A) (A1 := nw H53.size)  (As := [.ref (tx i), .int (bI true)]) (rest := []) ⟨hx, hb, hml, hown, hts⟩ (mX4_trimmed (A := nw H53.size) (sz := H53.size) (t := X i) (b := true) x60i.1 (by omega)) (va_cwS 2 hts (gS tw_5_9 tw_5_10 tw_1_8 tw_5_11) rfl rfl rfl (by decide +kernel) ⟨Nat.le_of_ble_eq_true rfl, Nat.le_of_ble_eq_true rfl⟩) hC hS (nw_in hA hS.1) nw_n  ⟨rfl, hTi⟩ rfl rfl hl.1 (Nat.le_of_ble_eq_true rfl) ⟨Nat.le_trans (show 0 + 1 ≤ 1 by omega) (Nat.le_of_ble_eq_true rfl), Nat.le_trans (show 0 + 61 ≤ 61 by omega) (Nat.le_of_ble_eq_true rfl)⟩ dX4_isBlank_19 (fun rv55 H55 L55 hP55 hk55 hS => ?_)
      have hZ55 := hS.1
      obtain ⟨hsz9, e9, he9, hR9⟩ := hP55
      have hW := hW.nw hk55
      have hR8 := hR9.ia hC.2.1.2
      have hcl := cutL_len (t := X i) (i := tbL true (X i)) (j := e9) he9.2.1
      have h12 := he9.1
      have h13 := he9.2.1
      refine h_ilen hx hb hC.2.1 hR8 dX4_isBlank_22 ?_
      refine z_ne (tgt := 30) hx hb dX4_isBlank_23 (by decide) (by omega) (fun c_56 => ?_) (fun c_56 => ?_)
      · refine lv_iconst (v := nI 0) hx hb dX4_isBlank_30 (by decide) ?_
        exact q_z (b9 := false) hx hb hr hlocks dX4_isBlank_31 hS (by omega) (by omega) (Or.inr (⟨i, hi, rfl, by rw [decide_eq_false (fun q => by omega)], ra, pa, tx, hW⟩))
      · refine lv_iconst (v := nI 1) hx hb dX4_isBlank_26 (by decide) ?_
        refine lv_goto (tgt := 31) hx hb dX4_isBlank_27 (by decide) ?_
        exact q_z (b9 := true) hx hb hr hlocks dX4_isBlank_31 hS (by omega) (by omega) (Or.inr (⟨i, hi, rfl, by rw [decide_eq_true (tbL_all he9 (by omega))], ra, pa, tx, hW⟩))
  · refine qI_V (A := A) (A1 := A) (b := am) (As := [.int (bI true), .int (nI 1)]) (rest := []) ⟨hx, hb, hml, hown, hts⟩ (mX4_start (A := A) (X := X) (P := P) (k := k) (xa := xa) (b := true) (w9 := 1) (by decide)) (cwV 2 hts (gV tw_4_206 tw_4_208 sel_X4_start tw_1_8 tw_4_209) rfl rfl rfl (by decide +kernel) ⟨Nat.le_of_ble_eq_true rfl, Nat.le_of_ble_eq_true rfl⟩) hC hS (fun _ h => h) (fun q h => hA q (Nat.le_trans hS.1 h)) (hW.recv hK) ⟨ra, pa, tx, hW⟩ rfl rfl hl.1 (Nat.le_of_ble_eq_true rfl) ⟨Nat.zero_le _, Nat.zero_le _⟩ dX4_isBlank_6 (fun rv57 H57 L57 hP57 hk57 hS => ?_)
    have hZ57 := hS.1
    obtain ⟨hr57, hM57⟩ := hP57
    subst hr57
    obtain ⟨ra, pa, tx, hW⟩ := hM57
    have hW : MWx G A am xa ra pa tx X P k (nI 1) H57 := hW
    have hO := hW.obj
    have hAm := hW.1
    refine f_ne (tgt := 30) hx hb dX4_isBlank_9 (by decide) (fun c_58 => ?_) (fun c_58 => ?_)
    · refine lv_iconst (v := nI 0) hx hb dX4_isBlank_30 (by decide) ?_
      exact q_z (b9 := false) hx hb hr hlocks dX4_isBlank_31 hS (by omega) (by omega) (Or.inl ⟨(hr_52v.mp rfl), rfl, ra, pa, tx, hW⟩)
    · exact absurd c_58 (by decide)
end
/-! 49.mod13 -/
section
/-! The model, 13: places asked for -/
theorem stL_one {t : List Nat} {d k : Nat} : stL false t [d] k ↔ k < t.length ∧ t.getD k 0 = d := by
  constructor
  · rintro ⟨h1, h2⟩
    have h3 := h2 0 (by show 0 < 1; decide)
    exact ⟨h1, h3⟩
  · rintro ⟨h1, h2⟩
    refine ⟨h1, fun q hq => ?_⟩
    obtain rfl : q = 0 := Nat.lt_one_iff.mp hq
    exact h2
theorem fstR_cg {P Q : Nat → Prop} (h : ∀ k, P k ↔ Q k) {r : Int32} (hr : fstR P r) : fstR Q r := by
  rcases hr with ⟨k, h1, h2, h3⟩ | ⟨h1, h2⟩
  · exact Or.inl ⟨k, (h k).mp h1, fun j hj q => h2 j hj ((h j).mpr q), h3⟩
  · exact Or.inr ⟨fun k q => h1 k ((h k).mpr q), h2⟩
theorem lstR_cg {P Q : Nat → Prop} (h : ∀ k, P k ↔ Q k) {r : Int32} (hr : lstR P r) : lstR Q r := by
  rcases hr with ⟨k, h1, h2, h3⟩ | ⟨h1, h2⟩
  · exact Or.inl ⟨k, (h k).mp h1, fun j hj q => h2 j hj ((h j).mpr q), h3⟩
  · exact Or.inr ⟨fun k q => h1 k ((h k).mpr q), h2⟩
theorem fstR_pos {P : Nat → Prop} {r : Int32} (h : fstR P r) (hb : ∀ k, P k → k < 2 ^ 31) {k : Nat} (hk : P k) : ¬ r < 0 := by
  rcases h with ⟨j, h1, -, rfl⟩ | ⟨h1, -⟩
  · exact nI_pos (hb j h1)
  · exact absurd hk (h1 k)
theorem fstR_ex {P : Nat → Prop} {r : Int32} (h : fstR P r) (hr : ¬ r < 0) : ∃ k, P k := by
  rcases h with ⟨j, h1, -⟩ | ⟨-, rfl⟩
  · exact ⟨j, h1⟩
  · exact absurd (by decide) hr
theorem dX4_first__0 : decode cX4_first_ 0 = .ok (.aload_n 0, 1) := by decide +kernel
theorem dX4_first__1 : decode cX4_first_ 1 = .ok (.iload_n 1, 1) := by decide +kernel
theorem dX4_first__2 : decode cX4_first_ 2 = .ok (.invokestatic 107, 3) := by decide +kernel
theorem dX4_first__5 : decode cX4_first_ 5 = .ok (.iconst 1, 1) := by decide +kernel
theorem dX4_first__6 : decode cX4_first_ 6 = .ok (.invokevirtual 110, 3) := by decide +kernel
theorem dX4_first__9 : decode cX4_first_ 9 = .ok (.ifCond .ne 15, 3) := by decide +kernel
theorem dX4_first__12 : decode cX4_first_ 12 = .ok (.aload_n 0, 1) := by decide +kernel
theorem dX4_first__13 : decode cX4_first_ 13 = .ok (.iload_n 2, 1) := by decide +kernel
theorem dX4_first__14 : decode cX4_first_ 14 = .ok (.invokestatic 100, 3) := by decide +kernel
theorem dX4_first__17 : decode cX4_first_ 17 = .ok (.iconst 2, 1) := by decide +kernel
theorem dX4_first__18 : decode cX4_first_ 18 = .ok (.invokevirtual 86, 3) := by decide +kernel
theorem dX4_first__21 : decode cX4_first_ 21 = .ok (.ifCond .eq 7, 3) := by decide +kernel
theorem dX4_first__24 : decode cX4_first_ 24 = .ok (.iconst 0, 1) := by decide +kernel
theorem dX4_first__25 : decode cX4_first_ 25 = .ok (.goto 23, 3) := by decide +kernel
theorem dX4_first__28 : decode cX4_first_ 28 = .ok (.aload_n 0, 1) := by decide +kernel
theorem dX4_first__29 : decode cX4_first_ 29 = .ok (.getfield 72, 3) := by decide +kernel
theorem dX4_first__32 : decode cX4_first_ 32 = .ok (.iload_n 1, 1) := by decide +kernel
theorem dX4_first__33 : decode cX4_first_ 33 = .ok (.aaload, 1) := by decide +kernel
theorem dX4_first__34 : decode cX4_first_ 34 = .ok (.iconst 1, 1) := by decide +kernel
theorem dX4_first__35 : decode cX4_first_ 35 = .ok (.newarray .int, 2) := by decide +kernel
theorem dX4_first__37 : decode cX4_first_ 37 = .ok (.dup, 1) := by decide +kernel
theorem dX4_first__38 : decode cX4_first_ 38 = .ok (.iconst 0, 1) := by decide +kernel
theorem dX4_first__39 : decode cX4_first_ 39 = .ok (.getstatic 94, 3) := by decide +kernel
theorem dX4_first__42 : decode cX4_first_ 42 = .ok (.iload_n 2, 1) := by decide +kernel
theorem dX4_first__43 : decode cX4_first_ 43 = .ok (.iaload, 1) := by decide +kernel
theorem dX4_first__44 : decode cX4_first_ 44 = .ok (.iastore, 1) := by decide +kernel
theorem dX4_first__45 : decode cX4_first_ 45 = .ok (.invokestatic 160, 3) := by decide +kernel
theorem dX4_first__48 : decode cX4_first_ 48 = .ok (.ireturn, 1) := by decide +kernel
theorem dX4_last__0 : decode cX4_last_ 0 = .ok (.aload_n 0, 1) := by decide +kernel
theorem dX4_last__1 : decode cX4_last_ 1 = .ok (.iload_n 1, 1) := by decide +kernel
theorem dX4_last__2 : decode cX4_last_ 2 = .ok (.invokestatic 107, 3) := by decide +kernel
theorem dX4_last__5 : decode cX4_last_ 5 = .ok (.iconst 1, 1) := by decide +kernel
theorem dX4_last__6 : decode cX4_last_ 6 = .ok (.invokevirtual 110, 3) := by decide +kernel
theorem dX4_last__9 : decode cX4_last_ 9 = .ok (.ifCond .ne 15, 3) := by decide +kernel
theorem dX4_last__12 : decode cX4_last_ 12 = .ok (.aload_n 0, 1) := by decide +kernel
theorem dX4_last__13 : decode cX4_last_ 13 = .ok (.iload_n 2, 1) := by decide +kernel
theorem dX4_last__14 : decode cX4_last_ 14 = .ok (.invokestatic 100, 3) := by decide +kernel
theorem dX4_last__17 : decode cX4_last_ 17 = .ok (.iconst 2, 1) := by decide +kernel
theorem dX4_last__18 : decode cX4_last_ 18 = .ok (.invokevirtual 86, 3) := by decide +kernel
theorem dX4_last__21 : decode cX4_last_ 21 = .ok (.ifCond .eq 7, 3) := by decide +kernel
theorem dX4_last__24 : decode cX4_last_ 24 = .ok (.iconst 0, 1) := by decide +kernel
theorem dX4_last__25 : decode cX4_last_ 25 = .ok (.goto 23, 3) := by decide +kernel
theorem dX4_last__28 : decode cX4_last_ 28 = .ok (.aload_n 0, 1) := by decide +kernel
theorem dX4_last__29 : decode cX4_last_ 29 = .ok (.getfield 72, 3) := by decide +kernel
theorem dX4_last__32 : decode cX4_last_ 32 = .ok (.iload_n 1, 1) := by decide +kernel
theorem dX4_last__33 : decode cX4_last_ 33 = .ok (.aaload, 1) := by decide +kernel
theorem dX4_last__34 : decode cX4_last_ 34 = .ok (.iconst 1, 1) := by decide +kernel
theorem dX4_last__35 : decode cX4_last_ 35 = .ok (.newarray .int, 2) := by decide +kernel
theorem dX4_last__37 : decode cX4_last_ 37 = .ok (.dup, 1) := by decide +kernel
theorem dX4_last__38 : decode cX4_last_ 38 = .ok (.iconst 0, 1) := by decide +kernel
theorem dX4_last__39 : decode cX4_last_ 39 = .ok (.getstatic 94, 3) := by decide +kernel
theorem dX4_last__42 : decode cX4_last_ 42 = .ok (.iload_n 2, 1) := by decide +kernel
theorem dX4_last__43 : decode cX4_last_ 43 = .ok (.iaload, 1) := by decide +kernel
theorem dX4_last__44 : decode cX4_last_ 44 = .ok (.iastore, 1) := by decide +kernel
theorem dX4_last__45 : decode cX4_last_ 45 = .ok (.invokestatic 164, 3) := by decide +kernel
theorem dX4_last__48 : decode cX4_last_ 48 = .ok (.ireturn, 1) := by decide +kernel
theorem dX4_next_0 : decode cX4_next 0 = .ok (.aload_n 0, 1) := by decide +kernel
theorem dX4_next_1 : decode cX4_next 1 = .ok (.iload_n 1, 1) := by decide +kernel
theorem dX4_next_2 : decode cX4_next 2 = .ok (.invokestatic 107, 3) := by decide +kernel
theorem dX4_next_5 : decode cX4_next 5 = .ok (.iconst 1, 1) := by decide +kernel
theorem dX4_next_6 : decode cX4_next 6 = .ok (.invokevirtual 110, 3) := by decide +kernel
theorem dX4_next_9 : decode cX4_next 9 = .ok (.ifCond .ne 43, 3) := by decide +kernel
theorem dX4_next_12 : decode cX4_next 12 = .ok (.aload_n 0, 1) := by decide +kernel
theorem dX4_next_13 : decode cX4_next 13 = .ok (.iload_n 2, 1) := by decide +kernel
theorem dX4_next_14 : decode cX4_next 14 = .ok (.iconst 0, 1) := by decide +kernel
theorem dX4_next_15 : decode cX4_next 15 = .ok (.aload_n 0, 1) := by decide +kernel
theorem dX4_next_16 : decode cX4_next 16 = .ok (.getfield 72, 3) := by decide +kernel
theorem dX4_next_19 : decode cX4_next 19 = .ok (.iload_n 1, 1) := by decide +kernel
theorem dX4_next_20 : decode cX4_next 20 = .ok (.aaload, 1) := by decide +kernel
theorem dX4_next_21 : decode cX4_next 21 = .ok (.arraylength, 1) := by decide +kernel
theorem dX4_next_22 : decode cX4_next 22 = .ok (.invokestatic 90, 3) := by decide +kernel
theorem dX4_next_25 : decode cX4_next 25 = .ok (.ifCond .ne 7, 3) := by decide +kernel
theorem dX4_next_28 : decode cX4_next 28 = .ok (.iconst 1, 1) := by decide +kernel
theorem dX4_next_29 : decode cX4_next 29 = .ok (.goto 4, 3) := by decide +kernel
theorem dX4_next_32 : decode cX4_next 32 = .ok (.iconst 0, 1) := by decide +kernel
theorem dX4_next_33 : decode cX4_next 33 = .ok (.iconst 1, 1) := by decide +kernel
theorem dX4_next_34 : decode cX4_next 34 = .ok (.invokevirtual 86, 3) := by decide +kernel
theorem dX4_next_37 : decode cX4_next 37 = .ok (.ifCond .ne 15, 3) := by decide +kernel
theorem dX4_next_40 : decode cX4_next 40 = .ok (.aload_n 0, 1) := by decide +kernel
theorem dX4_next_41 : decode cX4_next 41 = .ok (.iload_n 3, 1) := by decide +kernel
theorem dX4_next_42 : decode cX4_next 42 = .ok (.invokestatic 100, 3) := by decide +kernel
theorem dX4_next_45 : decode cX4_next 45 = .ok (.iconst 2, 1) := by decide +kernel
theorem dX4_next_46 : decode cX4_next 46 = .ok (.invokevirtual 86, 3) := by decide +kernel
theorem dX4_next_49 : decode cX4_next 49 = .ok (.ifCond .eq 5, 3) := by decide +kernel
theorem dX4_next_52 : decode cX4_next 52 = .ok (.iconst 0, 1) := by decide +kernel
theorem dX4_next_53 : decode cX4_next 53 = .ok (.ireturn, 1) := by decide +kernel
theorem dX4_next_54 : decode cX4_next 54 = .ok (.iload_n 2, 1) := by decide +kernel
theorem dX4_next_55 : decode cX4_next 55 = .ok (.istore 4, 2) := by decide +kernel
theorem dX4_next_57 : decode cX4_next 57 = .ok (.iload 4, 2) := by decide +kernel
theorem dX4_next_59 : decode cX4_next 59 = .ok (.aload_n 0, 1) := by decide +kernel
theorem dX4_next_60 : decode cX4_next 60 = .ok (.getfield 72, 3) := by decide +kernel
theorem dX4_next_63 : decode cX4_next 63 = .ok (.iload_n 1, 1) := by decide +kernel
theorem dX4_next_64 : decode cX4_next 64 = .ok (.aaload, 1) := by decide +kernel
theorem dX4_next_65 : decode cX4_next 65 = .ok (.arraylength, 1) := by decide +kernel
theorem dX4_next_66 : decode cX4_next 66 = .ok (.if_icmp .ge 29, 3) := by decide +kernel
theorem dX4_next_69 : decode cX4_next 69 = .ok (.aload_n 0, 1) := by decide +kernel
theorem dX4_next_70 : decode cX4_next 70 = .ok (.getfield 72, 3) := by decide +kernel
theorem dX4_next_73 : decode cX4_next 73 = .ok (.iload_n 1, 1) := by decide +kernel
theorem dX4_next_74 : decode cX4_next 74 = .ok (.aaload, 1) := by decide +kernel
theorem dX4_next_75 : decode cX4_next 75 = .ok (.iload 4, 2) := by decide +kernel
theorem dX4_next_77 : decode cX4_next 77 = .ok (.iaload, 1) := by decide +kernel
theorem dX4_next_78 : decode cX4_next 78 = .ok (.getstatic 94, 3) := by decide +kernel
theorem dX4_next_81 : decode cX4_next 81 = .ok (.iload_n 3, 1) := by decide +kernel
theorem dX4_next_82 : decode cX4_next 82 = .ok (.iaload, 1) := by decide +kernel
theorem dX4_next_83 : decode cX4_next 83 = .ok (.if_icmp .ne 6, 3) := by decide +kernel
theorem dX4_next_86 : decode cX4_next 86 = .ok (.iload 4, 2) := by decide +kernel
theorem dX4_next_88 : decode cX4_next 88 = .ok (.ireturn, 1) := by decide +kernel
theorem dX4_next_89 : decode cX4_next 89 = .ok (.iinc 4 1, 3) := by decide +kernel
theorem dX4_next_92 : decode cX4_next 92 = .ok (.goto (-35), 3) := by decide +kernel
theorem dX4_next_95 : decode cX4_next 95 = .ok (.iconst (-1), 1) := by decide +kernel
theorem dX4_next_96 : decode cX4_next 96 = .ok (.ireturn, 1) := by decide +kernel
theorem dX4_begins_0 : decode cX4_begins 0 = .ok (.aload_n 0, 1) := by decide +kernel
theorem dX4_begins_1 : decode cX4_begins 1 = .ok (.iload_n 1, 1) := by decide +kernel
theorem dX4_begins_2 : decode cX4_begins 2 = .ok (.invokestatic 107, 3) := by decide +kernel
theorem dX4_begins_5 : decode cX4_begins 5 = .ok (.iconst 1, 1) := by decide +kernel
theorem dX4_begins_6 : decode cX4_begins 6 = .ok (.invokevirtual 110, 3) := by decide +kernel
theorem dX4_begins_9 : decode cX4_begins 9 = .ok (.ifCond .ne 15, 3) := by decide +kernel
theorem dX4_begins_12 : decode cX4_begins 12 = .ok (.aload_n 0, 1) := by decide +kernel
theorem dX4_begins_13 : decode cX4_begins 13 = .ok (.iload_n 2, 1) := by decide +kernel
theorem dX4_begins_14 : decode cX4_begins 14 = .ok (.invokestatic 135, 3) := by decide +kernel
theorem dX4_begins_17 : decode cX4_begins 17 = .ok (.iconst 2, 1) := by decide +kernel
theorem dX4_begins_18 : decode cX4_begins 18 = .ok (.invokevirtual 86, 3) := by decide +kernel
theorem dX4_begins_21 : decode cX4_begins 21 = .ok (.ifCond .eq 5, 3) := by decide +kernel
theorem dX4_begins_24 : decode cX4_begins 24 = .ok (.iconst 0, 1) := by decide +kernel
theorem dX4_begins_25 : decode cX4_begins 25 = .ok (.ireturn, 1) := by decide +kernel
theorem dX4_begins_26 : decode cX4_begins 26 = .ok (.aload_n 0, 1) := by decide +kernel
theorem dX4_begins_27 : decode cX4_begins 27 = .ok (.getfield 72, 3) := by decide +kernel
theorem dX4_begins_30 : decode cX4_begins 30 = .ok (.iload_n 1, 1) := by decide +kernel
theorem dX4_begins_31 : decode cX4_begins 31 = .ok (.aaload, 1) := by decide +kernel
theorem dX4_begins_32 : decode cX4_begins 32 = .ok (.iload_n 3, 1) := by decide +kernel
theorem dX4_begins_33 : decode cX4_begins 33 = .ok (.ifCond .eq 20, 3) := by decide +kernel
theorem dX4_begins_36 : decode cX4_begins 36 = .ok (.aload_n 0, 1) := by decide +kernel
theorem dX4_begins_37 : decode cX4_begins 37 = .ok (.getfield 72, 3) := by decide +kernel
theorem dX4_begins_40 : decode cX4_begins 40 = .ok (.iload_n 1, 1) := by decide +kernel
theorem dX4_begins_41 : decode cX4_begins 41 = .ok (.aaload, 1) := by decide +kernel
theorem dX4_begins_42 : decode cX4_begins 42 = .ok (.arraylength, 1) := by decide +kernel
theorem dX4_begins_43 : decode cX4_begins 43 = .ok (.getstatic 97, 3) := by decide +kernel
theorem dX4_begins_46 : decode cX4_begins 46 = .ok (.iload_n 2, 1) := by decide +kernel
theorem dX4_begins_47 : decode cX4_begins 47 = .ok (.aaload, 1) := by decide +kernel
theorem dX4_begins_48 : decode cX4_begins 48 = .ok (.arraylength, 1) := by decide +kernel
theorem dX4_begins_49 : decode cX4_begins 49 = .ok (.isub, 1) := by decide +kernel
theorem dX4_begins_50 : decode cX4_begins 50 = .ok (.goto 4, 3) := by decide +kernel
theorem dX4_begins_53 : decode cX4_begins 53 = .ok (.iconst 0, 1) := by decide +kernel
theorem dX4_begins_54 : decode cX4_begins 54 = .ok (.getstatic 97, 3) := by decide +kernel
theorem dX4_begins_57 : decode cX4_begins 57 = .ok (.iload_n 2, 1) := by decide +kernel
theorem dX4_begins_58 : decode cX4_begins 58 = .ok (.aaload, 1) := by decide +kernel
theorem dX4_begins_59 : decode cX4_begins 59 = .ok (.iconst 0, 1) := by decide +kernel
theorem dX4_begins_60 : decode cX4_begins 60 = .ok (.invokestatic 39, 3) := by decide +kernel
theorem dX4_begins_63 : decode cX4_begins 63 = .ok (.ireturn, 1) := by decide +kernel
theorem dX4_stands__0 : decode cX4_stands_ 0 = .ok (.aload_n 0, 1) := by decide +kernel
theorem dX4_stands__1 : decode cX4_stands_ 1 = .ok (.iload_n 1, 1) := by decide +kernel
theorem dX4_stands__2 : decode cX4_stands_ 2 = .ok (.invokestatic 107, 3) := by decide +kernel
theorem dX4_stands__5 : decode cX4_stands_ 5 = .ok (.iconst 1, 1) := by decide +kernel
theorem dX4_stands__6 : decode cX4_stands_ 6 = .ok (.invokevirtual 110, 3) := by decide +kernel
theorem dX4_stands__9 : decode cX4_stands_ 9 = .ok (.ifCond .ne 39, 3) := by decide +kernel
theorem dX4_stands__12 : decode cX4_stands_ 12 = .ok (.aload_n 0, 1) := by decide +kernel
theorem dX4_stands__13 : decode cX4_stands_ 13 = .ok (.iload_n 3, 1) := by decide +kernel
theorem dX4_stands__14 : decode cX4_stands_ 14 = .ok (.invokestatic 135, 3) := by decide +kernel
theorem dX4_stands__17 : decode cX4_stands_ 17 = .ok (.iconst 2, 1) := by decide +kernel
theorem dX4_stands__18 : decode cX4_stands_ 18 = .ok (.invokevirtual 86, 3) := by decide +kernel
theorem dX4_stands__21 : decode cX4_stands_ 21 = .ok (.ifCond .ne 27, 3) := by decide +kernel
theorem dX4_stands__24 : decode cX4_stands_ 24 = .ok (.aload_n 0, 1) := by decide +kernel
theorem dX4_stands__25 : decode cX4_stands_ 25 = .ok (.getfield 72, 3) := by decide +kernel
theorem dX4_stands__28 : decode cX4_stands_ 28 = .ok (.iload_n 1, 1) := by decide +kernel
theorem dX4_stands__29 : decode cX4_stands_ 29 = .ok (.aaload, 1) := by decide +kernel
theorem dX4_stands__30 : decode cX4_stands_ 30 = .ok (.iload_n 2, 1) := by decide +kernel
theorem dX4_stands__31 : decode cX4_stands_ 31 = .ok (.getstatic 97, 3) := by decide +kernel
theorem dX4_stands__34 : decode cX4_stands_ 34 = .ok (.iload_n 3, 1) := by decide +kernel
theorem dX4_stands__35 : decode cX4_stands_ 35 = .ok (.aaload, 1) := by decide +kernel
theorem dX4_stands__36 : decode cX4_stands_ 36 = .ok (.iload 4, 2) := by decide +kernel
theorem dX4_stands__38 : decode cX4_stands_ 38 = .ok (.invokestatic 39, 3) := by decide +kernel
theorem dX4_stands__41 : decode cX4_stands_ 41 = .ok (.ifCond .eq 7, 3) := by decide +kernel
theorem dX4_stands__44 : decode cX4_stands_ 44 = .ok (.iconst 1, 1) := by decide +kernel
theorem dX4_stands__45 : decode cX4_stands_ 45 = .ok (.goto 4, 3) := by decide +kernel
theorem dX4_stands__48 : decode cX4_stands_ 48 = .ok (.iconst 0, 1) := by decide +kernel
theorem dX4_stands__49 : decode cX4_stands_ 49 = .ok (.ireturn, 1) := by decide +kernel
theorem dX4_isIn__0 : decode cX4_isIn_ 0 = .ok (.aload_n 0, 1) := by decide +kernel
theorem dX4_isIn__1 : decode cX4_isIn_ 1 = .ok (.aload_n 0, 1) := by decide +kernel
theorem dX4_isIn__2 : decode cX4_isIn_ 2 = .ok (.iload_n 1, 1) := by decide +kernel
theorem dX4_isIn__3 : decode cX4_isIn_ 3 = .ok (.iload_n 2, 1) := by decide +kernel
theorem dX4_isIn__4 : decode cX4_isIn_ 4 = .ok (.invokevirtual 167, 3) := by decide +kernel
theorem dX4_isIn__7 : decode cX4_isIn_ 7 = .ok (.iconst 1, 1) := by decide +kernel
theorem dX4_isIn__8 : decode cX4_isIn_ 8 = .ok (.invokevirtual 110, 3) := by decide +kernel
theorem dX4_isIn__11 : decode cX4_isIn_ 11 = .ok (.ifCond .ne 25, 3) := by decide +kernel
theorem dX4_isIn__14 : decode cX4_isIn_ 14 = .ok (.aload_n 0, 1) := by decide +kernel
theorem dX4_isIn__15 : decode cX4_isIn_ 15 = .ok (.getfield 72, 3) := by decide +kernel
theorem dX4_isIn__18 : decode cX4_isIn_ 18 = .ok (.iload_n 1, 1) := by decide +kernel
theorem dX4_isIn__19 : decode cX4_isIn_ 19 = .ok (.aaload, 1) := by decide +kernel
theorem dX4_isIn__20 : decode cX4_isIn_ 20 = .ok (.aload_n 0, 1) := by decide +kernel
theorem dX4_isIn__21 : decode cX4_isIn_ 21 = .ok (.getfield 72, 3) := by decide +kernel
theorem dX4_isIn__24 : decode cX4_isIn_ 24 = .ok (.iload_n 2, 1) := by decide +kernel
theorem dX4_isIn__25 : decode cX4_isIn_ 25 = .ok (.aaload, 1) := by decide +kernel
theorem dX4_isIn__26 : decode cX4_isIn_ 26 = .ok (.invokestatic 160, 3) := by decide +kernel
theorem dX4_isIn__29 : decode cX4_isIn_ 29 = .ok (.ifCond .lt 7, 3) := by decide +kernel
theorem dX4_isIn__32 : decode cX4_isIn_ 32 = .ok (.iconst 1, 1) := by decide +kernel
theorem dX4_isIn__33 : decode cX4_isIn_ 33 = .ok (.goto 4, 3) := by decide +kernel
theorem dX4_isIn__36 : decode cX4_isIn_ 36 = .ok (.iconst 0, 1) := by decide +kernel
theorem dX4_isIn__37 : decode cX4_isIn_ 37 = .ok (.ireturn, 1) := by decide +kernel
abbrev rmX4_first_ : Room := { frames := 3, cells := 1, slots := 1, locals := 66 }
theorem mX4_first_ {l : Launch} {G : Cx} {A : Nat → Prop} {am xa : Nat} {X : Nat → List Nat} {P : List (List Nat)} {k : Int32} {x y th : Int32} : Met l yX4_first_ (.code yX4_first_ cX4_first_ 3 (some .int) :: GW) rmX4_first_ (PC G A [.ref am, .int x, .int y] (MW G A am xa X P k th)) (qI A (fun r H => ((NT x) ∧ r = 0 ∧ MW G A am xa X P k 1 H) ∨ (((∃ i : Nat, i < 4 ∧ x = nI i) ∧ NS y) ∧ r = 0 ∧ MW G A am xa X P k 2 H) ∨ ∃ i j : Nat, i < 4 ∧ x = nI i ∧ j < 24 ∧ y = nI j ∧ fstR (fun k9 => 0 ≤ k9 ∧ k9 < (X i).length ∧ (X i).getD k9 0 = codeT.getD j 0) r ∧ MW G A am xa X P k 0 H)) 1 1 (A) := by
  refine mstart "SigntextModel" (by decide +kernel) rfl (Nat.le_of_ble_eq_true rfl) ?_
  intro p e s m below meth c ls hx hb hr hts hown hml hlocks hname hC hA hW hl
  have hl : lv_has ls 3 [(0, .ref am), (1, .int x), (2, .int y)] := hl
  have hK := hC.1
  have hS : va_S A s.heap s.heap [] := va_S.rf
  obtain ⟨ra, pa, tx, hW⟩ := hW
  have hO := hW.obj
  have hAm := hW.1
  obtain ⟨-, -, zc3, zc4, zc5, zc6, zc7, -⟩ := hC.2.2.1
  refine lv_aload_n hx hb dX4_first__0 rfl (lv_at hl 0 rfl) ?_
  refine lv_iload_n hx hb dX4_first__1 rfl (lv_at hl 1 rfl) ?_
  refine kS_i (A := A) (As := [.int x]) (rest := .ref am :: []) ⟨hx, hb, hml, hown, hts⟩ (mX4_isNone (A := A) ) (va_cwS 1 hts (gS tw_4_203 tw_4_204 tw_1_8 tw_4_205) rfl rfl rfl (by decide +kernel) ⟨Nat.le_of_ble_eq_true rfl, Nat.le_of_ble_eq_true rfl⟩) hC hS hA  trivial rfl rfl hl.1 (Nat.le_of_ble_eq_true rfl) ⟨Nat.zero_le _, Nat.zero_le _⟩ dX4_first__2 (fun r_1 hr_1 => ?_)
  obtain ⟨r_1v, hr_1v, rfl⟩ := hr_1
  refine lv_iconst (v := nI 1) hx hb dX4_first__5 (by decide) ?_
  cases r_1v
  · obtain ⟨i, hi, rfl⟩ : ∃ i : Nat, i < 4 ∧ x = nI i := Classical.byContradiction (fun q => Bool.noConfusion (hr_1v.mpr q))
    refine qI_V (A := A) (A1 := A) (b := am) (As := [.int (bI false), .int (nI 1)]) (rest := []) ⟨hx, hb, hml, hown, hts⟩ (mX4_start (A := A) (X := X) (P := P) (k := k) (xa := xa) (b := false) (w9 := 1) (by decide)) (cwV 2 hts (gV tw_4_206 tw_4_208 sel_X4_start tw_1_8 tw_4_209) rfl rfl rfl (by decide +kernel) ⟨Nat.le_of_ble_eq_true rfl, Nat.le_of_ble_eq_true rfl⟩) hC hS (fun _ h => h) (fun q h => hA q (Nat.le_trans hS.1 h)) (hW.recv hK) ⟨ra, pa, tx, hW⟩ rfl rfl hl.1 (Nat.le_of_ble_eq_true rfl) ⟨Nat.zero_le _, Nat.zero_le _⟩ dX4_first__6 (fun rv2 H2 L2 hP2 hk2 hS => ?_)
    have hZ2 := hS.1
    obtain ⟨hr2, hM2⟩ := hP2
    subst hr2
    obtain ⟨ra, pa, tx, hW⟩ := hM2
    have hW : MWx G A am xa ra pa tx X P k (nI 0) H2 := hW
    have hO := hW.obj
    have hAm := hW.1
    refine f_ne (tgt := 24) hx hb dX4_first__9 (by decide) (fun c_3 => ?_) (fun c_3 => ?_)
    · exact absurd c_3 (by decide)
    · refine lv_aload_n hx hb dX4_first__12 rfl (lv_at hl 0 rfl) ?_
      refine lv_iload_n hx hb dX4_first__13 rfl (lv_at hl 2 rfl) ?_
      refine kS_i (A := A) (As := [.int y]) (rest := .ref am :: []) ⟨hx, hb, hml, hown, hts⟩ (mX4_isNoSign (A := A) ) (va_cwS 1 hts (gS tw_4_192 tw_4_193 tw_1_8 tw_4_194) rfl rfl rfl (by decide +kernel) ⟨Nat.le_of_ble_eq_true rfl, Nat.le_of_ble_eq_true rfl⟩) hC hS hA  trivial rfl rfl hl.1 (Nat.le_of_ble_eq_true rfl) ⟨Nat.zero_le _, Nat.zero_le _⟩ dX4_first__14 (fun r_4 hr_4 => ?_)
      obtain ⟨r_4v, hr_4v, rfl⟩ := hr_4
      refine lv_iconst (v := nI 2) hx hb dX4_first__17 (by decide) ?_
      cases r_4v
      · obtain ⟨j, hj, rfl⟩ : ∃ j : Nat, j < 24 ∧ y = nI j := Classical.byContradiction (fun q => Bool.noConfusion (hr_4v.mpr q))
        refine qI_V (A := A) (A1 := A) (b := am) (As := [.int (bI false), .int (nI 2)]) (rest := []) ⟨hx, hb, hml, hown, hts⟩ (mX4_refuse (A := A) (X := X) (P := P) (k := k) (xa := xa) (b := false) (th := 0) (w9 := 2) (by decide) (by decide)) (cwV 2 hts (gV tw_4_210 tw_4_212 sel_X4_refuse tw_1_8 tw_4_213) rfl rfl rfl (by decide +kernel) ⟨Nat.le_of_ble_eq_true rfl, Nat.le_of_ble_eq_true rfl⟩) hC hS (fun _ h => h) (fun q h => hA q (Nat.le_trans hS.1 h)) (hW.recv hK) ⟨ra, pa, tx, hW⟩ rfl rfl hl.1 (Nat.le_of_ble_eq_true rfl) ⟨Nat.zero_le _, Nat.zero_le _⟩ dX4_first__18 (fun rv5 H5 L5 hP5 hk5 hS => ?_)
        have hZ5 := hS.1
        obtain ⟨hr5, hM5⟩ := hP5
        subst hr5
        obtain ⟨ra, pa, tx, hW⟩ := hM5
        have hW : MWx G A am xa ra pa tx X P k (nI 0) H5 := hW
        have hO := hW.obj
        have hAm := hW.1
        refine f_eq (tgt := 28) hx hb dX4_first__21 (by decide) (fun c_6 => ?_) (fun c_6 => ?_)
        · refine lv_aload_n hx hb dX4_first__28 rfl (lv_at hl 0 rfl) ?_
          refine va_get (D := G.1) (ci := 8) (C := RX4) (T := TX4) (N := 5) hx hb hts inX4 hown hK (at_P hO) 0 rfl rfl 1 (by decide) (hts _ tw_4_173) (fun _ h9 => h9) rfl dX4_first__29 ?_
          refine lv_iload_n hx hb dX4_first__32 rfl (lv_at hl 1 rfl) ?_
          refine h_aaldI (D := G.1) hx hb hK 4 hW.txs rfl (vp_in_nI (n := i) (N := 4) (by omega) (by omega)) dX4_first__33 ?_
          refine v_cv (show va_rf _ = .ref (tx i) from by rw [nI_clamp (n := i) (by omega)]; rfl) ?_
          refine lv_iconst (v := nI 1) hx hb dX4_first__34 (by decide) ?_
          have hW0 := hW
          refine h_newa (D := G.1) (atype := .int) (N := 1) (z := (1, .inl (fun _ => 0))) hx hb (hts _ tw_1_70) rfl (fun h => h) hK 0 rfl hS rfl (nI_pos (by omega)) (nI_clamp (by omega)) (show 1 * _ ≤ _ from by show 1 * 4 ≤ 536870912; omega) (Nat.le_trans (show 0 + 1 ≤ 1 by omega) (Nat.le_of_ble_eq_true rfl)) (Nat.le_trans (show 0 + 1 ≤ 1 by omega) (Nat.le_of_ble_eq_true rfl)) dX4_first__35 (fun na H7 hna hFna z7 o7 hS => ?_)
          have hZ7 := hS.1
          have hMna : A na := hA na (by omega)
          refine lv_dup hx hb dX4_first__37 rfl ?_
          refine lv_iconst (v := nI 0) hx hb dX4_first__38 (by decide) ?_
          refine va_gets (v := .ref (G.2.2 1)) hx hb zc3 hS hown (hts _ tw_4_195) (fun _ h9 => h9) dX4_first__39 ?_
          refine lv_iload_n hx hb dX4_first__42 rfl (lv_at hl 2 rfl) ?_
          refine va_ti (v := .int (nI (codeT.getD j 0))) hx hb zc4 hS (vp_in_nI (n := j) (N := 24) (by omega) (by omega)) (by rw [nI_clamp (n := j) (by omega)]) dX4_first__43 ?_
          refine h_ist (D := G.1) hx hb hK 0 hFna rfl hS hMna (vp_in_nI (n := 0) (N := 1) (by omega) (by omega)) dX4_first__44 (fun H8 L8 hFna z8 o8 hS => ?_)
          rw [nI_clamp (n := 0) (by omega)] at hFna
          have hZ8 := hS.1
          have hk9 : kp (nw H5.size) H5 H8 := kp_new1 hna z7 o7 z8 o8
          have hN1 : IA0 G na [codeT.getD j 0] H8 := IA0.mk hFna rfl (fun q hq => by obtain rfl : q = 0 := (by omega); exact pk_us)
          have hW := hW0.nw hk9
          have hO := hW.obj
          have hAm := hW.1
          have hTi := (hW.tx (j := i) (by omega)).ia hC.2.1.2
          have x60i := hW.2.2.1 i (Or.inl (by omega))
          have i60 := x60i.2
          refine kS_i (A := A) (As := [.ref (tx i), .ref na]) (rest := []) ⟨hx, hb, hml, hown, hts⟩ (mX4_first (A := A) (t := X i) (u := [codeT.getD j 0]) x60i.1 (okc_one (codeT_lt j)) (by omega) (by show 1 ≤ 61; decide)) (va_cwS 2 hts (gS tw_6_172 tw_6_173 tw_1_8 tw_6_174) rfl rfl rfl (by decide +kernel) ⟨Nat.le_of_ble_eq_true rfl, Nat.le_of_ble_eq_true rfl⟩) hC hS hA  ⟨hTi, hN1.ia hC.2.1.2⟩ rfl rfl hl.1 (Nat.le_of_ble_eq_true rfl) ⟨Nat.le_trans (show (0 + 1) ≤ 1 by omega) (Nat.le_of_ble_eq_true rfl), Nat.le_trans (show (0 + 1) ≤ 1 by omega) (Nat.le_of_ble_eq_true rfl)⟩ dX4_first__45 (fun r_9 hr_9 => ?_)
          have h7 : fstR (fun k9 => stL false (X i) [codeT.getD j 0] k9) r_9 := hr_9
          exact q_i hx hb hr hlocks dX4_first__48 hS (by omega) (by omega) (Or.inr (Or.inr (⟨i, j, hi, rfl, hj, rfl, fstR_cg (fun k9 => ⟨fun q => ⟨Nat.zero_le _, stL_one.mp q⟩, fun q => stL_one.mpr q.2⟩) h7, ra, pa, tx, hW⟩)))
        · exact absurd c_6 (by decide)
      · refine qI_V (A := A) (A1 := A) (b := am) (As := [.int (bI true), .int (nI 2)]) (rest := []) ⟨hx, hb, hml, hown, hts⟩ (mX4_refuse (A := A) (X := X) (P := P) (k := k) (xa := xa) (b := true) (th := 0) (w9 := 2) (by decide) (by decide)) (cwV 2 hts (gV tw_4_210 tw_4_212 sel_X4_refuse tw_1_8 tw_4_213) rfl rfl rfl (by decide +kernel) ⟨Nat.le_of_ble_eq_true rfl, Nat.le_of_ble_eq_true rfl⟩) hC hS (fun _ h => h) (fun q h => hA q (Nat.le_trans hS.1 h)) (hW.recv hK) ⟨ra, pa, tx, hW⟩ rfl rfl hl.1 (Nat.le_of_ble_eq_true rfl) ⟨Nat.zero_le _, Nat.zero_le _⟩ dX4_first__18 (fun rv10 H10 L10 hP10 hk10 hS => ?_)
        have hZ10 := hS.1
        obtain ⟨hr10, hM10⟩ := hP10
        subst hr10
        obtain ⟨ra, pa, tx, hW⟩ := hM10
        have hW : MWx G A am xa ra pa tx X P k (nI 2) H10 := hW
        have hO := hW.obj
        have hAm := hW.1
        refine f_eq (tgt := 28) hx hb dX4_first__21 (by decide) (fun c_11 => ?_) (fun c_11 => ?_)
        · exact absurd c_11 (by decide)
        · refine lv_iconst (v := nI 0) hx hb dX4_first__24 (by decide) ?_
          refine lv_goto (tgt := 48) hx hb dX4_first__25 (by decide) ?_
          exact q_i hx hb hr hlocks dX4_first__48 hS (by omega) (by omega) (Or.inr (Or.inl ⟨⟨⟨i, hi, rfl⟩, (hr_4v.mp rfl)⟩, rfl, ra, pa, tx, hW⟩))
  · refine qI_V (A := A) (A1 := A) (b := am) (As := [.int (bI true), .int (nI 1)]) (rest := []) ⟨hx, hb, hml, hown, hts⟩ (mX4_start (A := A) (X := X) (P := P) (k := k) (xa := xa) (b := true) (w9 := 1) (by decide)) (cwV 2 hts (gV tw_4_206 tw_4_208 sel_X4_start tw_1_8 tw_4_209) rfl rfl rfl (by decide +kernel) ⟨Nat.le_of_ble_eq_true rfl, Nat.le_of_ble_eq_true rfl⟩) hC hS (fun _ h => h) (fun q h => hA q (Nat.le_trans hS.1 h)) (hW.recv hK) ⟨ra, pa, tx, hW⟩ rfl rfl hl.1 (Nat.le_of_ble_eq_true rfl) ⟨Nat.zero_le _, Nat.zero_le _⟩ dX4_first__6 (fun rv12 H12 L12 hP12 hk12 hS => ?_)
    have hZ12 := hS.1
    obtain ⟨hr12, hM12⟩ := hP12
    subst hr12
    obtain ⟨ra, pa, tx, hW⟩ := hM12
    have hW : MWx G A am xa ra pa tx X P k (nI 1) H12 := hW
    have hO := hW.obj
    have hAm := hW.1
    refine f_ne (tgt := 24) hx hb dX4_first__9 (by decide) (fun c_13 => ?_) (fun c_13 => ?_)
    · refine lv_iconst (v := nI 0) hx hb dX4_first__24 (by decide) ?_
      refine lv_goto (tgt := 48) hx hb dX4_first__25 (by decide) ?_
      exact q_i hx hb hr hlocks dX4_first__48 hS (by omega) (by omega) (Or.inl ⟨(hr_1v.mp rfl), rfl, ra, pa, tx, hW⟩)
    · exact absurd c_13 (by decide)

abbrev rmX4_last_ : Room := { frames := 3, cells := 1, slots := 1, locals := 66 }
theorem mX4_last_ {l : Launch} {G : Cx} {A : Nat → Prop} {am xa : Nat} {X : Nat → List Nat} {P : List (List Nat)} {k : Int32} {x y th : Int32} : Met l yX4_last_ (.code yX4_last_ cX4_last_ 3 (some .int) :: GW) rmX4_last_ (PC G A [.ref am, .int x, .int y] (MW G A am xa X P k th)) (qI A (fun r H => ((NT x) ∧ r = 0 ∧ MW G A am xa X P k 1 H) ∨ (((∃ i : Nat, i < 4 ∧ x = nI i) ∧ NS y) ∧ r = 0 ∧ MW G A am xa X P k 2 H) ∨ ∃ i j : Nat, i < 4 ∧ x = nI i ∧ j < 24 ∧ y = nI j ∧ lstR (fun k9 => k9 < (X i).length ∧ (X i).getD k9 0 = codeT.getD j 0) r ∧ MW G A am xa X P k 0 H)) 1 1 (A) := by
  refine mstart "SigntextModel" (by decide +kernel) rfl (Nat.le_of_ble_eq_true rfl) ?_
  intro p e s m below meth c ls hx hb hr hts hown hml hlocks hname hC hA hW hl
  have hl : lv_has ls 3 [(0, .ref am), (1, .int x), (2, .int y)] := hl
  have hK := hC.1
  have hS : va_S A s.heap s.heap [] := va_S.rf
  obtain ⟨ra, pa, tx, hW⟩ := hW
  have hO := hW.obj
  have hAm := hW.1
  obtain ⟨-, -, zc3, zc4, zc5, zc6, zc7, -⟩ := hC.2.2.1
  refine lv_aload_n hx hb dX4_last__0 rfl (lv_at hl 0 rfl) ?_
  refine lv_iload_n hx hb dX4_last__1 rfl (lv_at hl 1 rfl) ?_
  refine kS_i (A := A) (As := [.int x]) (rest := .ref am :: []) ⟨hx, hb, hml, hown, hts⟩ (mX4_isNone (A := A) ) (va_cwS 1 hts (gS tw_4_203 tw_4_204 tw_1_8 tw_4_205) rfl rfl rfl (by decide +kernel) ⟨Nat.le_of_ble_eq_true rfl, Nat.le_of_ble_eq_true rfl⟩) hC hS hA  trivial rfl rfl hl.1 (Nat.le_of_ble_eq_true rfl) ⟨Nat.zero_le _, Nat.zero_le _⟩ dX4_last__2 (fun r_14 hr_14 => ?_)
  obtain ⟨r_14v, hr_14v, rfl⟩ := hr_14
  refine lv_iconst (v := nI 1) hx hb dX4_last__5 (by decide) ?_
  cases r_14v
  · obtain ⟨i, hi, rfl⟩ : ∃ i : Nat, i < 4 ∧ x = nI i := Classical.byContradiction (fun q => Bool.noConfusion (hr_14v.mpr q))
    refine qI_V (A := A) (A1 := A) (b := am) (As := [.int (bI false), .int (nI 1)]) (rest := []) ⟨hx, hb, hml, hown, hts⟩ (mX4_start (A := A) (X := X) (P := P) (k := k) (xa := xa) (b := false) (w9 := 1) (by decide)) (cwV 2 hts (gV tw_4_206 tw_4_208 sel_X4_start tw_1_8 tw_4_209) rfl rfl rfl (by decide +kernel) ⟨Nat.le_of_ble_eq_true rfl, Nat.le_of_ble_eq_true rfl⟩) hC hS (fun _ h => h) (fun q h => hA q (Nat.le_trans hS.1 h)) (hW.recv hK) ⟨ra, pa, tx, hW⟩ rfl rfl hl.1 (Nat.le_of_ble_eq_true rfl) ⟨Nat.zero_le _, Nat.zero_le _⟩ dX4_last__6 (fun rv15 H15 L15 hP15 hk15 hS => ?_)
    have hZ15 := hS.1
    obtain ⟨hr15, hM15⟩ := hP15
    subst hr15
    obtain ⟨ra, pa, tx, hW⟩ := hM15
    have hW : MWx G A am xa ra pa tx X P k (nI 0) H15 := hW
    have hO := hW.obj
    have hAm := hW.1
    refine f_ne (tgt := 24) hx hb dX4_last__9 (by decide) (fun c_16 => ?_) (fun c_16 => ?_)
    · exact absurd c_16 (by decide)
    · refine lv_aload_n hx hb dX4_last__12 rfl (lv_at hl 0 rfl) ?_
      refine lv_iload_n hx hb dX4_last__13 rfl (lv_at hl 2 rfl) ?_
      refine kS_i (A := A) (As := [.int y]) (rest := .ref am :: []) ⟨hx, hb, hml, hown, hts⟩ (mX4_isNoSign (A := A) ) (va_cwS 1 hts (gS tw_4_192 tw_4_193 tw_1_8 tw_4_194) rfl rfl rfl (by decide +kernel) ⟨Nat.le_of_ble_eq_true rfl, Nat.le_of_ble_eq_true rfl⟩) hC hS hA  trivial rfl rfl hl.1 (Nat.le_of_ble_eq_true rfl) ⟨Nat.zero_le _, Nat.zero_le _⟩ dX4_last__14 (fun r_17 hr_17 => ?_)
      obtain ⟨r_17v, hr_17v, rfl⟩ := hr_17
      refine lv_iconst (v := nI 2) hx hb dX4_last__17 (by decide) ?_
      cases r_17v
      · obtain ⟨j, hj, rfl⟩ : ∃ j : Nat, j < 24 ∧ y = nI j := Classical.byContradiction (fun q => Bool.noConfusion (hr_17v.mpr q))
        refine qI_V (A := A) (A1 := A) (b := am) (As := [.int (bI false), .int (nI 2)]) (rest := []) ⟨hx, hb, hml, hown, hts⟩ (mX4_refuse (A := A) (X := X) (P := P) (k := k) (xa := xa) (b := false) (th := 0) (w9 := 2) (by decide) (by decide)) (cwV 2 hts (gV tw_4_210 tw_4_212 sel_X4_refuse tw_1_8 tw_4_213) rfl rfl rfl (by decide +kernel) ⟨Nat.le_of_ble_eq_true rfl, Nat.le_of_ble_eq_true rfl⟩) hC hS (fun _ h => h) (fun q h => hA q (Nat.le_trans hS.1 h)) (hW.recv hK) ⟨ra, pa, tx, hW⟩ rfl rfl hl.1 (Nat.le_of_ble_eq_true rfl) ⟨Nat.zero_le _, Nat.zero_le _⟩ dX4_last__18 (fun rv18 H18 L18 hP18 hk18 hS => ?_)
        have hZ18 := hS.1
        obtain ⟨hr18, hM18⟩ := hP18
        subst hr18
        obtain ⟨ra, pa, tx, hW⟩ := hM18
        have hW : MWx G A am xa ra pa tx X P k (nI 0) H18 := hW
        have hO := hW.obj
        have hAm := hW.1
        refine f_eq (tgt := 28) hx hb dX4_last__21 (by decide) (fun c_19 => ?_) (fun c_19 => ?_)
        · refine lv_aload_n hx hb dX4_last__28 rfl (lv_at hl 0 rfl) ?_
          refine va_get (D := G.1) (ci := 8) (C := RX4) (T := TX4) (N := 5) hx hb hts inX4 hown hK (at_P hO) 0 rfl rfl 1 (by decide) (hts _ tw_4_173) (fun _ h9 => h9) rfl dX4_last__29 ?_
          refine lv_iload_n hx hb dX4_last__32 rfl (lv_at hl 1 rfl) ?_
          refine h_aaldI (D := G.1) hx hb hK 4 hW.txs rfl (vp_in_nI (n := i) (N := 4) (by omega) (by omega)) dX4_last__33 ?_
          refine v_cv (show va_rf _ = .ref (tx i) from by rw [nI_clamp (n := i) (by omega)]; rfl) ?_
          refine lv_iconst (v := nI 1) hx hb dX4_last__34 (by decide) ?_
          have hW0 := hW
          refine h_newa (D := G.1) (atype := .int) (N := 1) (z := (1, .inl (fun _ => 0))) hx hb (hts _ tw_1_70) rfl (fun h => h) hK 0 rfl hS rfl (nI_pos (by omega)) (nI_clamp (by omega)) (show 1 * _ ≤ _ from by show 1 * 4 ≤ 536870912; omega) (Nat.le_trans (show 0 + 1 ≤ 1 by omega) (Nat.le_of_ble_eq_true rfl)) (Nat.le_trans (show 0 + 1 ≤ 1 by omega) (Nat.le_of_ble_eq_true rfl)) dX4_last__35 (fun na H20 hna hFna z20 o20 hS => ?_)
          have hZ20 := hS.1
          have hMna : A na := hA na (by omega)
          refine lv_dup hx hb dX4_last__37 rfl ?_
          refine lv_iconst (v := nI 0) hx hb dX4_last__38 (by decide) ?_
          refine va_gets (v := .ref (G.2.2 1)) hx hb zc3 hS hown (hts _ tw_4_195) (fun _ h9 => h9) dX4_last__39 ?_
          refine lv_iload_n hx hb dX4_last__42 rfl (lv_at hl 2 rfl) ?_
          refine va_ti (v := .int (nI (codeT.getD j 0))) hx hb zc4 hS (vp_in_nI (n := j) (N := 24) (by omega) (by omega)) (by rw [nI_clamp (n := j) (by omega)]) dX4_last__43 ?_
          refine h_ist (D := G.1) hx hb hK 0 hFna rfl hS hMna (vp_in_nI (n := 0) (N := 1) (by omega) (by omega)) dX4_last__44 (fun H21 L21 hFna z21 o21 hS => ?_)
          rw [nI_clamp (n := 0) (by omega)] at hFna
          have hZ21 := hS.1
          have hk9 : kp (nw H18.size) H18 H21 := kp_new1 hna z20 o20 z21 o21
          have hN1 : IA0 G na [codeT.getD j 0] H21 := IA0.mk hFna rfl (fun q hq => by obtain rfl : q = 0 := (by omega); exact pk_us)
          have hW := hW0.nw hk9
          have hO := hW.obj
          have hAm := hW.1
          have hTi := (hW.tx (j := i) (by omega)).ia hC.2.1.2
          have x60i := hW.2.2.1 i (Or.inl (by omega))
          have i60 := x60i.2
          refine kS_i (A := A) (As := [.ref (tx i), .ref na]) (rest := []) ⟨hx, hb, hml, hown, hts⟩ (mX4_last (A := A) (t := X i) (u := [codeT.getD j 0]) x60i.1 (okc_one (codeT_lt j)) (by omega) (by show 1 ≤ 61; decide)) (va_cwS 2 hts (gS tw_6_185 tw_6_186 tw_1_8 tw_6_187) rfl rfl rfl (by decide +kernel) ⟨Nat.le_of_ble_eq_true rfl, Nat.le_of_ble_eq_true rfl⟩) hC hS hA  ⟨hTi, hN1.ia hC.2.1.2⟩ rfl rfl hl.1 (Nat.le_of_ble_eq_true rfl) ⟨Nat.le_trans (show (0 + 1) ≤ 1 by omega) (Nat.le_of_ble_eq_true rfl), Nat.le_trans (show (0 + 1) ≤ 1 by omega) (Nat.le_of_ble_eq_true rfl)⟩ dX4_last__45 (fun r_22 hr_22 => ?_)
          have h7 : lstR (fun k9 => stL false (X i) [codeT.getD j 0] k9) r_22 := hr_22
          exact q_i hx hb hr hlocks dX4_last__48 hS (by omega) (by omega) (Or.inr (Or.inr (⟨i, j, hi, rfl, hj, rfl, lstR_cg (fun k9 => stL_one) h7, ra, pa, tx, hW⟩)))
        · exact absurd c_19 (by decide)
      · refine qI_V (A := A) (A1 := A) (b := am) (As := [.int (bI true), .int (nI 2)]) (rest := []) ⟨hx, hb, hml, hown, hts⟩ (mX4_refuse (A := A) (X := X) (P := P) (k := k) (xa := xa) (b := true) (th := 0) (w9 := 2) (by decide) (by decide)) (cwV 2 hts (gV tw_4_210 tw_4_212 sel_X4_refuse tw_1_8 tw_4_213) rfl rfl rfl (by decide +kernel) ⟨Nat.le_of_ble_eq_true rfl, Nat.le_of_ble_eq_true rfl⟩) hC hS (fun _ h => h) (fun q h => hA q (Nat.le_trans hS.1 h)) (hW.recv hK) ⟨ra, pa, tx, hW⟩ rfl rfl hl.1 (Nat.le_of_ble_eq_true rfl) ⟨Nat.zero_le _, Nat.zero_le _⟩ dX4_last__18 (fun rv23 H23 L23 hP23 hk23 hS => ?_)
        have hZ23 := hS.1
        obtain ⟨hr23, hM23⟩ := hP23
        subst hr23
        obtain ⟨ra, pa, tx, hW⟩ := hM23
        have hW : MWx G A am xa ra pa tx X P k (nI 2) H23 := hW
        have hO := hW.obj
        have hAm := hW.1
        refine f_eq (tgt := 28) hx hb dX4_last__21 (by decide) (fun c_24 => ?_) (fun c_24 => ?_)
        · exact absurd c_24 (by decide)
        · refine lv_iconst (v := nI 0) hx hb dX4_last__24 (by decide) ?_
          refine lv_goto (tgt := 48) hx hb dX4_last__25 (by decide) ?_
          exact q_i hx hb hr hlocks dX4_last__48 hS (by omega) (by omega) (Or.inr (Or.inl ⟨⟨⟨i, hi, rfl⟩, (hr_17v.mp rfl)⟩, rfl, ra, pa, tx, hW⟩))
  · refine qI_V (A := A) (A1 := A) (b := am) (As := [.int (bI true), .int (nI 1)]) (rest := []) ⟨hx, hb, hml, hown, hts⟩ (mX4_start (A := A) (X := X) (P := P) (k := k) (xa := xa) (b := true) (w9 := 1) (by decide)) (cwV 2 hts (gV tw_4_206 tw_4_208 sel_X4_start tw_1_8 tw_4_209) rfl rfl rfl (by decide +kernel) ⟨Nat.le_of_ble_eq_true rfl, Nat.le_of_ble_eq_true rfl⟩) hC hS (fun _ h => h) (fun q h => hA q (Nat.le_trans hS.1 h)) (hW.recv hK) ⟨ra, pa, tx, hW⟩ rfl rfl hl.1 (Nat.le_of_ble_eq_true rfl) ⟨Nat.zero_le _, Nat.zero_le _⟩ dX4_last__6 (fun rv25 H25 L25 hP25 hk25 hS => ?_)
    have hZ25 := hS.1
    obtain ⟨hr25, hM25⟩ := hP25
    subst hr25
    obtain ⟨ra, pa, tx, hW⟩ := hM25
    have hW : MWx G A am xa ra pa tx X P k (nI 1) H25 := hW
    have hO := hW.obj
    have hAm := hW.1
    refine f_ne (tgt := 24) hx hb dX4_last__9 (by decide) (fun c_26 => ?_) (fun c_26 => ?_)
    · refine lv_iconst (v := nI 0) hx hb dX4_last__24 (by decide) ?_
      refine lv_goto (tgt := 48) hx hb dX4_last__25 (by decide) ?_
      exact q_i hx hb hr hlocks dX4_last__48 hS (by omega) (by omega) (Or.inl ⟨(hr_14v.mp rfl), rfl, ra, pa, tx, hW⟩)
    · exact absurd c_26 (by decide)

abbrev rmX4_next : Room := { frames := 3, cells := 0, slots := 0, locals := 64 }
theorem mX4_next {l : Launch} {G : Cx} {A : Nat → Prop} {am xa : Nat} {X : Nat → List Nat} {P : List (List Nat)} {k : Int32} {x f9 y th : Int32} : Met l yX4_next (.code yX4_next cX4_next 5 (some .int) :: GW) rmX4_next (PC G A [.ref am, .int x, .int f9, .int y] (MW G A am xa X P k th)) (qI A (fun r H => ((NT x ∨ ¬ (∃ i a9 : Nat, i < 4 ∧ x = nI i ∧ f9 = nI a9 ∧ a9 ≤ (X i).length)) ∧ r = 0 ∧ MW G A am xa X P k 1 H) ∨ (((∃ i a9 : Nat, i < 4 ∧ x = nI i ∧ f9 = nI a9 ∧ a9 ≤ (X i).length) ∧ NS y) ∧ r = 0 ∧ MW G A am xa X P k 2 H) ∨ ∃ i a9 j : Nat, i < 4 ∧ x = nI i ∧ a9 ≤ (X i).length ∧ f9 = nI a9 ∧ j < 24 ∧ y = nI j ∧ fstR (fun k9 => a9 ≤ k9 ∧ k9 < (X i).length ∧ (X i).getD k9 0 = codeT.getD j 0) r ∧ MW G A am xa X P k 0 H)) 0 0 (A) := by
  refine mstart "SigntextModel" (by decide +kernel) rfl (Nat.le_of_ble_eq_true rfl) ?_
  intro p e s m below meth c ls hx hb hr hts hown hml hlocks hname hC hA hW hl
  have hl : lv_has ls 5 [(0, .ref am), (1, .int x), (2, .int f9), (3, .int y)] := hl
  have hK := hC.1
  have hS : va_S A s.heap s.heap [] := va_S.rf
  obtain ⟨ra, pa, tx, hW⟩ := hW
  have hO := hW.obj
  have hAm := hW.1
  obtain ⟨-, -, zc3, zc4, zc5, zc6, zc7, -⟩ := hC.2.2.1
  obtain ⟨QQ, hQQ⟩ : ∃ Q9 : State → Prop, Q9 = (MQ below (qI A (fun r H => ((NT x ∨ ¬ (∃ i a9 : Nat, i < 4 ∧ x = nI i ∧ f9 = nI a9 ∧ a9 ≤ (X i).length)) ∧ r = 0 ∧ MW G A am xa X P k 1 H) ∨ (((∃ i a9 : Nat, i < 4 ∧ x = nI i ∧ f9 = nI a9 ∧ a9 ≤ (X i).length) ∧ NS y) ∧ r = 0 ∧ MW G A am xa X P k 2 H) ∨ ∃ i a9 j : Nat, i < 4 ∧ x = nI i ∧ a9 ≤ (X i).length ∧ f9 = nI a9 ∧ j < 24 ∧ y = nI j ∧ fstR (fun k9 => a9 ≤ k9 ∧ k9 < (X i).length ∧ (X i).getD k9 0 = codeT.getD j 0) r ∧ MW G A am xa X P k 0 H)) [.ref am, .int x, .int f9, .int y].toArray s 0 0 (A)) := ⟨_, rfl⟩
  rw [← hQQ]
  refine lv_aload_n hx hb dX4_next_0 rfl (lv_at hl 0 rfl) ?_
  refine lv_iload_n hx hb dX4_next_1 rfl (lv_at hl 1 rfl) ?_
  refine kS_i (A := A) (As := [.int x]) (rest := .ref am :: []) ⟨hx, hb, hml, hown, hts⟩ (mX4_isNone (A := A) ) (va_cwS 1 hts (gS tw_4_203 tw_4_204 tw_1_8 tw_4_205) rfl rfl rfl (by decide +kernel) ⟨Nat.le_of_ble_eq_true rfl, Nat.le_of_ble_eq_true rfl⟩) hC hS hA  trivial rfl rfl hl.1 (Nat.le_of_ble_eq_true rfl) ⟨Nat.zero_le _, Nat.zero_le _⟩ dX4_next_2 (fun r_27 hr_27 => ?_)
  obtain ⟨r_27v, hr_27v, rfl⟩ := hr_27
  refine lv_iconst (v := nI 1) hx hb dX4_next_5 (by decide) ?_
  cases r_27v
  · obtain ⟨i, hi, rfl⟩ : ∃ i : Nat, i < 4 ∧ x = nI i := Classical.byContradiction (fun q => Bool.noConfusion (hr_27v.mpr q))
    refine qI_V (A := A) (A1 := A) (b := am) (As := [.int (bI false), .int (nI 1)]) (rest := []) ⟨hx, hb, hml, hown, hts⟩ (mX4_start (A := A) (X := X) (P := P) (k := k) (xa := xa) (b := false) (w9 := 1) (by decide)) (cwV 2 hts (gV tw_4_206 tw_4_208 sel_X4_start tw_1_8 tw_4_209) rfl rfl rfl (by decide +kernel) ⟨Nat.le_of_ble_eq_true rfl, Nat.le_of_ble_eq_true rfl⟩) hC hS (fun _ h => h) (fun q h => hA q (Nat.le_trans hS.1 h)) (hW.recv hK) ⟨ra, pa, tx, hW⟩ rfl rfl hl.1 (Nat.le_of_ble_eq_true rfl) ⟨Nat.zero_le _, Nat.zero_le _⟩ dX4_next_6 (fun rv28 H28 L28 hP28 hk28 hS => ?_)
    have hZ28 := hS.1
    obtain ⟨hr28, hM28⟩ := hP28
    subst hr28
    obtain ⟨ra, pa, tx, hW⟩ := hM28
    have hW : MWx G A am xa ra pa tx X P k (nI 0) H28 := hW
    have hO := hW.obj
    have hAm := hW.1
    refine f_ne (tgt := 52) hx hb dX4_next_9 (by decide) (fun c_29 => ?_) (fun c_29 => ?_)
    · exact absurd c_29 (by decide)
    · refine lv_aload_n hx hb dX4_next_12 rfl (lv_at hl 0 rfl) ?_
      refine lv_iload_n hx hb dX4_next_13 rfl (lv_at hl 2 rfl) ?_
      refine lv_iconst (v := nI 0) hx hb dX4_next_14 (by decide) ?_
      refine lv_aload_n hx hb dX4_next_15 rfl (lv_at hl 0 rfl) ?_
      refine va_get (D := G.1) (ci := 8) (C := RX4) (T := TX4) (N := 5) hx hb hts inX4 hown hK (at_P hO) 0 rfl rfl 1 (by decide) (hts _ tw_4_173) (fun _ h9 => h9) rfl dX4_next_16 ?_
      refine lv_iload_n hx hb dX4_next_19 rfl (lv_at hl 1 rfl) ?_
      refine h_aaldI (D := G.1) hx hb hK 4 hW.txs rfl (vp_in_nI (n := i) (N := 4) (by omega) (by omega)) dX4_next_20 ?_
      refine v_cv (show va_rf _ = .ref (tx i) from by rw [nI_clamp (n := i) (by omega)]; rfl) ?_
      have hTi := (hW.tx (j := i) (by omega)).ia hC.2.1.2
      have x60i := hW.2.2.1 i (Or.inl (by omega))
      have i60 := x60i.2
      refine h_ilen hx hb hC.2.1 hTi dX4_next_21 ?_
      refine kS_i (A := A) (As := [.int f9, .int (nI 0), .int (nI ((X i).length))]) (rest := .ref am :: []) ⟨hx, hb, hml, hown, hts⟩ (mX4_isIn (A := A) ) (va_cwS 3 hts (gS tw_4_197 tw_4_198 tw_1_8 tw_4_199) rfl rfl rfl (by decide +kernel) ⟨Nat.le_of_ble_eq_true rfl, Nat.le_of_ble_eq_true rfl⟩) hC hS hA  trivial rfl rfl hl.1 (Nat.le_of_ble_eq_true rfl) ⟨Nat.zero_le _, Nat.zero_le _⟩ dX4_next_22 (fun r9 h9 => lv_cv h9 ?_)
      refine f_ne (tgt := 32) hx hb dX4_next_25 (by decide) (fun c_30 => ?_) (fun c_30 => ?_)
      · obtain ⟨a9, ha9, rfl⟩ := (rngI (n := (X i).length) (by omega)).mp (of_decide_eq_true c_30)
        refine lv_iconst (v := nI 0) hx hb dX4_next_32 (by decide) ?_
        refine lv_iconst (v := nI 1) hx hb dX4_next_33 (by decide) ?_
        refine qI_V (A := A) (A1 := A) (b := am) (As := [.int (bI false), .int (nI 1)]) (rest := []) ⟨hx, hb, hml, hown, hts⟩ (mX4_refuse (A := A) (X := X) (P := P) (k := k) (xa := xa) (b := false) (th := 0) (w9 := 1) (by decide) (by decide)) (cwV 2 hts (gV tw_4_210 tw_4_212 sel_X4_refuse tw_1_8 tw_4_213) rfl rfl rfl (by decide +kernel) ⟨Nat.le_of_ble_eq_true rfl, Nat.le_of_ble_eq_true rfl⟩) hC hS (fun _ h => h) (fun q h => hA q (Nat.le_trans hS.1 h)) (hW.recv hK) ⟨ra, pa, tx, hW⟩ rfl rfl hl.1 (Nat.le_of_ble_eq_true rfl) ⟨Nat.zero_le _, Nat.zero_le _⟩ dX4_next_34 (fun rv31 H31 L31 hP31 hk31 hS => ?_)
        have hZ31 := hS.1
        obtain ⟨hr31, hM31⟩ := hP31
        subst hr31
        obtain ⟨ra, pa, tx, hW⟩ := hM31
        have hW : MWx G A am xa ra pa tx X P k (nI 0) H31 := hW
        have hO := hW.obj
        have hAm := hW.1
        refine f_ne (tgt := 52) hx hb dX4_next_37 (by decide) (fun c_32 => ?_) (fun c_32 => ?_)
        · exact absurd c_32 (by decide)
        · refine lv_aload_n hx hb dX4_next_40 rfl (lv_at hl 0 rfl) ?_
          refine lv_iload_n hx hb dX4_next_41 rfl (lv_at hl 3 rfl) ?_
          refine kS_i (A := A) (As := [.int y]) (rest := .ref am :: []) ⟨hx, hb, hml, hown, hts⟩ (mX4_isNoSign (A := A) ) (va_cwS 1 hts (gS tw_4_192 tw_4_193 tw_1_8 tw_4_194) rfl rfl rfl (by decide +kernel) ⟨Nat.le_of_ble_eq_true rfl, Nat.le_of_ble_eq_true rfl⟩) hC hS hA  trivial rfl rfl hl.1 (Nat.le_of_ble_eq_true rfl) ⟨Nat.zero_le _, Nat.zero_le _⟩ dX4_next_42 (fun r_33 hr_33 => ?_)
          obtain ⟨r_33v, hr_33v, rfl⟩ := hr_33
          refine lv_iconst (v := nI 2) hx hb dX4_next_45 (by decide) ?_
          cases r_33v
          · obtain ⟨j, hj, rfl⟩ : ∃ j : Nat, j < 24 ∧ y = nI j := Classical.byContradiction (fun q => Bool.noConfusion (hr_33v.mpr q))
            refine qI_V (A := A) (A1 := A) (b := am) (As := [.int (bI false), .int (nI 2)]) (rest := []) ⟨hx, hb, hml, hown, hts⟩ (mX4_refuse (A := A) (X := X) (P := P) (k := k) (xa := xa) (b := false) (th := 0) (w9 := 2) (by decide) (by decide)) (cwV 2 hts (gV tw_4_210 tw_4_212 sel_X4_refuse tw_1_8 tw_4_213) rfl rfl rfl (by decide +kernel) ⟨Nat.le_of_ble_eq_true rfl, Nat.le_of_ble_eq_true rfl⟩) hC hS (fun _ h => h) (fun q h => hA q (Nat.le_trans hS.1 h)) (hW.recv hK) ⟨ra, pa, tx, hW⟩ rfl rfl hl.1 (Nat.le_of_ble_eq_true rfl) ⟨Nat.zero_le _, Nat.zero_le _⟩ dX4_next_46 (fun rv34 H34 L34 hP34 hk34 hS => ?_)
            have hZ34 := hS.1
            obtain ⟨hr34, hM34⟩ := hP34
            subst hr34
            obtain ⟨ra, pa, tx, hW⟩ := hM34
            have hW : MWx G A am xa ra pa tx X P k (nI 0) H34 := hW
            have hO := hW.obj
            have hAm := hW.1
            refine f_eq (tgt := 54) hx hb dX4_next_49 (by decide) (fun c_35 => ?_) (fun c_35 => ?_)
            · refine lv_iload_n hx hb dX4_next_54 rfl (lv_at hl 2 rfl) ?_
              refine lv_istore (lv' := [(4, .int (nI a9)), (0, .ref am), (1, .int (nI i)), (2, .int (nI a9)), (3, .int (nI j))]) hx hb dX4_next_55 hl (by decide) rfl (fun ls hl => ?_)
              refine nloop (P := fun j9 => ∀ (ls : Array Slot) , lv_has ls 5 [(4, .int (nI j9)), (0, .ref am), (1, .int (nI i)), (2, .int (nI a9)), (3, .int (nI j))] → a9 ≤ j9 → (∀ q : Nat, a9 ≤ q → q < j9 → (X i).getD q 0 ≠ codeT.getD j 0) → W p l e rmX4_next s m [.ref am, .int (nI i), .int (nI a9), .int (nI j)].toArray below meth c H34 L34 0 0 QQ (F0 m 57 ls [])) ((X i).length) ?_ a9 ha9 ls  hl (Nat.le_refl _) (fun q h1 h2 => absurd h2 (by omega))
              clear hl
              intro j9 hj9 ih ls  hl
              intro haj hg
              have hO := hW.obj
              have hAm := hW.1
              refine lv_iload hx hb dX4_next_57 (lv_at hl 0 rfl) ?_
              refine lv_aload_n hx hb dX4_next_59 rfl (lv_at hl 1 rfl) ?_
              refine va_get (D := G.1) (ci := 8) (C := RX4) (T := TX4) (N := 5) hx hb hts inX4 hown hK (at_P hO) 0 rfl rfl 1 (by decide) (hts _ tw_4_173) (fun _ h9 => h9) rfl dX4_next_60 ?_
              refine lv_iload_n hx hb dX4_next_63 rfl (lv_at hl 2 rfl) ?_
              refine h_aaldI (D := G.1) hx hb hK 4 hW.txs rfl (vp_in_nI (n := i) (N := 4) (by omega) (by omega)) dX4_next_64 ?_
              refine v_cv (show va_rf _ = .ref (tx i) from by rw [nI_clamp (n := i) (by omega)]; rfl) ?_
              have hTi := (hW.tx (j := i) (by omega)).ia hC.2.1.2
              have x60i := hW.2.2.1 i (Or.inl (by omega))
              have i60 := x60i.2
              refine h_ilen hx hb hC.2.1 hTi dX4_next_65 ?_
              refine b_ge (tgt := 95) hx hb dX4_next_66 (by decide) (by omega) (by omega) (fun c_36 => ?_) (fun c_36 => ?_)
              · refine lv_iconst (v := (-1)) hx hb dX4_next_95 (by decide) ?_
                subst hQQ
                exact q_i hx hb hr hlocks dX4_next_96 hS (Nat.le_refl _) (Nat.le_refl _) (Or.inr (Or.inr (⟨i, a9, j, hi, rfl, ha9, rfl, hj, rfl, Or.inr ⟨fun q h9 => hg q h9.1 (by have := h9.2.1; omega) h9.2.2, rfl⟩, ra, pa, tx, hW⟩)))
              · refine lv_aload_n hx hb dX4_next_69 rfl (lv_at hl 1 rfl) ?_
                refine va_get (D := G.1) (ci := 8) (C := RX4) (T := TX4) (N := 5) hx hb hts inX4 hown hK (at_P hO) 0 rfl rfl 1 (by decide) (hts _ tw_4_173) (fun _ h9 => h9) rfl dX4_next_70 ?_
                refine lv_iload_n hx hb dX4_next_73 rfl (lv_at hl 2 rfl) ?_
                refine h_aaldI (D := G.1) hx hb hK 4 hW.txs rfl (vp_in_nI (n := i) (N := 4) (by omega) (by omega)) dX4_next_74 ?_
                refine v_cv (show va_rf _ = .ref (tx i) from by rw [nI_clamp (n := i) (by omega)]; rfl) ?_
                have hTi := (hW.tx (j := i) (by omega)).ia hC.2.1.2
                have x60i := hW.2.2.1 i (Or.inl (by omega))
                refine lv_iload hx hb dX4_next_75 (lv_at hl 0 rfl) ?_
                refine h_ild hx hb hC.2.1 hTi (i := j9) (by omega) (by omega) dX4_next_77 ?_
                refine va_gets (v := .ref (G.2.2 1)) hx hb zc3 hS hown (hts _ tw_4_195) (fun _ h9 => h9) dX4_next_78 ?_
                refine lv_iload_n hx hb dX4_next_81 rfl (lv_at hl 4 rfl) ?_
                refine va_ti (v := .int (nI (codeT.getD j 0))) hx hb zc4 hS (vp_in_nI (n := j) (N := 24) (by omega) (by omega)) (by rw [nI_clamp (n := j) (by omega)]) dX4_next_82 ?_
                have ok1 := x60i.1 j9
                have ok2 := codeT_lt j
                refine b_ne (tgt := 89) hx hb dX4_next_83 (by decide) (by omega) (by omega) (fun c_37 => ?_) (fun c_37 => ?_)
                · refine lv_iinc (v := nI (j9 + 1)) (lv' := [(4, .int (nI (j9 + 1))), (0, .ref am), (1, .int (nI i)), (2, .int (nI a9)), (3, .int (nI j))]) hx hb dX4_next_89 hl (k := 0) rfl (nI_add j9 1) (by decide) rfl (fun ls hl => ?_)
                  refine lv_goto (tgt := 57) hx hb dX4_next_92 (by decide) ?_
                  exact ih (j9 + 1) (by omega) (by omega) ls (lv_sub hl [0, 1, 2, 3, 4] rfl) (by omega) (fun q h1 h2 => by rcases Nat.lt_succ_iff_lt_or_eq.mp h2 with e | e; exact hg q h1 e; rw [e]; exact c_37)
                · refine lv_iload hx hb dX4_next_86 (lv_at hl 0 rfl) ?_
                  subst hQQ
                  exact q_i hx hb hr hlocks dX4_next_88 hS (Nat.le_refl _) (Nat.le_refl _) (Or.inr (Or.inr (⟨i, a9, j, hi, rfl, ha9, rfl, hj, rfl, Or.inl ⟨j9, ⟨haj, c_36, c_37⟩, fun q h1 h2 => hg q h2.1 h1 h2.2.2, rfl⟩, ra, pa, tx, hW⟩)))
            · exact absurd c_35 (by decide)
          · refine qI_V (A := A) (A1 := A) (b := am) (As := [.int (bI true), .int (nI 2)]) (rest := []) ⟨hx, hb, hml, hown, hts⟩ (mX4_refuse (A := A) (X := X) (P := P) (k := k) (xa := xa) (b := true) (th := 0) (w9 := 2) (by decide) (by decide)) (cwV 2 hts (gV tw_4_210 tw_4_212 sel_X4_refuse tw_1_8 tw_4_213) rfl rfl rfl (by decide +kernel) ⟨Nat.le_of_ble_eq_true rfl, Nat.le_of_ble_eq_true rfl⟩) hC hS (fun _ h => h) (fun q h => hA q (Nat.le_trans hS.1 h)) (hW.recv hK) ⟨ra, pa, tx, hW⟩ rfl rfl hl.1 (Nat.le_of_ble_eq_true rfl) ⟨Nat.zero_le _, Nat.zero_le _⟩ dX4_next_46 (fun rv38 H38 L38 hP38 hk38 hS => ?_)
            have hZ38 := hS.1
            obtain ⟨hr38, hM38⟩ := hP38
            subst hr38
            obtain ⟨ra, pa, tx, hW⟩ := hM38
            have hW : MWx G A am xa ra pa tx X P k (nI 2) H38 := hW
            have hO := hW.obj
            have hAm := hW.1
            refine f_eq (tgt := 54) hx hb dX4_next_49 (by decide) (fun c_39 => ?_) (fun c_39 => ?_)
            · exact absurd c_39 (by decide)
            · refine lv_iconst (v := nI 0) hx hb dX4_next_52 (by decide) ?_
              subst hQQ
              exact q_i hx hb hr hlocks dX4_next_53 hS (Nat.le_refl _) (Nat.le_refl _) (Or.inr (Or.inl ⟨⟨⟨i, a9, hi, rfl, rfl, ha9⟩, (hr_33v.mp rfl)⟩, rfl, ra, pa, tx, hW⟩))
      · refine lv_iconst (v := nI 1) hx hb dX4_next_28 (by decide) ?_
        refine lv_goto (tgt := 33) hx hb dX4_next_29 (by decide) ?_
        refine lv_iconst (v := nI 1) hx hb dX4_next_33 (by decide) ?_
        refine qI_V (A := A) (A1 := A) (b := am) (As := [.int (bI true), .int (nI 1)]) (rest := []) ⟨hx, hb, hml, hown, hts⟩ (mX4_refuse (A := A) (X := X) (P := P) (k := k) (xa := xa) (b := true) (th := 0) (w9 := 1) (by decide) (by decide)) (cwV 2 hts (gV tw_4_210 tw_4_212 sel_X4_refuse tw_1_8 tw_4_213) rfl rfl rfl (by decide +kernel) ⟨Nat.le_of_ble_eq_true rfl, Nat.le_of_ble_eq_true rfl⟩) hC hS (fun _ h => h) (fun q h => hA q (Nat.le_trans hS.1 h)) (hW.recv hK) ⟨ra, pa, tx, hW⟩ rfl rfl hl.1 (Nat.le_of_ble_eq_true rfl) ⟨Nat.zero_le _, Nat.zero_le _⟩ dX4_next_34 (fun rv40 H40 L40 hP40 hk40 hS => ?_)
        have hZ40 := hS.1
        obtain ⟨hr40, hM40⟩ := hP40
        subst hr40
        obtain ⟨ra, pa, tx, hW⟩ := hM40
        have hW : MWx G A am xa ra pa tx X P k (nI 1) H40 := hW
        have hO := hW.obj
        have hAm := hW.1
        refine f_ne (tgt := 52) hx hb dX4_next_37 (by decide) (fun c_41 => ?_) (fun c_41 => ?_)
        · refine lv_iconst (v := nI 0) hx hb dX4_next_52 (by decide) ?_
          subst hQQ
          exact q_i hx hb hr hlocks dX4_next_53 hS (Nat.le_refl _) (Nat.le_refl _) (Or.inl ⟨(Or.inr (fun ⟨i9, a0, w1, w2, w3, w4⟩ => (fun q => absurd ((rngI (n := (X i).length) (by omega)).mpr q) (of_decide_eq_false c_30)) ⟨a0, by have w7 : i9 = i := (nI_eq (by omega) (by omega)).mp w2.symm; rw [w7] at w4; exact w4, w3⟩)), rfl, ra, pa, tx, hW⟩)
        · exact absurd c_41 (by decide)
  · refine qI_V (A := A) (A1 := A) (b := am) (As := [.int (bI true), .int (nI 1)]) (rest := []) ⟨hx, hb, hml, hown, hts⟩ (mX4_start (A := A) (X := X) (P := P) (k := k) (xa := xa) (b := true) (w9 := 1) (by decide)) (cwV 2 hts (gV tw_4_206 tw_4_208 sel_X4_start tw_1_8 tw_4_209) rfl rfl rfl (by decide +kernel) ⟨Nat.le_of_ble_eq_true rfl, Nat.le_of_ble_eq_true rfl⟩) hC hS (fun _ h => h) (fun q h => hA q (Nat.le_trans hS.1 h)) (hW.recv hK) ⟨ra, pa, tx, hW⟩ rfl rfl hl.1 (Nat.le_of_ble_eq_true rfl) ⟨Nat.zero_le _, Nat.zero_le _⟩ dX4_next_6 (fun rv42 H42 L42 hP42 hk42 hS => ?_)
    have hZ42 := hS.1
    obtain ⟨hr42, hM42⟩ := hP42
    subst hr42
    obtain ⟨ra, pa, tx, hW⟩ := hM42
    have hW : MWx G A am xa ra pa tx X P k (nI 1) H42 := hW
    have hO := hW.obj
    have hAm := hW.1
    refine f_ne (tgt := 52) hx hb dX4_next_9 (by decide) (fun c_43 => ?_) (fun c_43 => ?_)
    · refine lv_iconst (v := nI 0) hx hb dX4_next_52 (by decide) ?_
      subst hQQ
      exact q_i hx hb hr hlocks dX4_next_53 hS (Nat.le_refl _) (Nat.le_refl _) (Or.inl ⟨(Or.inl (hr_27v.mp rfl)), rfl, ra, pa, tx, hW⟩)
    · exact absurd c_43 (by decide)

abbrev rmX4_begins : Room := { frames := 3, cells := 0, slots := 0, locals := 64 }
theorem mX4_begins {l : Launch} {G : Cx} {A : Nat → Prop} {am xa : Nat} {X : Nat → List Nat} {P : List (List Nat)} {k : Int32} {x y th : Int32} {b : Bool} : Met l yX4_begins (.code yX4_begins cX4_begins 4 (some .boolean) :: GW) rmX4_begins (PC G A [.ref am, .int x, .int y, .int (bI b)] (MW G A am xa X P k th)) (qI A (fun r H => ((NT x) ∧ r = 0 ∧ MW G A am xa X P k 1 H) ∨ (((∃ i : Nat, i < 4 ∧ x = nI i) ∧ NK y) ∧ r = 0 ∧ MW G A am xa X P k 2 H) ∨ ∃ (i j : Nat) (v : Bool), i < 4 ∧ x = nI i ∧ j < 7 ∧ y = nI j ∧ (v = true ↔ if b then (knT j).length ≤ (X i).length ∧ stL false (X i) (knT j) ((X i).length - (knT j).length) else stL false (X i) (knT j) 0) ∧ r = bI v ∧ MW G A am xa X P k 0 H)) 0 0 (A) := by
  refine mstart "SigntextModel" (by decide +kernel) rfl (Nat.le_of_ble_eq_true rfl) ?_
  intro p e s m below meth c ls hx hb hr hts hown hml hlocks hname hC hA hW hl
  have hl : lv_has ls 4 [(0, .ref am), (1, .int x), (2, .int y), (3, .int (bI b))] := hl
  have hK := hC.1
  have hS : va_S A s.heap s.heap [] := va_S.rf
  obtain ⟨ra, pa, tx, hW⟩ := hW
  have hO := hW.obj
  have hAm := hW.1
  obtain ⟨-, -, zc3, zc4, zc5, zc6, zc7, -⟩ := hC.2.2.1
  refine lv_aload_n hx hb dX4_begins_0 rfl (lv_at hl 0 rfl) ?_
  refine lv_iload_n hx hb dX4_begins_1 rfl (lv_at hl 1 rfl) ?_
  refine kS_i (A := A) (As := [.int x]) (rest := .ref am :: []) ⟨hx, hb, hml, hown, hts⟩ (mX4_isNone (A := A) ) (va_cwS 1 hts (gS tw_4_203 tw_4_204 tw_1_8 tw_4_205) rfl rfl rfl (by decide +kernel) ⟨Nat.le_of_ble_eq_true rfl, Nat.le_of_ble_eq_true rfl⟩) hC hS hA  trivial rfl rfl hl.1 (Nat.le_of_ble_eq_true rfl) ⟨Nat.zero_le _, Nat.zero_le _⟩ dX4_begins_2 (fun r_44 hr_44 => ?_)
  obtain ⟨r_44v, hr_44v, rfl⟩ := hr_44
  refine lv_iconst (v := nI 1) hx hb dX4_begins_5 (by decide) ?_
  cases r_44v
  · obtain ⟨i, hi, rfl⟩ : ∃ i : Nat, i < 4 ∧ x = nI i := Classical.byContradiction (fun q => Bool.noConfusion (hr_44v.mpr q))
    refine qI_V (A := A) (A1 := A) (b := am) (As := [.int (bI false), .int (nI 1)]) (rest := []) ⟨hx, hb, hml, hown, hts⟩ (mX4_start (A := A) (X := X) (P := P) (k := k) (xa := xa) (b := false) (w9 := 1) (by decide)) (cwV 2 hts (gV tw_4_206 tw_4_208 sel_X4_start tw_1_8 tw_4_209) rfl rfl rfl (by decide +kernel) ⟨Nat.le_of_ble_eq_true rfl, Nat.le_of_ble_eq_true rfl⟩) hC hS (fun _ h => h) (fun q h => hA q (Nat.le_trans hS.1 h)) (hW.recv hK) ⟨ra, pa, tx, hW⟩ rfl rfl hl.1 (Nat.le_of_ble_eq_true rfl) ⟨Nat.zero_le _, Nat.zero_le _⟩ dX4_begins_6 (fun rv45 H45 L45 hP45 hk45 hS => ?_)
    have hZ45 := hS.1
    obtain ⟨hr45, hM45⟩ := hP45
    subst hr45
    obtain ⟨ra, pa, tx, hW⟩ := hM45
    have hW : MWx G A am xa ra pa tx X P k (nI 0) H45 := hW
    have hO := hW.obj
    have hAm := hW.1
    refine f_ne (tgt := 24) hx hb dX4_begins_9 (by decide) (fun c_46 => ?_) (fun c_46 => ?_)
    · exact absurd c_46 (by decide)
    · refine lv_aload_n hx hb dX4_begins_12 rfl (lv_at hl 0 rfl) ?_
      refine lv_iload_n hx hb dX4_begins_13 rfl (lv_at hl 2 rfl) ?_
      refine kS_i (A := A) (As := [.int y]) (rest := .ref am :: []) ⟨hx, hb, hml, hown, hts⟩ (mX4_isNoKnown (A := A) ) (va_cwS 1 hts (gS tw_5_53 tw_5_54 tw_1_8 tw_5_55) rfl rfl rfl (by decide +kernel) ⟨Nat.le_of_ble_eq_true rfl, Nat.le_of_ble_eq_true rfl⟩) hC hS hA  trivial rfl rfl hl.1 (Nat.le_of_ble_eq_true rfl) ⟨Nat.zero_le _, Nat.zero_le _⟩ dX4_begins_14 (fun r_47 hr_47 => ?_)
      obtain ⟨r_47v, hr_47v, rfl⟩ := hr_47
      refine lv_iconst (v := nI 2) hx hb dX4_begins_17 (by decide) ?_
      cases r_47v
      · obtain ⟨j, hj, rfl⟩ : ∃ j : Nat, j < 7 ∧ y = nI j := Classical.byContradiction (fun q => Bool.noConfusion (hr_47v.mpr q))
        refine qI_V (A := A) (A1 := A) (b := am) (As := [.int (bI false), .int (nI 2)]) (rest := []) ⟨hx, hb, hml, hown, hts⟩ (mX4_refuse (A := A) (X := X) (P := P) (k := k) (xa := xa) (b := false) (th := 0) (w9 := 2) (by decide) (by decide)) (cwV 2 hts (gV tw_4_210 tw_4_212 sel_X4_refuse tw_1_8 tw_4_213) rfl rfl rfl (by decide +kernel) ⟨Nat.le_of_ble_eq_true rfl, Nat.le_of_ble_eq_true rfl⟩) hC hS (fun _ h => h) (fun q h => hA q (Nat.le_trans hS.1 h)) (hW.recv hK) ⟨ra, pa, tx, hW⟩ rfl rfl hl.1 (Nat.le_of_ble_eq_true rfl) ⟨Nat.zero_le _, Nat.zero_le _⟩ dX4_begins_18 (fun rv48 H48 L48 hP48 hk48 hS => ?_)
        have hZ48 := hS.1
        obtain ⟨hr48, hM48⟩ := hP48
        subst hr48
        obtain ⟨ra, pa, tx, hW⟩ := hM48
        have hW : MWx G A am xa ra pa tx X P k (nI 0) H48 := hW
        have hO := hW.obj
        have hAm := hW.1
        refine f_eq (tgt := 26) hx hb dX4_begins_21 (by decide) (fun c_49 => ?_) (fun c_49 => ?_)
        · refine lv_aload_n hx hb dX4_begins_26 rfl (lv_at hl 0 rfl) ?_
          refine va_get (D := G.1) (ci := 8) (C := RX4) (T := TX4) (N := 5) hx hb hts inX4 hown hK (at_P hO) 0 rfl rfl 1 (by decide) (hts _ tw_4_173) (fun _ h9 => h9) rfl dX4_begins_27 ?_
          refine lv_iload_n hx hb dX4_begins_30 rfl (lv_at hl 1 rfl) ?_
          refine h_aaldI (D := G.1) hx hb hK 4 hW.txs rfl (vp_in_nI (n := i) (N := 4) (by omega) (by omega)) dX4_begins_31 ?_
          refine v_cv (show va_rf _ = .ref (tx i) from by rw [nI_clamp (n := i) (by omega)]; rfl) ?_
          refine lv_iload_n hx hb dX4_begins_32 rfl (lv_at hl 3 rfl) ?_
          refine f_eq (tgt := 53) hx hb dX4_begins_33 (by decide) (fun c_50 => ?_) (fun c_50 => ?_)
          · subst c_50
            refine lv_iconst (v := nI 0) hx hb dX4_begins_53 (by decide) ?_
            refine va_gets (v := .ref (G.2.2 2)) hx hb zc5 hS hown (hts _ tw_5_56) (fun _ h9 => h9) dX4_begins_54 ?_
            refine lv_iload_n hx hb dX4_begins_57 rfl (lv_at hl 2 rfl) ?_
            refine h_aaTI (v := .ref (G.2.2 (3 + j))) hx hb zc6 hS (vp_in_nI (n := j) (N := 7) (by omega) (by omega)) (by rw [nI_clamp (n := j) (by omega)]) dX4_begins_58 ?_
            refine lv_iconst (v := nI 0) hx hb dX4_begins_59 (by decide) ?_
            have hTi := (hW.tx (j := i) (by omega)).ia hC.2.1.2
            have x60i := hW.2.2.1 i (Or.inl (by omega))
            have hKnj := (zc7 j hj).1.at' (hS.2.1 _ (zc7 j hj).1.lt (zc7 j hj).2)
            have k4j := knT_le (i := j) hj
            have i60 := x60i.2
            refine kS_i (A := A) (As := [.ref (tx i), .int (nI 0), .ref (G.2.2 (3 + j)), .int (bI false)]) (rest := []) ⟨hx, hb, hml, hown, hts⟩ (mX4_stands (A := A) (t := X i) (u := knT j) (i := 0) (b0 := false) x60i.1 k4j.2 (by omega) (by omega) (by omega)) (va_cwS 4 hts (gS tw_6_175 tw_6_176 tw_1_8 tw_6_177) rfl rfl rfl (by decide +kernel) ⟨Nat.le_of_ble_eq_true rfl, Nat.le_of_ble_eq_true rfl⟩) hC hS hA  ⟨hTi, hKnj⟩ rfl rfl hl.1 (Nat.le_of_ble_eq_true rfl) ⟨Nat.zero_le _, Nat.zero_le _⟩ dX4_begins_60 (fun r_51 hr_51 => ?_)
            obtain ⟨v9, hv9, rfl⟩ := hr_51
            exact q_z (b9 := v9) hx hb hr hlocks dX4_begins_63 hS (Nat.le_refl _) (Nat.le_refl _) (Or.inr (Or.inr (⟨i, j, v9, hi, rfl, hj, rfl, by rw [if_neg (by decide)]; exact hv9, rfl, ra, pa, tx, hW⟩)))
          · subst c_50
            refine lv_aload_n hx hb dX4_begins_36 rfl (lv_at hl 0 rfl) ?_
            refine va_get (D := G.1) (ci := 8) (C := RX4) (T := TX4) (N := 5) hx hb hts inX4 hown hK (at_P hO) 0 rfl rfl 1 (by decide) (hts _ tw_4_173) (fun _ h9 => h9) rfl dX4_begins_37 ?_
            refine lv_iload_n hx hb dX4_begins_40 rfl (lv_at hl 1 rfl) ?_
            refine h_aaldI (D := G.1) hx hb hK 4 hW.txs rfl (vp_in_nI (n := i) (N := 4) (by omega) (by omega)) dX4_begins_41 ?_
            refine v_cv (show va_rf _ = .ref (tx i) from by rw [nI_clamp (n := i) (by omega)]; rfl) ?_
            have hTi := (hW.tx (j := i) (by omega)).ia hC.2.1.2
            have x60i := hW.2.2.1 i (Or.inl (by omega))
            have hKnj := (zc7 j hj).1.at' (hS.2.1 _ (zc7 j hj).1.lt (zc7 j hj).2)
            have k4j := knT_le (i := j) hj
            have i60 := x60i.2
            refine h_ilen hx hb hC.2.1 hTi dX4_begins_42 ?_
            refine va_gets (v := .ref (G.2.2 2)) hx hb zc5 hS hown (hts _ tw_5_56) (fun _ h9 => h9) dX4_begins_43 ?_
            refine lv_iload_n hx hb dX4_begins_46 rfl (lv_at hl 2 rfl) ?_
            refine h_aaTI (v := .ref (G.2.2 (3 + j))) hx hb zc6 hS (vp_in_nI (n := j) (N := 7) (by omega) (by omega)) (by rw [nI_clamp (n := j) (by omega)]) dX4_begins_47 ?_
            refine h_ilen hx hb hC.2.1 hKnj dX4_begins_48 ?_
            rcases Nat.lt_or_ge (X i).length (knT j).length with q9 | q9
            · have hneg : nI (X i).length - nI (knT j).length < 0 := subI_neg (by omega) (by omega) q9
              refine lv_isub hx hb dX4_begins_49 ?_
              refine lv_goto (tgt := 54) hx hb dX4_begins_50 (by decide) ?_
              refine va_gets (v := .ref (G.2.2 2)) hx hb zc5 hS hown (hts _ tw_5_56) (fun _ h9 => h9) dX4_begins_54 ?_
              refine lv_iload_n hx hb dX4_begins_57 rfl (lv_at hl 2 rfl) ?_
              refine h_aaTI (v := .ref (G.2.2 (3 + j))) hx hb zc6 hS (vp_in_nI (n := j) (N := 7) (by omega) (by omega)) (by rw [nI_clamp (n := j) (by omega)]) dX4_begins_58 ?_
              refine lv_iconst (v := nI 0) hx hb dX4_begins_59 (by decide) ?_
              refine kS_i (A := A) (As := [.ref (tx i), .int (nI ((X i).length) - nI ((knT j).length)), .ref (G.2.2 (3 + j)), .int (bI false)]) (rest := []) ⟨hx, hb, hml, hown, hts⟩ (mX4_stands_n (A := A) (t := X i) (u := knT j) (x := nI (X i).length - nI (knT j).length) (b0 := false) x60i.1 k4j.2 (by omega) (by omega) hneg) (va_cwS 4 hts (gS tw_6_175 tw_6_176 tw_1_8 tw_6_177) rfl rfl rfl (by decide +kernel) ⟨Nat.le_of_ble_eq_true rfl, Nat.le_of_ble_eq_true rfl⟩) hC hS hA  ⟨hTi, hKnj⟩ rfl rfl hl.1 (Nat.le_of_ble_eq_true rfl) ⟨Nat.zero_le _, Nat.zero_le _⟩ dX4_begins_60 (fun r9 h9 => lv_cv h9 ?_)
              exact q_z (b9 := false) hx hb hr hlocks dX4_begins_63 hS (Nat.le_refl _) (Nat.le_refl _) (Or.inr (Or.inr (⟨i, j, false, hi, rfl, hj, rfl, by rw [if_pos rfl]; exact ⟨fun q => Bool.noConfusion q, fun q => absurd q.1 (by omega)⟩, rfl, ra, pa, tx, hW⟩)))
            · refine lv_isub hx hb dX4_begins_49 ?_
              refine lv_cv (pk_sub (a := (X i).length) (b := (knT j).length) (by omega)) ?_
              refine lv_goto (tgt := 54) hx hb dX4_begins_50 (by decide) ?_
              refine va_gets (v := .ref (G.2.2 2)) hx hb zc5 hS hown (hts _ tw_5_56) (fun _ h9 => h9) dX4_begins_54 ?_
              refine lv_iload_n hx hb dX4_begins_57 rfl (lv_at hl 2 rfl) ?_
              refine h_aaTI (v := .ref (G.2.2 (3 + j))) hx hb zc6 hS (vp_in_nI (n := j) (N := 7) (by omega) (by omega)) (by rw [nI_clamp (n := j) (by omega)]) dX4_begins_58 ?_
              refine lv_iconst (v := nI 0) hx hb dX4_begins_59 (by decide) ?_
              refine kS_i (A := A) (As := [.ref (tx i), .int (nI ((X i).length - ((knT j).length))), .ref (G.2.2 (3 + j)), .int (bI false)]) (rest := []) ⟨hx, hb, hml, hown, hts⟩ (mX4_stands (A := A) (t := X i) (u := knT j) (i := (X i).length - (knT j).length) (b0 := false) x60i.1 k4j.2 (by omega) (by omega) (by omega)) (va_cwS 4 hts (gS tw_6_175 tw_6_176 tw_1_8 tw_6_177) rfl rfl rfl (by decide +kernel) ⟨Nat.le_of_ble_eq_true rfl, Nat.le_of_ble_eq_true rfl⟩) hC hS hA  ⟨hTi, hKnj⟩ rfl rfl hl.1 (Nat.le_of_ble_eq_true rfl) ⟨Nat.zero_le _, Nat.zero_le _⟩ dX4_begins_60 (fun r_52 hr_52 => ?_)
              obtain ⟨v9, hv9, rfl⟩ := hr_52
              exact q_z (b9 := v9) hx hb hr hlocks dX4_begins_63 hS (Nat.le_refl _) (Nat.le_refl _) (Or.inr (Or.inr (⟨i, j, v9, hi, rfl, hj, rfl, by rw [if_pos rfl]; exact ⟨fun q => ⟨q9, hv9.mp q⟩, fun q => hv9.mpr q.2⟩, rfl, ra, pa, tx, hW⟩)))
        · exact absurd c_49 (by decide)
      · refine qI_V (A := A) (A1 := A) (b := am) (As := [.int (bI true), .int (nI 2)]) (rest := []) ⟨hx, hb, hml, hown, hts⟩ (mX4_refuse (A := A) (X := X) (P := P) (k := k) (xa := xa) (b := true) (th := 0) (w9 := 2) (by decide) (by decide)) (cwV 2 hts (gV tw_4_210 tw_4_212 sel_X4_refuse tw_1_8 tw_4_213) rfl rfl rfl (by decide +kernel) ⟨Nat.le_of_ble_eq_true rfl, Nat.le_of_ble_eq_true rfl⟩) hC hS (fun _ h => h) (fun q h => hA q (Nat.le_trans hS.1 h)) (hW.recv hK) ⟨ra, pa, tx, hW⟩ rfl rfl hl.1 (Nat.le_of_ble_eq_true rfl) ⟨Nat.zero_le _, Nat.zero_le _⟩ dX4_begins_18 (fun rv53 H53 L53 hP53 hk53 hS => ?_)
        have hZ53 := hS.1
        obtain ⟨hr53, hM53⟩ := hP53
        subst hr53
        obtain ⟨ra, pa, tx, hW⟩ := hM53
        have hW : MWx G A am xa ra pa tx X P k (nI 2) H53 := hW
        have hO := hW.obj
        have hAm := hW.1
        refine f_eq (tgt := 26) hx hb dX4_begins_21 (by decide) (fun c_54 => ?_) (fun c_54 => ?_)
        · exact absurd c_54 (by decide)
        · refine lv_iconst (v := nI 0) hx hb dX4_begins_24 (by decide) ?_
          exact q_z (b9 := false) hx hb hr hlocks dX4_begins_25 hS (Nat.le_refl _) (Nat.le_refl _) (Or.inr (Or.inl ⟨⟨⟨i, hi, rfl⟩, (hr_47v.mp rfl)⟩, rfl, ra, pa, tx, hW⟩))
  · refine qI_V (A := A) (A1 := A) (b := am) (As := [.int (bI true), .int (nI 1)]) (rest := []) ⟨hx, hb, hml, hown, hts⟩ (mX4_start (A := A) (X := X) (P := P) (k := k) (xa := xa) (b := true) (w9 := 1) (by decide)) (cwV 2 hts (gV tw_4_206 tw_4_208 sel_X4_start tw_1_8 tw_4_209) rfl rfl rfl (by decide +kernel) ⟨Nat.le_of_ble_eq_true rfl, Nat.le_of_ble_eq_true rfl⟩) hC hS (fun _ h => h) (fun q h => hA q (Nat.le_trans hS.1 h)) (hW.recv hK) ⟨ra, pa, tx, hW⟩ rfl rfl hl.1 (Nat.le_of_ble_eq_true rfl) ⟨Nat.zero_le _, Nat.zero_le _⟩ dX4_begins_6 (fun rv55 H55 L55 hP55 hk55 hS => ?_)
    have hZ55 := hS.1
    obtain ⟨hr55, hM55⟩ := hP55
    subst hr55
    obtain ⟨ra, pa, tx, hW⟩ := hM55
    have hW : MWx G A am xa ra pa tx X P k (nI 1) H55 := hW
    have hO := hW.obj
    have hAm := hW.1
    refine f_ne (tgt := 24) hx hb dX4_begins_9 (by decide) (fun c_56 => ?_) (fun c_56 => ?_)
    · refine lv_iconst (v := nI 0) hx hb dX4_begins_24 (by decide) ?_
      exact q_z (b9 := false) hx hb hr hlocks dX4_begins_25 hS (Nat.le_refl _) (Nat.le_refl _) (Or.inl ⟨(hr_44v.mp rfl), rfl, ra, pa, tx, hW⟩)
    · exact absurd c_56 (by decide)

abbrev rmX4_stands_ : Room := { frames := 3, cells := 0, slots := 0, locals := 64 }
theorem mX4_stands_ {l : Launch} {G : Cx} {A : Nat → Prop} {am xa : Nat} {X : Nat → List Nat} {P : List (List Nat)} {k : Int32} {x p9 y th : Int32} {b : Bool} : Met l yX4_stands_ (.code yX4_stands_ cX4_stands_ 5 (some .boolean) :: GW) rmX4_stands_ (PC G A [.ref am, .int x, .int p9, .int y, .int (bI b)] (MW G A am xa X P k th)) (qI A (fun r H => ((NT x) ∧ r = 0 ∧ MW G A am xa X P k 1 H) ∨ (((∃ i : Nat, i < 4 ∧ x = nI i) ∧ NK y) ∧ r = 0 ∧ MW G A am xa X P k 2 H) ∨ ∃ (i j : Nat) (v : Bool), i < 4 ∧ x = nI i ∧ j < 7 ∧ y = nI j ∧ (v = true ↔ ∃ a9 : Nat, a9 < 2 ^ 31 ∧ p9 = nI a9 ∧ stL b (X i) (knT j) a9) ∧ r = bI v ∧ MW G A am xa X P k 0 H)) 0 0 (A) := by
  refine mstart "SigntextModel" (by decide +kernel) rfl (Nat.le_of_ble_eq_true rfl) ?_
  intro p e s m below meth c ls hx hb hr hts hown hml hlocks hname hC hA hW hl
  have hl : lv_has ls 5 [(0, .ref am), (1, .int x), (2, .int p9), (3, .int y), (4, .int (bI b))] := hl
  have hK := hC.1
  have hS : va_S A s.heap s.heap [] := va_S.rf
  obtain ⟨ra, pa, tx, hW⟩ := hW
  have hO := hW.obj
  have hAm := hW.1
  obtain ⟨-, -, zc3, zc4, zc5, zc6, zc7, -⟩ := hC.2.2.1
  refine lv_aload_n hx hb dX4_stands__0 rfl (lv_at hl 0 rfl) ?_
  refine lv_iload_n hx hb dX4_stands__1 rfl (lv_at hl 1 rfl) ?_
  refine kS_i (A := A) (As := [.int x]) (rest := .ref am :: []) ⟨hx, hb, hml, hown, hts⟩ (mX4_isNone (A := A) ) (va_cwS 1 hts (gS tw_4_203 tw_4_204 tw_1_8 tw_4_205) rfl rfl rfl (by decide +kernel) ⟨Nat.le_of_ble_eq_true rfl, Nat.le_of_ble_eq_true rfl⟩) hC hS hA  trivial rfl rfl hl.1 (Nat.le_of_ble_eq_true rfl) ⟨Nat.zero_le _, Nat.zero_le _⟩ dX4_stands__2 (fun r_57 hr_57 => ?_)
  obtain ⟨r_57v, hr_57v, rfl⟩ := hr_57
  refine lv_iconst (v := nI 1) hx hb dX4_stands__5 (by decide) ?_
  cases r_57v
  · obtain ⟨i, hi, rfl⟩ : ∃ i : Nat, i < 4 ∧ x = nI i := Classical.byContradiction (fun q => Bool.noConfusion (hr_57v.mpr q))
    refine qI_V (A := A) (A1 := A) (b := am) (As := [.int (bI false), .int (nI 1)]) (rest := []) ⟨hx, hb, hml, hown, hts⟩ (mX4_start (A := A) (X := X) (P := P) (k := k) (xa := xa) (b := false) (w9 := 1) (by decide)) (cwV 2 hts (gV tw_4_206 tw_4_208 sel_X4_start tw_1_8 tw_4_209) rfl rfl rfl (by decide +kernel) ⟨Nat.le_of_ble_eq_true rfl, Nat.le_of_ble_eq_true rfl⟩) hC hS (fun _ h => h) (fun q h => hA q (Nat.le_trans hS.1 h)) (hW.recv hK) ⟨ra, pa, tx, hW⟩ rfl rfl hl.1 (Nat.le_of_ble_eq_true rfl) ⟨Nat.zero_le _, Nat.zero_le _⟩ dX4_stands__6 (fun rv58 H58 L58 hP58 hk58 hS => ?_)
    have hZ58 := hS.1
    obtain ⟨hr58, hM58⟩ := hP58
    subst hr58
    obtain ⟨ra, pa, tx, hW⟩ := hM58
    have hW : MWx G A am xa ra pa tx X P k (nI 0) H58 := hW
    have hO := hW.obj
    have hAm := hW.1
    refine f_ne (tgt := 48) hx hb dX4_stands__9 (by decide) (fun c_59 => ?_) (fun c_59 => ?_)
    · exact absurd c_59 (by decide)
    · refine lv_aload_n hx hb dX4_stands__12 rfl (lv_at hl 0 rfl) ?_
      refine lv_iload_n hx hb dX4_stands__13 rfl (lv_at hl 3 rfl) ?_
      refine kS_i (A := A) (As := [.int y]) (rest := .ref am :: []) ⟨hx, hb, hml, hown, hts⟩ (mX4_isNoKnown (A := A) ) (va_cwS 1 hts (gS tw_5_53 tw_5_54 tw_1_8 tw_5_55) rfl rfl rfl (by decide +kernel) ⟨Nat.le_of_ble_eq_true rfl, Nat.le_of_ble_eq_true rfl⟩) hC hS hA  trivial rfl rfl hl.1 (Nat.le_of_ble_eq_true rfl) ⟨Nat.zero_le _, Nat.zero_le _⟩ dX4_stands__14 (fun r_60 hr_60 => ?_)
      obtain ⟨r_60v, hr_60v, rfl⟩ := hr_60
      refine lv_iconst (v := nI 2) hx hb dX4_stands__17 (by decide) ?_
      cases r_60v
      · obtain ⟨j, hj, rfl⟩ : ∃ j : Nat, j < 7 ∧ y = nI j := Classical.byContradiction (fun q => Bool.noConfusion (hr_60v.mpr q))
        refine qI_V (A := A) (A1 := A) (b := am) (As := [.int (bI false), .int (nI 2)]) (rest := []) ⟨hx, hb, hml, hown, hts⟩ (mX4_refuse (A := A) (X := X) (P := P) (k := k) (xa := xa) (b := false) (th := 0) (w9 := 2) (by decide) (by decide)) (cwV 2 hts (gV tw_4_210 tw_4_212 sel_X4_refuse tw_1_8 tw_4_213) rfl rfl rfl (by decide +kernel) ⟨Nat.le_of_ble_eq_true rfl, Nat.le_of_ble_eq_true rfl⟩) hC hS (fun _ h => h) (fun q h => hA q (Nat.le_trans hS.1 h)) (hW.recv hK) ⟨ra, pa, tx, hW⟩ rfl rfl hl.1 (Nat.le_of_ble_eq_true rfl) ⟨Nat.zero_le _, Nat.zero_le _⟩ dX4_stands__18 (fun rv61 H61 L61 hP61 hk61 hS => ?_)
        have hZ61 := hS.1
        obtain ⟨hr61, hM61⟩ := hP61
        subst hr61
        obtain ⟨ra, pa, tx, hW⟩ := hM61
        have hW : MWx G A am xa ra pa tx X P k (nI 0) H61 := hW
        have hO := hW.obj
        have hAm := hW.1
        refine f_ne (tgt := 48) hx hb dX4_stands__21 (by decide) (fun c_62 => ?_) (fun c_62 => ?_)
        · exact absurd c_62 (by decide)
        · refine lv_aload_n hx hb dX4_stands__24 rfl (lv_at hl 0 rfl) ?_
          refine va_get (D := G.1) (ci := 8) (C := RX4) (T := TX4) (N := 5) hx hb hts inX4 hown hK (at_P hO) 0 rfl rfl 1 (by decide) (hts _ tw_4_173) (fun _ h9 => h9) rfl dX4_stands__25 ?_
          refine lv_iload_n hx hb dX4_stands__28 rfl (lv_at hl 1 rfl) ?_
          refine h_aaldI (D := G.1) hx hb hK 4 hW.txs rfl (vp_in_nI (n := i) (N := 4) (by omega) (by omega)) dX4_stands__29 ?_
          refine v_cv (show va_rf _ = .ref (tx i) from by rw [nI_clamp (n := i) (by omega)]; rfl) ?_
          refine lv_iload_n hx hb dX4_stands__30 rfl (lv_at hl 2 rfl) ?_
          refine va_gets (v := .ref (G.2.2 2)) hx hb zc5 hS hown (hts _ tw_5_56) (fun _ h9 => h9) dX4_stands__31 ?_
          refine lv_iload_n hx hb dX4_stands__34 rfl (lv_at hl 3 rfl) ?_
          refine h_aaTI (v := .ref (G.2.2 (3 + j))) hx hb zc6 hS (vp_in_nI (n := j) (N := 7) (by omega) (by omega)) (by rw [nI_clamp (n := j) (by omega)]) dX4_stands__35 ?_
          refine lv_iload hx hb dX4_stands__36 (lv_at hl 4 rfl) ?_
          have hTi := (hW.tx (j := i) (by omega)).ia hC.2.1.2
          have x60i := hW.2.2.1 i (Or.inl (by omega))
          have hKnj := (zc7 j hj).1.at' (hS.2.1 _ (zc7 j hj).1.lt (zc7 j hj).2)
          have k4j := knT_le (i := j) hj
          have i60 := x60i.2
          by_cases q9 : p9 < 0
          · have hneg := q9
            refine kS_i (A := A) (As := [.ref (tx i), .int p9, .ref (G.2.2 (3 + j)), .int (bI b)]) (rest := []) ⟨hx, hb, hml, hown, hts⟩ (mX4_stands_n (A := A) (t := X i) (u := knT j) (x := p9) (b0 := b) x60i.1 k4j.2 (by omega) (by omega) hneg) (va_cwS 4 hts (gS tw_6_175 tw_6_176 tw_1_8 tw_6_177) rfl rfl rfl (by decide +kernel) ⟨Nat.le_of_ble_eq_true rfl, Nat.le_of_ble_eq_true rfl⟩) hC hS hA  ⟨hTi, hKnj⟩ rfl rfl hl.1 (Nat.le_of_ble_eq_true rfl) ⟨Nat.zero_le _, Nat.zero_le _⟩ dX4_stands__38 (fun r9 h9 => lv_cv h9 ?_)
            refine f_eq (tgt := 48) hx hb dX4_stands__41 (by decide) (fun c_63 => ?_) (fun c_63 => ?_)
            · refine lv_iconst (v := nI 0) hx hb dX4_stands__48 (by decide) ?_
              exact q_z (b9 := false) hx hb hr hlocks dX4_stands__49 hS (Nat.le_refl _) (Nat.le_refl _) (Or.inr (Or.inr (⟨i, j, false, hi, rfl, hj, rfl, ⟨fun q => Bool.noConfusion q, fun ⟨a0, h31, w3, _⟩ => absurd (show nI a0 < 0 from w3 ▸ q9) (nI_pos h31)⟩, rfl, ra, pa, tx, hW⟩)))
            · exact absurd c_63 (by decide)
          · obtain ⟨a9, ha31, rfl⟩ := nI_of q9
            refine kS_i (A := A) (As := [.ref (tx i), .int (nI a9), .ref (G.2.2 (3 + j)), .int (bI b)]) (rest := []) ⟨hx, hb, hml, hown, hts⟩ (mX4_stands (A := A) (t := X i) (u := knT j) (i := a9) (b0 := b) x60i.1 k4j.2 (by omega) (by omega) (by omega)) (va_cwS 4 hts (gS tw_6_175 tw_6_176 tw_1_8 tw_6_177) rfl rfl rfl (by decide +kernel) ⟨Nat.le_of_ble_eq_true rfl, Nat.le_of_ble_eq_true rfl⟩) hC hS hA  ⟨hTi, hKnj⟩ rfl rfl hl.1 (Nat.le_of_ble_eq_true rfl) ⟨Nat.zero_le _, Nat.zero_le _⟩ dX4_stands__38 (fun r_64 hr_64 => ?_)
            obtain ⟨v9, hv9, rfl⟩ := hr_64
            refine f_eq (tgt := 48) hx hb dX4_stands__41 (by decide) (fun c_65 => ?_) (fun c_65 => ?_)
            · refine lv_iconst (v := nI 0) hx hb dX4_stands__48 (by decide) ?_
              exact q_z (b9 := false) hx hb hr hlocks dX4_stands__49 hS (Nat.le_refl _) (Nat.le_refl _) (Or.inr (Or.inr (⟨i, j, false, hi, rfl, hj, rfl, ⟨fun q => Bool.noConfusion q, fun ⟨a0, h31, w3, w4⟩ => by have w7 : a0 = a9 := (nI_eq h31 ha31).mp w3.symm; rw [w7] at w4; exact absurd (hv9.mpr w4) (by rw [c_65]; decide)⟩, rfl, ra, pa, tx, hW⟩)))
            · refine lv_iconst (v := nI 1) hx hb dX4_stands__44 (by decide) ?_
              refine lv_goto (tgt := 49) hx hb dX4_stands__45 (by decide) ?_
              exact q_z (b9 := true) hx hb hr hlocks dX4_stands__49 hS (Nat.le_refl _) (Nat.le_refl _) (Or.inr (Or.inr (⟨i, j, true, hi, rfl, hj, rfl, ⟨fun q => ⟨a9, ha31, rfl, hv9.mp (c_65)⟩, fun _ => rfl⟩, rfl, ra, pa, tx, hW⟩)))
      · refine qI_V (A := A) (A1 := A) (b := am) (As := [.int (bI true), .int (nI 2)]) (rest := []) ⟨hx, hb, hml, hown, hts⟩ (mX4_refuse (A := A) (X := X) (P := P) (k := k) (xa := xa) (b := true) (th := 0) (w9 := 2) (by decide) (by decide)) (cwV 2 hts (gV tw_4_210 tw_4_212 sel_X4_refuse tw_1_8 tw_4_213) rfl rfl rfl (by decide +kernel) ⟨Nat.le_of_ble_eq_true rfl, Nat.le_of_ble_eq_true rfl⟩) hC hS (fun _ h => h) (fun q h => hA q (Nat.le_trans hS.1 h)) (hW.recv hK) ⟨ra, pa, tx, hW⟩ rfl rfl hl.1 (Nat.le_of_ble_eq_true rfl) ⟨Nat.zero_le _, Nat.zero_le _⟩ dX4_stands__18 (fun rv66 H66 L66 hP66 hk66 hS => ?_)
        have hZ66 := hS.1
        obtain ⟨hr66, hM66⟩ := hP66
        subst hr66
        obtain ⟨ra, pa, tx, hW⟩ := hM66
        have hW : MWx G A am xa ra pa tx X P k (nI 2) H66 := hW
        have hO := hW.obj
        have hAm := hW.1
        refine f_ne (tgt := 48) hx hb dX4_stands__21 (by decide) (fun c_67 => ?_) (fun c_67 => ?_)
        · refine lv_iconst (v := nI 0) hx hb dX4_stands__48 (by decide) ?_
          exact q_z (b9 := false) hx hb hr hlocks dX4_stands__49 hS (Nat.le_refl _) (Nat.le_refl _) (Or.inr (Or.inl ⟨⟨⟨i, hi, rfl⟩, (hr_60v.mp rfl)⟩, rfl, ra, pa, tx, hW⟩))
        · exact absurd c_67 (by decide)
  · refine qI_V (A := A) (A1 := A) (b := am) (As := [.int (bI true), .int (nI 1)]) (rest := []) ⟨hx, hb, hml, hown, hts⟩ (mX4_start (A := A) (X := X) (P := P) (k := k) (xa := xa) (b := true) (w9 := 1) (by decide)) (cwV 2 hts (gV tw_4_206 tw_4_208 sel_X4_start tw_1_8 tw_4_209) rfl rfl rfl (by decide +kernel) ⟨Nat.le_of_ble_eq_true rfl, Nat.le_of_ble_eq_true rfl⟩) hC hS (fun _ h => h) (fun q h => hA q (Nat.le_trans hS.1 h)) (hW.recv hK) ⟨ra, pa, tx, hW⟩ rfl rfl hl.1 (Nat.le_of_ble_eq_true rfl) ⟨Nat.zero_le _, Nat.zero_le _⟩ dX4_stands__6 (fun rv68 H68 L68 hP68 hk68 hS => ?_)
    have hZ68 := hS.1
    obtain ⟨hr68, hM68⟩ := hP68
    subst hr68
    obtain ⟨ra, pa, tx, hW⟩ := hM68
    have hW : MWx G A am xa ra pa tx X P k (nI 1) H68 := hW
    have hO := hW.obj
    have hAm := hW.1
    refine f_ne (tgt := 48) hx hb dX4_stands__9 (by decide) (fun c_69 => ?_) (fun c_69 => ?_)
    · refine lv_iconst (v := nI 0) hx hb dX4_stands__48 (by decide) ?_
      exact q_z (b9 := false) hx hb hr hlocks dX4_stands__49 hS (Nat.le_refl _) (Nat.le_refl _) (Or.inl ⟨(hr_57v.mp rfl), rfl, ra, pa, tx, hW⟩)
    · exact absurd c_69 (by decide)

abbrev rmX4_isIn_ : Room := { frames := 3, cells := 0, slots := 0, locals := 66 }
theorem mX4_isIn_ {l : Launch} {G : Cx} {A : Nat → Prop} {am xa : Nat} {X : Nat → List Nat} {P : List (List Nat)} {k : Int32} {x y th : Int32} : Met l yX4_isIn_ (.code yX4_isIn_ cX4_isIn_ 3 (some .boolean) :: GW) rmX4_isIn_ (PC G A [.ref am, .int x, .int y] (MW G A am xa X P k th)) (qI A (fun r H => ((NT x ∨ NT y) ∧ r = 0 ∧ MW G A am xa X P k 1 H) ∨ ∃ i j : Nat, i < 4 ∧ x = nI i ∧ j < 4 ∧ y = nI j ∧ (∃ v : Bool, (v = true ↔ ∃ k9, stL false (X i) (X j) k9) ∧ r = bI v) ∧ MW G A am xa X P k 0 H)) 0 0 (A) := by
  refine mstart "SigntextModel" (by decide +kernel) rfl (Nat.le_of_ble_eq_true rfl) ?_
  intro p e s m below meth c ls hx hb hr hts hown hml hlocks hname hC hA hW hl
  have hl : lv_has ls 3 [(0, .ref am), (1, .int x), (2, .int y)] := hl
  have hK := hC.1
  have hS : va_S A s.heap s.heap [] := va_S.rf
  obtain ⟨ra, pa, tx, hW⟩ := hW
  have hO := hW.obj
  have hAm := hW.1
  refine lv_aload_n hx hb dX4_isIn__0 rfl (lv_at hl 0 rfl) ?_
  refine lv_aload_n hx hb dX4_isIn__1 rfl (lv_at hl 0 rfl) ?_
  refine lv_iload_n hx hb dX4_isIn__2 rfl (lv_at hl 1 rfl) ?_
  refine lv_iload_n hx hb dX4_isIn__3 rfl (lv_at hl 2 rfl) ?_
  refine kV_i (A := A) (b := am) (As := [.int x, .int y]) (rest := .ref am :: []) ⟨hx, hb, hml, hown, hts⟩ (mX4_areNone (A := A) (xa := xa) (X := X) (P := P) (k := k)) (cwV 2 hts (gV tw_6_204 tw_6_206 sel_X4_areNone tw_1_8 tw_6_207) rfl rfl rfl (by decide +kernel) ⟨Nat.le_of_ble_eq_true rfl, Nat.le_of_ble_eq_true rfl⟩) hC hS hA (hW.recv hK) ⟨ra, pa, tx, hW⟩ rfl rfl hl.1 (Nat.le_of_ble_eq_true rfl) ⟨Nat.zero_le _, Nat.zero_le _⟩ dX4_isIn__4 (fun r_70 hr_70 => ?_)
  obtain ⟨r_70v, hr_70v, rfl⟩ := hr_70
  refine lv_iconst (v := nI 1) hx hb dX4_isIn__7 (by decide) ?_
  cases r_70v
  · have hno : ¬ (NT x ∨ NT y) := fun q => Bool.noConfusion (hr_70v.mpr q)
    obtain ⟨i, hi, rfl⟩ : ∃ i : Nat, i < 4 ∧ x = nI i := Classical.byContradiction (fun q => hno (Or.inl q))
    obtain ⟨j, hj, rfl⟩ : ∃ j : Nat, j < 4 ∧ y = nI j := Classical.byContradiction (fun q => hno (Or.inr q))
    refine qI_V (A := A) (A1 := A) (b := am) (As := [.int (bI false), .int (nI 1)]) (rest := []) ⟨hx, hb, hml, hown, hts⟩ (mX4_start (A := A) (X := X) (P := P) (k := k) (xa := xa) (b := false) (w9 := 1) (by decide)) (cwV 2 hts (gV tw_4_206 tw_4_208 sel_X4_start tw_1_8 tw_4_209) rfl rfl rfl (by decide +kernel) ⟨Nat.le_of_ble_eq_true rfl, Nat.le_of_ble_eq_true rfl⟩) hC hS (fun _ h => h) (fun q h => hA q (Nat.le_trans hS.1 h)) (hW.recv hK) ⟨ra, pa, tx, hW⟩ rfl rfl hl.1 (Nat.le_of_ble_eq_true rfl) ⟨Nat.zero_le _, Nat.zero_le _⟩ dX4_isIn__8 (fun rv71 H71 L71 hP71 hk71 hS => ?_)
    have hZ71 := hS.1
    obtain ⟨hr71, hM71⟩ := hP71
    subst hr71
    obtain ⟨ra, pa, tx, hW⟩ := hM71
    have hW : MWx G A am xa ra pa tx X P k (nI 0) H71 := hW
    have hO := hW.obj
    have hAm := hW.1
    refine f_ne (tgt := 36) hx hb dX4_isIn__11 (by decide) (fun c_72 => ?_) (fun c_72 => ?_)
    · exact absurd c_72 (by decide)
    · refine lv_aload_n hx hb dX4_isIn__14 rfl (lv_at hl 0 rfl) ?_
      refine va_get (D := G.1) (ci := 8) (C := RX4) (T := TX4) (N := 5) hx hb hts inX4 hown hK (at_P hO) 0 rfl rfl 1 (by decide) (hts _ tw_4_173) (fun _ h9 => h9) rfl dX4_isIn__15 ?_
      refine lv_iload_n hx hb dX4_isIn__18 rfl (lv_at hl 1 rfl) ?_
      refine h_aaldI (D := G.1) hx hb hK 4 hW.txs rfl (vp_in_nI (n := i) (N := 4) (by omega) (by omega)) dX4_isIn__19 ?_
      refine v_cv (show va_rf _ = .ref (tx i) from by rw [nI_clamp (n := i) (by omega)]; rfl) ?_
      refine lv_aload_n hx hb dX4_isIn__20 rfl (lv_at hl 0 rfl) ?_
      refine va_get (D := G.1) (ci := 8) (C := RX4) (T := TX4) (N := 5) hx hb hts inX4 hown hK (at_P hO) 0 rfl rfl 1 (by decide) (hts _ tw_4_173) (fun _ h9 => h9) rfl dX4_isIn__21 ?_
      refine lv_iload_n hx hb dX4_isIn__24 rfl (lv_at hl 2 rfl) ?_
      refine h_aaldI (D := G.1) hx hb hK 4 hW.txs rfl (vp_in_nI (n := j) (N := 4) (by omega) (by omega)) dX4_isIn__25 ?_
      refine v_cv (show va_rf _ = .ref (tx j) from by rw [nI_clamp (n := j) (by omega)]; rfl) ?_
      have hTi := (hW.tx (j := i) (by omega)).ia hC.2.1.2
      have x60i := hW.2.2.1 i (Or.inl (by omega))
      have hTj := (hW.tx (j := j) (by omega)).ia hC.2.1.2
      have x60j := hW.2.2.1 j (Or.inl (by omega))
      have i60 := x60i.2
      have j60 := x60j.2
      refine kS_i (A := A) (As := [.ref (tx i), .ref (tx j)]) (rest := []) ⟨hx, hb, hml, hown, hts⟩ (mX4_first (A := A) (t := X i) (u := X j) x60i.1 x60j.1 (by omega) (by omega)) (va_cwS 2 hts (gS tw_6_172 tw_6_173 tw_1_8 tw_6_174) rfl rfl rfl (by decide +kernel) ⟨Nat.le_of_ble_eq_true rfl, Nat.le_of_ble_eq_true rfl⟩) hC hS hA  ⟨hTi, hTj⟩ rfl rfl hl.1 (Nat.le_of_ble_eq_true rfl) ⟨Nat.zero_le _, Nat.zero_le _⟩ dX4_isIn__26 (fun r_73 hr_73 => ?_)
      have h7 : fstR (fun k9 => stL false (X i) (X j) k9) r_73 := hr_73
      refine lv_if_lt (tgt := 36) hx hb dX4_isIn__29 (by decide) (fun c_74 => ?_) (fun c_74 => ?_)
      · refine lv_iconst (v := nI 0) hx hb dX4_isIn__36 (by decide) ?_
        exact q_z (b9 := false) hx hb hr hlocks dX4_isIn__37 hS (Nat.le_refl _) (Nat.le_refl _) (Or.inr (⟨i, j, hi, rfl, hj, rfl, ⟨false, ⟨fun q => Bool.noConfusion q, fun ⟨k9, q⟩ => absurd c_74 (fstR_pos h7 (fun k8 h8 => by have := h8.1; omega) q)⟩, rfl⟩, ra, pa, tx, hW⟩))
      · refine lv_iconst (v := nI 1) hx hb dX4_isIn__32 (by decide) ?_
        refine lv_goto (tgt := 37) hx hb dX4_isIn__33 (by decide) ?_
        exact q_z (b9 := true) hx hb hr hlocks dX4_isIn__37 hS (Nat.le_refl _) (Nat.le_refl _) (Or.inr (⟨i, j, hi, rfl, hj, rfl, ⟨true, ⟨fun _ => fstR_ex h7 c_74, fun _ => rfl⟩, rfl⟩, ra, pa, tx, hW⟩))
  · refine qI_V (A := A) (A1 := A) (b := am) (As := [.int (bI true), .int (nI 1)]) (rest := []) ⟨hx, hb, hml, hown, hts⟩ (mX4_start (A := A) (X := X) (P := P) (k := k) (xa := xa) (b := true) (w9 := 1) (by decide)) (cwV 2 hts (gV tw_4_206 tw_4_208 sel_X4_start tw_1_8 tw_4_209) rfl rfl rfl (by decide +kernel) ⟨Nat.le_of_ble_eq_true rfl, Nat.le_of_ble_eq_true rfl⟩) hC hS (fun _ h => h) (fun q h => hA q (Nat.le_trans hS.1 h)) (hW.recv hK) ⟨ra, pa, tx, hW⟩ rfl rfl hl.1 (Nat.le_of_ble_eq_true rfl) ⟨Nat.zero_le _, Nat.zero_le _⟩ dX4_isIn__8 (fun rv75 H75 L75 hP75 hk75 hS => ?_)
    have hZ75 := hS.1
    obtain ⟨hr75, hM75⟩ := hP75
    subst hr75
    obtain ⟨ra, pa, tx, hW⟩ := hM75
    have hW : MWx G A am xa ra pa tx X P k (nI 1) H75 := hW
    have hO := hW.obj
    have hAm := hW.1
    refine f_ne (tgt := 36) hx hb dX4_isIn__11 (by decide) (fun c_76 => ?_) (fun c_76 => ?_)
    · refine lv_iconst (v := nI 0) hx hb dX4_isIn__36 (by decide) ?_
      exact q_z (b9 := false) hx hb hr hlocks dX4_isIn__37 hS (Nat.le_refl _) (Nat.le_refl _) (Or.inl ⟨(hr_70v.mp rfl), rfl, ra, pa, tx, hW⟩)
    · exact absurd c_76 (by decide)
end
/-! 50.mod14 -/
section
/-! The model, 14: numbers as rows -/
theorem abs19 (x : Int64) : x.toInt.natAbs < 10 ^ 19 := by
  have h1 := Int64.le_toInt x
  have h2 := Int64.toInt_lt x
  have h3 : (10 : Nat) ^ 19 = 10000000000000000000 := rfl
  omega
theorem pow19 {v n : Nat} (hv : v < 10 ^ 19) (hn : 19 ≤ n) : v / 10 ^ n = 0 := Nat.div_eq_of_lt (Nat.lt_of_lt_of_le hv (Nat.pow_le_pow_right (by decide) hn))
theorem div10 {y : Int64} {v : Nat} (hy : y.toInt.natAbs = v) : (y / 10).toInt.natAbs = v / 10 := by
  rw [div_int y 10 (by decide), Int.natAbs_tdiv, hy]; rfl
theorem cmp0 {z : Int64} (h : z.toInt.natAbs = 0) : lg_cmp z 0 = 0 := by
  have e3 : z = 0 := by rw [← Int64.toInt_inj]; exact Int.natAbs_eq_zero.mp h
  rw [e3]; rfl
theorem cmp0r {z : Int64} (h : lg_cmp z 0 = 0) : z.toInt.natAbs = 0 := by
  unfold lg_cmp at h
  split at h
  · exact absurd h (by decide)
  · split at h
    · next q => rw [q]; rfl
    · exact absurd h (by decide)
theorem dig_abs {y : Int64} {v : Nat} (hy : y.toInt.natAbs = v) : (y - y / 10 * 10).toInt.natAbs = v % 10 := by
  rw [rem_int y 10 (by decide), Int.natAbs_tmod, hy]; rfl
theorem dig_ge {y : Int64} {v : Nat} (hy : y.toInt.natAbs = v) (h : 0 ≤ lg_cmp (y - y / 10 * 10) 0) : (y - y / 10 * 10).toInt32 = nI (v % 10) := by
  have h1 := dig_abs hy
  have h2 := (lt0_cmp _).mp h
  generalize y - y / 10 * 10 = r at *
  have h6 : v % 10 < 10 := Nat.mod_lt _ (by decide)
  have h7 : r.toInt32.toInt = r.toInt := by rw [Int64.toInt_toInt32]; exact bmod_id32 (by omega) (by omega)
  have h8 : ¬ r.toInt < 0 := fun q => h2 (by rw [Int64.lt_iff_toInt_lt]; exact q)
  rw [← Int32.toInt_inj, h7, nI_toInt (by omega)]; omega
theorem dig_lt {y : Int64} {v : Nat} (hy : y.toInt.natAbs = v) (h : ¬ 0 ≤ lg_cmp (y - y / 10 * 10) 0) : (-(y - y / 10 * 10)).toInt32 = nI (v % 10) := by
  have h1 := dig_abs hy
  have h2 : y - y / 10 * 10 < 0 := Decidable.byContradiction (fun q => h ((lt0_cmp _).mpr q))
  generalize y - y / 10 * 10 = r at *
  have h6 : v % 10 < 10 := Nat.mod_lt _ (by decide)
  have h8 : r.toInt < 0 := by rw [Int64.lt_iff_toInt_lt] at h2; exact h2
  have h9 : (-r).toInt = -r.toInt := by rw [Int64.toInt_neg]; exact bmod_id (by omega) (by omega)
  have h7 : (-r).toInt32.toInt = -r.toInt := by rw [Int64.toInt_toInt32, h9]; exact bmod_id32 (by omega) (by omega)
  rw [← Int32.toInt_inj, h7, nI_toInt (by omega)]; omega
theorem digsT (n v : Nat) : (digs n v true).length = n ∧ ∀ i : Nat, i < n → (digs n v true).getD (n - 1 - i) 0 = 48 + v / 10 ^ i % 10 := by
  induction n with
  | zero => exact ⟨rfl, fun i hi => absurd hi (Nat.not_lt_zero i)⟩
  | succ n ih =>
    rw [digs_t rfl rfl]
    refine ⟨by rw [List.length_append, ih.1]; show 1 + n = n + 1; omega, fun i hi => ?_⟩
    rcases Nat.lt_succ_iff_lt_or_eq.mp hi with q | q
    · rw [show n + 1 - 1 - i = (n - 1 - i) + 1 by omega]
      show (_ :: digs n v true).getD (n - 1 - i + 1) 0 = _
      rw [List.getD_cons_succ]; exact ih.2 i q
    · rw [q, show n + 1 - 1 - n = 0 by omega]; rfl
theorem digsF {m v : Nat} (h0 : 1 ≤ m) (h1 : m = 1 ∨ v / 10 ^ (m - 1) ≠ 0) (h2 : v / 10 ^ m = 0) : ∀ n : Nat, m ≤ n → digs n v false = digs m v true := by
  intro n hn
  induction n with
  | zero => omega
  | succ n ih =>
    rcases Nat.lt_or_ge n m with q | q
    · have e : m = n + 1 := by omega
      subst e
      rw [Nat.add_sub_cancel] at h1
      have h3 : v / 10 ^ n < 10 := by
        rw [Nat.pow_succ, ← Nat.div_div_eq_div_mul] at h2
        exact Decidable.byContradiction (fun z => by omega)
      rw [digs_t rfl (b := true) rfl]
      rw [digs_t rfl (by
        rcases h1 with z | z
        · rw [show n = 0 by omega]; simp
        · rw [Nat.mod_eq_of_lt h3]; simp [z])]
    · have h3 : v / 10 ^ n = 0 := by
        rw [show n = m + (n - m) by omega, Nat.pow_add, ← Nat.div_div_eq_div_mul, h2, Nat.zero_div]
      rw [digs_f (d := 0) (by rw [h3]) (by have z : n ≠ 0 := (by omega); simp [z])]
      exact ih q
theorem numL_get {x : Int64} {m sg : Nat} (h0 : 1 ≤ m) (hm : m ≤ 19) (h1 : m = 1 ∨ x.toInt.natAbs / 10 ^ (m - 1) ≠ 0) (h2 : x.toInt.natAbs / 10 ^ m = 0) (hs : sg = if x < 0 then 1 else 0) : (numL x).length = m + sg ∧ (∀ i : Nat, i < m → (numL x).getD (m + sg - 1 - i) 0 = 48 + x.toInt.natAbs / 10 ^ i % 10) ∧ (x < 0 → (numL x).getD 0 0 = 45) := by
  have hd := digsT m x.toInt.natAbs
  unfold numL
  rw [digsF h0 h1 h2 19 hm]
  by_cases c : x < 0
  · rw [if_pos c] at hs ⊢
    subst hs
    refine ⟨by rw [List.length_append, hd.1]; show 1 + m = m + 1; omega, fun i hi => ?_, fun _ => rfl⟩
    rw [show m + 1 - 1 - i = (m - 1 - i) + 1 by omega]
    show (45 :: digs m _ true).getD (m - 1 - i + 1) 0 = _
    rw [List.getD_cons_succ]; exact hd.2 i hi
  · rw [if_neg c] at hs ⊢
    subst hs
    exact ⟨hd.1, fun i hi => hd.2 i hi, fun q => absurd q c⟩
theorem digs_len (n v : Nat) (b : Bool) : (digs n v b).length ≤ n ∧ okc (digs n v b) := by
  induction n generalizing b with
  | zero => exact ⟨Nat.le_refl _, okc_nil⟩
  | succ n ih =>
    have h6 : v / 10 ^ n % 10 < 10 := Nat.mod_lt _ (by decide)
    unfold digs
    have h7 := ih (b || decide (v / 10 ^ n % 10 ≠ 0) || decide (n = 0))
    rw [List.length_append]
    refine ⟨?_, okc_app ?_ h7.2⟩
    · split
      · show 1 + _ ≤ _; omega
      · show 0 + _ ≤ _; omega
    · split
      · exact okc_one (by omega)
      · exact okc_nil
theorem numL_len (x : Int64) : (numL x).length ≤ 20 := by
  have h := (digs_len 19 x.toInt.natAbs false).1
  unfold numL
  rw [List.length_append]
  split
  · show 1 + _ ≤ _; omega
  · show 0 + _ ≤ _; omega
theorem numL_take {x : Int64} : (numL x).take 60 = numL x := List.take_of_length_le (by have := numL_len x; omega)
theorem numL_ok (x : Int64) : okc ((numL x).take 60) ∧ ((numL x).take 60).length ≤ 20 := by
  rw [numL_take]
  refine ⟨?_, numL_len x⟩
  unfold numL
  refine okc_app ?_ (digs_len 19 x.toInt.natAbs false).2
  split
  · exact okc_one (by decide)
  · exact okc_nil
theorem dX4_digits_0 : decode cX4_digits 0 = .ok (.bipush 20, 2) := by decide +kernel
theorem dX4_digits_2 : decode cX4_digits 2 = .ok (.newarray .int, 2) := by decide +kernel
theorem dX4_digits_4 : decode cX4_digits 4 = .ok (.astore_n 2, 1) := by decide +kernel
theorem dX4_digits_5 : decode cX4_digits 5 = .ok (.iconst 0, 1) := by decide +kernel
theorem dX4_digits_6 : decode cX4_digits 6 = .ok (.istore_n 3, 1) := by decide +kernel
theorem dX4_digits_7 : decode cX4_digits 7 = .ok (.lload_n 0, 1) := by decide +kernel
theorem dX4_digits_8 : decode cX4_digits 8 = .ok (.lstore 4, 2) := by decide +kernel
theorem dX4_digits_10 : decode cX4_digits 10 = .ok (.lload 4, 2) := by decide +kernel
theorem dX4_digits_12 : decode cX4_digits 12 = .ok (.ldc2_w 15, 3) := by decide +kernel
theorem dX4_digits_15 : decode cX4_digits 15 = .ok (.lrem, 1) := by decide +kernel
theorem dX4_digits_16 : decode cX4_digits 16 = .ok (.lstore 6, 2) := by decide +kernel
theorem dX4_digits_18 : decode cX4_digits 18 = .ok (.aload_n 2, 1) := by decide +kernel
theorem dX4_digits_19 : decode cX4_digits 19 = .ok (.iload_n 3, 1) := by decide +kernel
theorem dX4_digits_20 : decode cX4_digits 20 = .ok (.bipush 48, 2) := by decide +kernel
theorem dX4_digits_22 : decode cX4_digits 22 = .ok (.lload 6, 2) := by decide +kernel
theorem dX4_digits_24 : decode cX4_digits 24 = .ok (.lconst 0, 1) := by decide +kernel
theorem dX4_digits_25 : decode cX4_digits 25 = .ok (.lcmp, 1) := by decide +kernel
theorem dX4_digits_26 : decode cX4_digits 26 = .ok (.ifCond .ge 9, 3) := by decide +kernel
theorem dX4_digits_29 : decode cX4_digits 29 = .ok (.lload 6, 2) := by decide +kernel
theorem dX4_digits_31 : decode cX4_digits 31 = .ok (.lneg, 1) := by decide +kernel
theorem dX4_digits_32 : decode cX4_digits 32 = .ok (.goto 5, 3) := by decide +kernel
theorem dX4_digits_35 : decode cX4_digits 35 = .ok (.lload 6, 2) := by decide +kernel
theorem dX4_digits_37 : decode cX4_digits 37 = .ok (.l2i, 1) := by decide +kernel
theorem dX4_digits_38 : decode cX4_digits 38 = .ok (.iadd, 1) := by decide +kernel
theorem dX4_digits_39 : decode cX4_digits 39 = .ok (.iastore, 1) := by decide +kernel
theorem dX4_digits_40 : decode cX4_digits 40 = .ok (.iinc 3 1, 3) := by decide +kernel
theorem dX4_digits_43 : decode cX4_digits 43 = .ok (.lload 4, 2) := by decide +kernel
theorem dX4_digits_45 : decode cX4_digits 45 = .ok (.ldc2_w 15, 3) := by decide +kernel
theorem dX4_digits_48 : decode cX4_digits 48 = .ok (.ldiv, 1) := by decide +kernel
theorem dX4_digits_49 : decode cX4_digits 49 = .ok (.lstore 4, 2) := by decide +kernel
theorem dX4_digits_51 : decode cX4_digits 51 = .ok (.lload 4, 2) := by decide +kernel
theorem dX4_digits_53 : decode cX4_digits 53 = .ok (.lconst 0, 1) := by decide +kernel
theorem dX4_digits_54 : decode cX4_digits 54 = .ok (.lcmp, 1) := by decide +kernel
theorem dX4_digits_55 : decode cX4_digits 55 = .ok (.ifCond .ne (-45), 3) := by decide +kernel
theorem dX4_digits_58 : decode cX4_digits 58 = .ok (.iload_n 3, 1) := by decide +kernel
theorem dX4_digits_59 : decode cX4_digits 59 = .ok (.lload_n 0, 1) := by decide +kernel
theorem dX4_digits_60 : decode cX4_digits 60 = .ok (.lconst 0, 1) := by decide +kernel
theorem dX4_digits_61 : decode cX4_digits 61 = .ok (.lcmp, 1) := by decide +kernel
theorem dX4_digits_62 : decode cX4_digits 62 = .ok (.ifCond .ge 7, 3) := by decide +kernel
theorem dX4_digits_65 : decode cX4_digits 65 = .ok (.iconst 1, 1) := by decide +kernel
theorem dX4_digits_66 : decode cX4_digits 66 = .ok (.goto 4, 3) := by decide +kernel
theorem dX4_digits_69 : decode cX4_digits 69 = .ok (.iconst 0, 1) := by decide +kernel
theorem dX4_digits_70 : decode cX4_digits 70 = .ok (.invokestatic 17, 3) := by decide +kernel
theorem dX4_digits_73 : decode cX4_digits 73 = .ok (.iadd, 1) := by decide +kernel
theorem dX4_digits_74 : decode cX4_digits 74 = .ok (.newarray .int, 2) := by decide +kernel
theorem dX4_digits_76 : decode cX4_digits 76 = .ok (.astore 6, 2) := by decide +kernel
theorem dX4_digits_78 : decode cX4_digits 78 = .ok (.lload_n 0, 1) := by decide +kernel
theorem dX4_digits_79 : decode cX4_digits 79 = .ok (.lconst 0, 1) := by decide +kernel
theorem dX4_digits_80 : decode cX4_digits 80 = .ok (.lcmp, 1) := by decide +kernel
theorem dX4_digits_81 : decode cX4_digits 81 = .ok (.ifCond .ge 9, 3) := by decide +kernel
theorem dX4_digits_84 : decode cX4_digits 84 = .ok (.aload 6, 2) := by decide +kernel
theorem dX4_digits_86 : decode cX4_digits 86 = .ok (.iconst 0, 1) := by decide +kernel
theorem dX4_digits_87 : decode cX4_digits 87 = .ok (.bipush 45, 2) := by decide +kernel
theorem dX4_digits_89 : decode cX4_digits 89 = .ok (.iastore, 1) := by decide +kernel
theorem dX4_digits_90 : decode cX4_digits 90 = .ok (.iconst 0, 1) := by decide +kernel
theorem dX4_digits_91 : decode cX4_digits 91 = .ok (.istore 7, 2) := by decide +kernel
theorem dX4_digits_93 : decode cX4_digits 93 = .ok (.iload 7, 2) := by decide +kernel
theorem dX4_digits_95 : decode cX4_digits 95 = .ok (.iload_n 3, 1) := by decide +kernel
theorem dX4_digits_96 : decode cX4_digits 96 = .ok (.if_icmp .ge 24, 3) := by decide +kernel
theorem dX4_digits_99 : decode cX4_digits 99 = .ok (.aload 6, 2) := by decide +kernel
theorem dX4_digits_101 : decode cX4_digits 101 = .ok (.aload 6, 2) := by decide +kernel
theorem dX4_digits_103 : decode cX4_digits 103 = .ok (.arraylength, 1) := by decide +kernel
theorem dX4_digits_104 : decode cX4_digits 104 = .ok (.iconst 1, 1) := by decide +kernel
theorem dX4_digits_105 : decode cX4_digits 105 = .ok (.isub, 1) := by decide +kernel
theorem dX4_digits_106 : decode cX4_digits 106 = .ok (.iload 7, 2) := by decide +kernel
theorem dX4_digits_108 : decode cX4_digits 108 = .ok (.isub, 1) := by decide +kernel
theorem dX4_digits_109 : decode cX4_digits 109 = .ok (.aload_n 2, 1) := by decide +kernel
theorem dX4_digits_110 : decode cX4_digits 110 = .ok (.iload 7, 2) := by decide +kernel
theorem dX4_digits_112 : decode cX4_digits 112 = .ok (.iaload, 1) := by decide +kernel
theorem dX4_digits_113 : decode cX4_digits 113 = .ok (.iastore, 1) := by decide +kernel
theorem dX4_digits_114 : decode cX4_digits 114 = .ok (.iinc 7 1, 3) := by decide +kernel
theorem dX4_digits_117 : decode cX4_digits 117 = .ok (.goto (-24), 3) := by decide +kernel
theorem dX4_digits_120 : decode cX4_digits 120 = .ok (.aload 6, 2) := by decide +kernel
theorem dX4_digits_122 : decode cX4_digits 122 = .ok (.areturn, 1) := by decide +kernel
abbrev rmX4_digits : Room := { frames := 1, cells := 2, slots := 40, locals := 20 }
theorem mX4_digits {l : Launch} {G : Cx} {A : Nat → Prop} {x : Int64} {sz : Nat} : Met l yX4_digits (.code yX4_digits cX4_digits 8 (some (.array .int)) :: GW) rmX4_digits (PC G A [.long x] (fun H => H.size = sz)) (qR A (fun r H => sz ≤ r ∧ IA0 G r ((numL x).take 60) H)) 2 40 (A) := by
  refine mstart "SigntextModel" (by decide +kernel) rfl (Nat.le_of_ble_eq_true rfl) ?_
  intro p e s m below meth c ls hx hb hr hts hown hml hlocks hname hC hA hW hl
  have hl : lv_has ls 8 [(0, .long x)] := hl
  have hK := hC.1
  have hS : va_S A s.heap s.heap [] := va_S.rf
  have hv19 := abs19 x
  refine lv_bipush (v := nI 20) hx hb dX4_digits_0 (by decide) ?_
  refine h_newa (D := G.1) (atype := .int) (N := 20) (z := (20, .inl (fun _ => 0))) hx hb (hts _ tw_1_70) rfl (fun h => h) hK 0 rfl hS rfl (nI_pos (by omega)) (nI_clamp (by omega)) (show 20 * _ ≤ _ from by show 20 * 4 ≤ 536870912; omega) (Nat.le_trans (show 0 + 1 ≤ 2 by omega) (Nat.le_of_ble_eq_true rfl)) (Nat.le_trans (show 0 + 20 ≤ 40 by omega) (Nat.le_of_ble_eq_true rfl)) dX4_digits_2 (fun na H1 hna hFna z1 o1 hS => ?_)
  have hZ1 := hS.1
  have hMna : A na := hA na (by omega)
  have naz : sz ≤ na := by omega
  refine lv_astore_n (lv' := [(2, .ref na), (0, .long x)]) hx hb dX4_digits_4 rfl hl (by decide) rfl (fun ls hl => ?_)
  refine lv_iconst (v := nI 0) hx hb dX4_digits_5 (by decide) ?_
  refine lv_istore_n (lv' := [(3, .int (nI 0)), (2, .ref na), (0, .long x)]) hx hb dX4_digits_6 rfl hl (by decide) rfl (fun ls hl => ?_)
  refine lv_lload_n hx hb dX4_digits_7 rfl (lv_at hl 2 rfl) ?_
  refine lv_lstore (lv' := [(4, .long x), (3, .int (nI 0)), (2, .ref na), (0, .long x)]) hx hb dX4_digits_8 hl (by decide) rfl (fun ls hl => ?_)
  refine nloop (P := fun j => ∀ (ls : Array Slot) (H : Heap) (L : List Loc) (y : Int64) (f : Nat → Int32), lv_has ls 8 [(4, .long y), (3, .int (nI j)), (2, .ref na), (0, .long x)] → va_S A s.heap H L → y.toInt.natAbs = x.toInt.natAbs / 10 ^ j → (j = 0 ∨ x.toInt.natAbs / 10 ^ j ≠ 0) → va_at G.1 vwCl (na, .inl (G.2.1 0, 20, .inl f)) H → (∀ q : Nat, q < j → f q = nI (48 + x.toInt.natAbs / 10 ^ q % 10)) → W p l e rmX4_digits s m [.long x].toArray below meth c H L (0 + 1) (0 + 20) (MQ below (qR A (fun r H => sz ≤ r ∧ IA0 G r ((numL x).take 60) H)) [.long x].toArray s 2 40 (A)) (F0 m 10 ls [])) 18 ?_ 0 (Nat.zero_le _) ls H1 [] x (fun _ => 0) hl hS (by rw [Nat.pow_zero, Nat.div_one]) (Or.inl rfl) hFna (fun q hq => absurd hq (Nat.not_lt_zero q))
  clear hl
  intro j hj ih ls H L y f hl
  clear hS hFna
  intro hS hy hjz hFna hf
  have hZ0 := hS.1
  refine lv_lload hx hb dX4_digits_10 (lv_at hl 0 rfl) ?_
  refine lv_ldc2 (v := 10) hx hb hown (hts _ tw_5_25) dX4_digits_12 ?_
  refine lv_lrem hx hb dX4_digits_15 (by decide) ?_
  refine lv_lstore (lv' := [(6, .long (y - y / 10 * 10)), (4, .long y), (3, .int (nI j)), (2, .ref na), (0, .long x)]) hx hb dX4_digits_16 hl (by decide) rfl (fun ls hl => ?_)
  refine lv_aload_n hx hb dX4_digits_18 rfl (lv_at hl 3 rfl) ?_
  refine lv_iload_n hx hb dX4_digits_19 rfl (lv_at hl 2 rfl) ?_
  refine lv_bipush (v := nI 48) hx hb dX4_digits_20 (by decide) ?_
  refine lv_lload hx hb dX4_digits_22 (lv_at hl 0 rfl) ?_
  refine lv_lconst (v := 0) hx hb dX4_digits_24 (by decide) ?_
  refine W.lcmp hx hb dX4_digits_25 ?_
  refine lv_if_ge (tgt := 35) hx hb dX4_digits_26 (by decide) (fun c_2 => ?_) (fun c_2 => ?_)
  · refine lv_lload hx hb dX4_digits_35 (lv_at hl 0 rfl) ?_
    refine lv_l2i hx hb dX4_digits_37 rfl ?_
    refine lv_cv (dig_ge hy c_2) ?_
    have d10 : x.toInt.natAbs / 10 ^ j % 10 < 10 := Nat.mod_lt _ (by decide)
    refine lv_iadd hx hb dX4_digits_38 ?_
    refine lv_cv (nI_add 48 (x.toInt.natAbs / 10 ^ j % 10)) ?_
    refine h_ist (D := G.1) hx hb hK 0 hFna rfl hS hMna (vp_in_nI (n := j) (N := 20) (by omega) (by omega)) dX4_digits_39 (fun H3 L3 hFna z3 o3 hS => ?_)
    rw [nI_clamp (n := j) (by omega)] at hFna
    have hZ3 := hS.1
    have hf : ∀ q : Nat, q < j + 1 → (upd f j (nI (48 + x.toInt.natAbs / 10 ^ j % 10))) q = nI (48 + x.toInt.natAbs / 10 ^ q % 10) := fun q hq => by by_cases e9 : q = j; rw [e9, pk_us]; rw [pk_un e9]; exact hf q (by omega)
    refine lv_iinc (v := nI (j + 1)) (lv' := [(3, .int (nI (j + 1))), (6, .long (y - y / 10 * 10)), (4, .long y), (2, .ref na), (0, .long x)]) hx hb dX4_digits_40 hl (k := 2) rfl (nI_add j 1) (by decide) rfl (fun ls hl => ?_)
    refine lv_lload hx hb dX4_digits_43 (lv_at hl 2 rfl) ?_
    refine lv_ldc2 (v := 10) hx hb hown (hts _ tw_5_25) dX4_digits_45 ?_
    refine lv_ldiv hx hb dX4_digits_48 (by decide) ?_
    have hy2 : (y / 10).toInt.natAbs = x.toInt.natAbs / 10 ^ (j + 1) := by rw [div10 hy, Nat.div_div_eq_div_mul, ← Nat.pow_succ]
    refine lv_lstore (lv' := [(4, .long (y / 10)), (3, .int (nI (j + 1))), (6, .long (y - y / 10 * 10)), (2, .ref na), (0, .long x)]) hx hb dX4_digits_49 hl (by decide) rfl (fun ls hl => ?_)
    refine lv_lload hx hb dX4_digits_51 (lv_at hl 0 rfl) ?_
    refine lv_lconst (v := 0) hx hb dX4_digits_53 (by decide) ?_
    refine W.lcmp hx hb dX4_digits_54 ?_
    refine lv_if_ne (tgt := 10) hx hb dX4_digits_55 (by decide) (fun c_4 => ?_) (fun c_4 => ?_)
    · have hnz : x.toInt.natAbs / 10 ^ (j + 1) ≠ 0 := fun q => c_4 (cmp0 (hy2.trans q))
      have hj18 : j + 1 ≤ 18 := by rcases Nat.lt_or_ge j 18 with q | q; omega; exact absurd (pow19 hv19 (by omega)) hnz
      exact ih (j + 1) (by omega) hj18 ls H3 L3 _ _ (lv_sub hl [0, 1, 3, 4] rfl) hS hy2 (Or.inr hnz) hFna hf
    · have hz9 : x.toInt.natAbs / 10 ^ (j + 1) = 0 := by rw [← hy2]; exact cmp0r c_4
      clear ih
      refine lv_iload_n hx hb dX4_digits_58 rfl (lv_at hl 1 rfl) ?_
      refine lv_lload_n hx hb dX4_digits_59 rfl (lv_at hl 4 rfl) ?_
      refine lv_lconst (v := 0) hx hb dX4_digits_60 (by decide) ?_
      refine W.lcmp hx hb dX4_digits_61 ?_
      refine lv_if_ge (tgt := 69) hx hb dX4_digits_62 (by decide) (fun c_5 => ?_) (fun c_5 => ?_)
      · have c9 : ¬ x < 0 := (lt0_cmp x).mp c_5
        refine lv_iconst (v := nI 0) hx hb dX4_digits_69 (by decide) ?_
        refine kS_i (A := A) (As := [.int (bI false)]) (rest := .int (nI (j + 1)) :: []) ⟨hx, hb, hml, hown, hts⟩ (mX4_one (A := A) ) (va_cwS 1 hts (gS tw_5_26 tw_5_27 tw_1_8 tw_5_28) rfl rfl rfl (by decide +kernel) ⟨Nat.le_of_ble_eq_true rfl, Nat.le_of_ble_eq_true rfl⟩) hC hS hA  trivial rfl rfl hl.1 (Nat.le_of_ble_eq_true rfl) ⟨Nat.le_trans (show (0 + 1) ≤ 2 by omega) (Nat.le_of_ble_eq_true rfl), Nat.le_trans (show (0 + 20) ≤ 40 by omega) (Nat.le_of_ble_eq_true rfl)⟩ dX4_digits_70 (fun r9 h9 => lv_cv h9 ?_)
        refine lv_cv (show bI false = nI 0 from rfl) ?_
        refine lv_iadd hx hb dX4_digits_73 ?_
        refine lv_cv (nI_add (j + 1) 0) ?_
        refine h_newa (D := G.1) (atype := .int) (N := j + 1 + 0) (z := (j + 1 + 0, .inl (fun _ => 0))) hx hb (hts _ tw_1_70) rfl (fun h => h) hK 0 rfl hS rfl (nI_pos (by omega)) (nI_clamp (by omega)) (show (j + 1 + 0) * _ ≤ _ from by show (j + 1 + 0) * 4 ≤ 536870912; omega) (Nat.le_trans (show (0 + 1) + 1 ≤ 2 by omega) (Nat.le_of_ble_eq_true rfl)) (Nat.le_trans (show (0 + 20) + (j + 1 + 0) ≤ 40 by omega) (Nat.le_of_ble_eq_true rfl)) dX4_digits_74 (fun nb H6 hnb hFnb z6 o6 hS => ?_)
        have n6hFna : na ≠ nb := fun q => absurd hFna.lt (by rw [q, hnb]; exact Nat.lt_irrefl _)
        have hFna := at_n hFna o6
        have hZ6 := hS.1
        have hMnb : A nb := hA nb (by omega)
        refine lv_astore (lv' := [(6, .ref nb), (4, .long (y / 10)), (3, .int (nI (j + 1))), (2, .ref na), (0, .long x)]) hx hb dX4_digits_76 hl (by decide) rfl (fun ls hl => ?_)
        refine lv_lload_n hx hb dX4_digits_78 rfl (lv_at hl 4 rfl) ?_
        refine lv_lconst (v := 0) hx hb dX4_digits_79 (by decide) ?_
        refine W.lcmp hx hb dX4_digits_80 ?_
        refine lv_if_ge (tgt := 90) hx hb dX4_digits_81 (by decide) (fun c_7 => ?_) (fun c_7 => ?_)
        · refine lv_iconst (v := nI 0) hx hb dX4_digits_90 (by decide) ?_
          refine lv_istore (lv' := [(7, .int (nI 0)), (6, .ref nb), (4, .long (y / 10)), (3, .int (nI (j + 1))), (2, .ref na), (0, .long x)]) hx hb dX4_digits_91 hl (by decide) rfl (fun ls hl => ?_)
          have nea : na ≠ nb := n6hFna
          obtain ⟨f2, hf2⟩ : ∃ f2, f2 = (upd f j (nI (48 + x.toInt.natAbs / 10 ^ j % 10))) := ⟨_, rfl⟩
          rw [← hf2] at hFna hf
          have hl : lv_has ls 8 [(7, .int (nI 0)), (6, .ref nb), (3, .int (nI (j + 1))), (2, .ref na)] := (lv_sub hl [0, 1, 3, 4] rfl)
          refine nloop (P := fun q => ∀ (ls : Array Slot) (H : Heap) (L : List Loc) (g : Nat → Int32), lv_has ls 8 [(7, .int (nI q)), (6, .ref nb), (3, .int (nI (j + 1))), (2, .ref na)] → va_S A s.heap H L → va_at G.1 vwCl (na, .inl (G.2.1 0, 20, .inl f2)) H → va_at G.1 vwCl (nb, .inl (G.2.1 0, j + 1 + 0, .inl g)) H → (∀ i : Nat, i < q → g (j + 1 + 0 - 1 - i) = nI (48 + x.toInt.natAbs / 10 ^ i % 10)) → W p l e rmX4_digits s m [.long x].toArray below meth c H L ((0 + 1) + 1) ((0 + 20) + (j + 1 + 0)) (MQ below (qR A (fun r H => sz ≤ r ∧ IA0 G r ((numL x).take 60) H)) [.long x].toArray s 2 40 (A)) (F0 m 93 ls [])) (j + 1) ?_ 0 (Nat.zero_le _) ls H6 L3 (fun _ => 0) hl hS hFna hFnb (fun i hi => absurd hi (Nat.not_lt_zero i)) 
          clear hl
          intro q hq ih ls H L g hl
          clear hS hFna hFnb
          intro hS hFna hFnb hg
          have hZ0 := hS.1
          refine lv_iload hx hb dX4_digits_93 (lv_at hl 0 rfl) ?_
          refine lv_iload_n hx hb dX4_digits_95 rfl (lv_at hl 2 rfl) ?_
          refine b_ge (tgt := 120) hx hb dX4_digits_96 (by decide) (by omega) (by omega) (fun c_8 => ?_) (fun c_8 => ?_)
          · have e9 : q = j + 1 := by omega
            subst e9
            refine lv_aload hx hb dX4_digits_120 (lv_at hl 1 rfl) ?_
            obtain ⟨nl1, nl2, nl3⟩ := numL_get (x := x) (m := j + 1) (sg := 0) (by omega) (by omega) (by rcases hjz with q | q; exact Or.inl (by omega); exact Or.inr q) hz9 (by rw [if_neg c9])
            exact q_a hx hb hr (Or.inr ⟨_, rfl⟩) hlocks dX4_digits_122 hS (by omega) (by omega) ⟨by omega, by rw [numL_take]; exact IA0.mk hFnb nl1.symm (fun i hi => by have e8 : j + 1 + 0 - 1 - (j + 1 + 0 - 1 - i) = i := (by omega); have h8 := hg (j + 1 + 0 - 1 - i) (by omega); have h9 := nl2 (j + 1 + 0 - 1 - i) (by omega); rw [e8] at h8 h9; rw [h8, h9])⟩
          · refine lv_aload hx hb dX4_digits_99 (lv_at hl 1 rfl) ?_
            refine lv_aload hx hb dX4_digits_101 (lv_at hl 1 rfl) ?_
            refine va_alen hx hb hK (at_P hFnb) 0 0 (v := nI (j + 1 + 0)) rfl rfl rfl dX4_digits_103 ?_
            refine lv_iconst (v := nI 1) hx hb dX4_digits_104 (by decide) ?_
            refine lv_isub hx hb dX4_digits_105 ?_
            refine lv_cv (pk_sub (a := j + 1 + 0) (b := 1) (by omega)) ?_
            refine lv_iload hx hb dX4_digits_106 (lv_at hl 0 rfl) ?_
            refine lv_isub hx hb dX4_digits_108 ?_
            refine lv_cv (pk_sub (a := j + 1 + 0 - 1) (b := q) (by omega)) ?_
            refine lv_aload_n hx hb dX4_digits_109 rfl (lv_at hl 3 rfl) ?_
            refine lv_iload hx hb dX4_digits_110 (lv_at hl 0 rfl) ?_
            refine va_iald hx hb hK (at_P hFna) 0 0 rfl rfl (vp_in_nI (n := q) (N := 20) (by omega) (by omega)) dX4_digits_112 ?_
            refine lv_cv (show _ = f2 q from by rw [nI_clamp (by omega)]) ?_
            refine lv_cv (hf q (by omega)) ?_
            refine h_ist (D := G.1) hx hb hK 0 hFnb rfl hS hMnb (vp_in_nI (n := j + 1 + 0 - 1 - q) (N := j + 1 + 0) (by omega) (by omega)) dX4_digits_113 (fun H9 L9 hFnb z9 o9 hS => ?_)
            rw [nI_clamp (n := j + 1 + 0 - 1 - q) (by omega)] at hFnb
            have hFna := at_o hFna o9 nea
            have hZ9 := hS.1
            refine lv_iinc (v := nI (q + 1)) (lv' := [(7, .int (nI (q + 1))), (6, .ref nb), (3, .int (nI (j + 1))), (2, .ref na)]) hx hb dX4_digits_114 hl (k := 0) rfl (nI_add q 1) (by decide) rfl (fun ls hl => ?_)
            refine lv_goto (tgt := 93) hx hb dX4_digits_117 (by decide) ?_
            exact ih (q + 1) (by omega) (by omega) ls H9 L9 _ (lv_sub hl [0, 1, 2, 3] rfl) hS hFna hFnb (fun i hi => by by_cases e9 : i = q; rw [e9, show j + 1 + 0 - 1 - q = j + 1 + 0 - 1 - q by omega, pk_us]; rw [pk_un (by omega)]; exact hg i (by omega))
        · exact absurd ((lt0_cmp x).mpr c9) c_7
      · have c9 : x < 0 := Decidable.byContradiction (fun q => c_5 ((lt0_cmp x).mpr q))
        refine lv_iconst (v := nI 1) hx hb dX4_digits_65 (by decide) ?_
        refine lv_goto (tgt := 70) hx hb dX4_digits_66 (by decide) ?_
        refine kS_i (A := A) (As := [.int (bI true)]) (rest := .int (nI (j + 1)) :: []) ⟨hx, hb, hml, hown, hts⟩ (mX4_one (A := A) ) (va_cwS 1 hts (gS tw_5_26 tw_5_27 tw_1_8 tw_5_28) rfl rfl rfl (by decide +kernel) ⟨Nat.le_of_ble_eq_true rfl, Nat.le_of_ble_eq_true rfl⟩) hC hS hA  trivial rfl rfl hl.1 (Nat.le_of_ble_eq_true rfl) ⟨Nat.le_trans (show (0 + 1) ≤ 2 by omega) (Nat.le_of_ble_eq_true rfl), Nat.le_trans (show (0 + 20) ≤ 40 by omega) (Nat.le_of_ble_eq_true rfl)⟩ dX4_digits_70 (fun r9 h9 => lv_cv h9 ?_)
        refine lv_cv (show bI true = nI 1 from rfl) ?_
        refine lv_iadd hx hb dX4_digits_73 ?_
        refine lv_cv (nI_add (j + 1) 1) ?_
        refine h_newa (D := G.1) (atype := .int) (N := j + 1 + 1) (z := (j + 1 + 1, .inl (fun _ => 0))) hx hb (hts _ tw_1_70) rfl (fun h => h) hK 0 rfl hS rfl (nI_pos (by omega)) (nI_clamp (by omega)) (show (j + 1 + 1) * _ ≤ _ from by show (j + 1 + 1) * 4 ≤ 536870912; omega) (Nat.le_trans (show (0 + 1) + 1 ≤ 2 by omega) (Nat.le_of_ble_eq_true rfl)) (Nat.le_trans (show (0 + 20) + (j + 1 + 1) ≤ 40 by omega) (Nat.le_of_ble_eq_true rfl)) dX4_digits_74 (fun nb H10 hnb hFnb z10 o10 hS => ?_)
        have n10hFna : na ≠ nb := fun q => absurd hFna.lt (by rw [q, hnb]; exact Nat.lt_irrefl _)
        have hFna := at_n hFna o10
        have hZ10 := hS.1
        have hMnb : A nb := hA nb (by omega)
        refine lv_astore (lv' := [(6, .ref nb), (4, .long (y / 10)), (3, .int (nI (j + 1))), (2, .ref na), (0, .long x)]) hx hb dX4_digits_76 hl (by decide) rfl (fun ls hl => ?_)
        refine lv_lload_n hx hb dX4_digits_78 rfl (lv_at hl 4 rfl) ?_
        refine lv_lconst (v := 0) hx hb dX4_digits_79 (by decide) ?_
        refine W.lcmp hx hb dX4_digits_80 ?_
        refine lv_if_ge (tgt := 90) hx hb dX4_digits_81 (by decide) (fun c_11 => ?_) (fun c_11 => ?_)
        · exact absurd c9 ((lt0_cmp x).mp c_11)
        · refine lv_aload hx hb dX4_digits_84 (lv_at hl 0 rfl) ?_
          refine lv_iconst (v := nI 0) hx hb dX4_digits_86 (by decide) ?_
          refine lv_bipush (v := nI 45) hx hb dX4_digits_87 (by decide) ?_
          have nea : na ≠ nb := n10hFna
          refine h_ist (D := G.1) hx hb hK 0 hFnb rfl hS hMnb (vp_in_nI (n := 0) (N := j + 1 + 1) (by omega) (by omega)) dX4_digits_89 (fun H12 L12 hFnb z12 o12 hS => ?_)
          rw [nI_clamp (n := 0) (by omega)] at hFnb
          have hFna := at_o hFna o12 n10hFna
          have hZ12 := hS.1
          refine lv_iconst (v := nI 0) hx hb dX4_digits_90 (by decide) ?_
          refine lv_istore (lv' := [(7, .int (nI 0)), (6, .ref nb), (4, .long (y / 10)), (3, .int (nI (j + 1))), (2, .ref na), (0, .long x)]) hx hb dX4_digits_91 hl (by decide) rfl (fun ls hl => ?_)
          obtain ⟨f2, hf2⟩ : ∃ f2, f2 = (upd f j (nI (48 + x.toInt.natAbs / 10 ^ j % 10))) := ⟨_, rfl⟩
          rw [← hf2] at hFna hf
          have hl : lv_has ls 8 [(7, .int (nI 0)), (6, .ref nb), (3, .int (nI (j + 1))), (2, .ref na)] := (lv_sub hl [0, 1, 3, 4] rfl)
          refine nloop (P := fun q => ∀ (ls : Array Slot) (H : Heap) (L : List Loc) (g : Nat → Int32), lv_has ls 8 [(7, .int (nI q)), (6, .ref nb), (3, .int (nI (j + 1))), (2, .ref na)] → va_S A s.heap H L → va_at G.1 vwCl (na, .inl (G.2.1 0, 20, .inl f2)) H → va_at G.1 vwCl (nb, .inl (G.2.1 0, j + 1 + 1, .inl g)) H → (∀ i : Nat, i < q → g (j + 1 + 1 - 1 - i) = nI (48 + x.toInt.natAbs / 10 ^ i % 10)) → (g 0 = nI 45) → W p l e rmX4_digits s m [.long x].toArray below meth c H L ((0 + 1) + 1) ((0 + 20) + (j + 1 + 1)) (MQ below (qR A (fun r H => sz ≤ r ∧ IA0 G r ((numL x).take 60) H)) [.long x].toArray s 2 40 (A)) (F0 m 93 ls [])) (j + 1) ?_ 0 (Nat.zero_le _) ls H12 L12 (upd (fun _ => 0) 0 (nI 45)) hl hS hFna hFnb (fun i hi => absurd hi (Nat.not_lt_zero i)) pk_us
          clear hl
          intro q hq ih ls H L g hl
          clear hS hFna hFnb
          intro hS hFna hFnb hg hg0
          have hZ0 := hS.1
          refine lv_iload hx hb dX4_digits_93 (lv_at hl 0 rfl) ?_
          refine lv_iload_n hx hb dX4_digits_95 rfl (lv_at hl 2 rfl) ?_
          refine b_ge (tgt := 120) hx hb dX4_digits_96 (by decide) (by omega) (by omega) (fun c_13 => ?_) (fun c_13 => ?_)
          · have e9 : q = j + 1 := by omega
            subst e9
            refine lv_aload hx hb dX4_digits_120 (lv_at hl 1 rfl) ?_
            obtain ⟨nl1, nl2, nl3⟩ := numL_get (x := x) (m := j + 1) (sg := 1) (by omega) (by omega) (by rcases hjz with q | q; exact Or.inl (by omega); exact Or.inr q) hz9 (by rw [if_pos c9])
            exact q_a hx hb hr (Or.inr ⟨_, rfl⟩) hlocks dX4_digits_122 hS (by omega) (by omega) ⟨by omega, by rw [numL_take]; exact IA0.mk hFnb nl1.symm (fun i hi => by rcases Nat.eq_zero_or_pos i with q | q; rw [q, nl3 c9]; exact hg0; have e8 : j + 1 + 1 - 1 - (j + 1 + 1 - 1 - i) = i := (by omega); have h8 := hg (j + 1 + 1 - 1 - i) (by omega); have h9 := nl2 (j + 1 + 1 - 1 - i) (by omega); rw [e8] at h8 h9; rw [h8, h9])⟩
          · refine lv_aload hx hb dX4_digits_99 (lv_at hl 1 rfl) ?_
            refine lv_aload hx hb dX4_digits_101 (lv_at hl 1 rfl) ?_
            refine va_alen hx hb hK (at_P hFnb) 0 0 (v := nI (j + 1 + 1)) rfl rfl rfl dX4_digits_103 ?_
            refine lv_iconst (v := nI 1) hx hb dX4_digits_104 (by decide) ?_
            refine lv_isub hx hb dX4_digits_105 ?_
            refine lv_cv (nI_pred (j + 1)) ?_
            refine lv_iload hx hb dX4_digits_106 (lv_at hl 0 rfl) ?_
            refine lv_isub hx hb dX4_digits_108 ?_
            refine lv_cv (pk_sub (a := j + 1) (b := q) (by omega)) ?_
            refine lv_aload_n hx hb dX4_digits_109 rfl (lv_at hl 3 rfl) ?_
            refine lv_iload hx hb dX4_digits_110 (lv_at hl 0 rfl) ?_
            refine va_iald hx hb hK (at_P hFna) 0 0 rfl rfl (vp_in_nI (n := q) (N := 20) (by omega) (by omega)) dX4_digits_112 ?_
            refine lv_cv (show _ = f2 q from by rw [nI_clamp (by omega)]) ?_
            refine lv_cv (hf q (by omega)) ?_
            refine h_ist (D := G.1) hx hb hK 0 hFnb rfl hS hMnb (vp_in_nI (n := j + 1 - q) (N := j + 1 + 1) (by omega) (by omega)) dX4_digits_113 (fun H14 L14 hFnb z14 o14 hS => ?_)
            rw [nI_clamp (n := j + 1 - q) (by omega)] at hFnb
            have hFna := at_o hFna o14 nea
            have hZ14 := hS.1
            refine lv_iinc (v := nI (q + 1)) (lv' := [(7, .int (nI (q + 1))), (6, .ref nb), (3, .int (nI (j + 1))), (2, .ref na)]) hx hb dX4_digits_114 hl (k := 0) rfl (nI_add q 1) (by decide) rfl (fun ls hl => ?_)
            refine lv_goto (tgt := 93) hx hb dX4_digits_117 (by decide) ?_
            exact ih (q + 1) (by omega) (by omega) ls H14 L14 _ (lv_sub hl [0, 1, 2, 3] rfl) hS hFna hFnb (fun i hi => by by_cases e9 : i = q; rw [e9, show j + 1 + 1 - 1 - q = j + 1 - q by omega, pk_us]; rw [pk_un (by omega)]; exact hg i (by omega)) (by rw [pk_un (by omega)]; exact hg0)
  · refine lv_lload hx hb dX4_digits_29 (lv_at hl 0 rfl) ?_
    refine lv_lneg hx hb dX4_digits_31 ?_
    refine lv_goto (tgt := 37) hx hb dX4_digits_32 (by decide) ?_
    refine lv_l2i hx hb dX4_digits_37 rfl ?_
    refine lv_cv (dig_lt hy c_2) ?_
    have d10 : x.toInt.natAbs / 10 ^ j % 10 < 10 := Nat.mod_lt _ (by decide)
    refine lv_iadd hx hb dX4_digits_38 ?_
    refine lv_cv (nI_add 48 (x.toInt.natAbs / 10 ^ j % 10)) ?_
    refine h_ist (D := G.1) hx hb hK 0 hFna rfl hS hMna (vp_in_nI (n := j) (N := 20) (by omega) (by omega)) dX4_digits_39 (fun H15 L15 hFna z15 o15 hS => ?_)
    rw [nI_clamp (n := j) (by omega)] at hFna
    have hZ15 := hS.1
    have hf : ∀ q : Nat, q < j + 1 → (upd f j (nI (48 + x.toInt.natAbs / 10 ^ j % 10))) q = nI (48 + x.toInt.natAbs / 10 ^ q % 10) := fun q hq => by by_cases e9 : q = j; rw [e9, pk_us]; rw [pk_un e9]; exact hf q (by omega)
    refine lv_iinc (v := nI (j + 1)) (lv' := [(3, .int (nI (j + 1))), (6, .long (y - y / 10 * 10)), (4, .long y), (2, .ref na), (0, .long x)]) hx hb dX4_digits_40 hl (k := 2) rfl (nI_add j 1) (by decide) rfl (fun ls hl => ?_)
    refine lv_lload hx hb dX4_digits_43 (lv_at hl 2 rfl) ?_
    refine lv_ldc2 (v := 10) hx hb hown (hts _ tw_5_25) dX4_digits_45 ?_
    refine lv_ldiv hx hb dX4_digits_48 (by decide) ?_
    have hy2 : (y / 10).toInt.natAbs = x.toInt.natAbs / 10 ^ (j + 1) := by rw [div10 hy, Nat.div_div_eq_div_mul, ← Nat.pow_succ]
    refine lv_lstore (lv' := [(4, .long (y / 10)), (3, .int (nI (j + 1))), (6, .long (y - y / 10 * 10)), (2, .ref na), (0, .long x)]) hx hb dX4_digits_49 hl (by decide) rfl (fun ls hl => ?_)
    refine lv_lload hx hb dX4_digits_51 (lv_at hl 0 rfl) ?_
    refine lv_lconst (v := 0) hx hb dX4_digits_53 (by decide) ?_
    refine W.lcmp hx hb dX4_digits_54 ?_
    refine lv_if_ne (tgt := 10) hx hb dX4_digits_55 (by decide) (fun c_16 => ?_) (fun c_16 => ?_)
    · have hnz : x.toInt.natAbs / 10 ^ (j + 1) ≠ 0 := fun q => c_16 (cmp0 (hy2.trans q))
      have hj18 : j + 1 ≤ 18 := by rcases Nat.lt_or_ge j 18 with q | q; omega; exact absurd (pow19 hv19 (by omega)) hnz
      exact ih (j + 1) (by omega) hj18 ls H15 L15 _ _ (lv_sub hl [0, 1, 3, 4] rfl) hS hy2 (Or.inr hnz) hFna hf
    · have hz9 : x.toInt.natAbs / 10 ^ (j + 1) = 0 := by rw [← hy2]; exact cmp0r c_16
      clear ih
      refine lv_iload_n hx hb dX4_digits_58 rfl (lv_at hl 1 rfl) ?_
      refine lv_lload_n hx hb dX4_digits_59 rfl (lv_at hl 4 rfl) ?_
      refine lv_lconst (v := 0) hx hb dX4_digits_60 (by decide) ?_
      refine W.lcmp hx hb dX4_digits_61 ?_
      refine lv_if_ge (tgt := 69) hx hb dX4_digits_62 (by decide) (fun c_17 => ?_) (fun c_17 => ?_)
      · have c9 : ¬ x < 0 := (lt0_cmp x).mp c_17
        refine lv_iconst (v := nI 0) hx hb dX4_digits_69 (by decide) ?_
        refine kS_i (A := A) (As := [.int (bI false)]) (rest := .int (nI (j + 1)) :: []) ⟨hx, hb, hml, hown, hts⟩ (mX4_one (A := A) ) (va_cwS 1 hts (gS tw_5_26 tw_5_27 tw_1_8 tw_5_28) rfl rfl rfl (by decide +kernel) ⟨Nat.le_of_ble_eq_true rfl, Nat.le_of_ble_eq_true rfl⟩) hC hS hA  trivial rfl rfl hl.1 (Nat.le_of_ble_eq_true rfl) ⟨Nat.le_trans (show (0 + 1) ≤ 2 by omega) (Nat.le_of_ble_eq_true rfl), Nat.le_trans (show (0 + 20) ≤ 40 by omega) (Nat.le_of_ble_eq_true rfl)⟩ dX4_digits_70 (fun r9 h9 => lv_cv h9 ?_)
        refine lv_cv (show bI false = nI 0 from rfl) ?_
        refine lv_iadd hx hb dX4_digits_73 ?_
        refine lv_cv (nI_add (j + 1) 0) ?_
        refine h_newa (D := G.1) (atype := .int) (N := j + 1 + 0) (z := (j + 1 + 0, .inl (fun _ => 0))) hx hb (hts _ tw_1_70) rfl (fun h => h) hK 0 rfl hS rfl (nI_pos (by omega)) (nI_clamp (by omega)) (show (j + 1 + 0) * _ ≤ _ from by show (j + 1 + 0) * 4 ≤ 536870912; omega) (Nat.le_trans (show (0 + 1) + 1 ≤ 2 by omega) (Nat.le_of_ble_eq_true rfl)) (Nat.le_trans (show (0 + 20) + (j + 1 + 0) ≤ 40 by omega) (Nat.le_of_ble_eq_true rfl)) dX4_digits_74 (fun nb H18 hnb hFnb z18 o18 hS => ?_)
        have n18hFna : na ≠ nb := fun q => absurd hFna.lt (by rw [q, hnb]; exact Nat.lt_irrefl _)
        have hFna := at_n hFna o18
        have hZ18 := hS.1
        have hMnb : A nb := hA nb (by omega)
        refine lv_astore (lv' := [(6, .ref nb), (4, .long (y / 10)), (3, .int (nI (j + 1))), (2, .ref na), (0, .long x)]) hx hb dX4_digits_76 hl (by decide) rfl (fun ls hl => ?_)
        refine lv_lload_n hx hb dX4_digits_78 rfl (lv_at hl 4 rfl) ?_
        refine lv_lconst (v := 0) hx hb dX4_digits_79 (by decide) ?_
        refine W.lcmp hx hb dX4_digits_80 ?_
        refine lv_if_ge (tgt := 90) hx hb dX4_digits_81 (by decide) (fun c_19 => ?_) (fun c_19 => ?_)
        · refine lv_iconst (v := nI 0) hx hb dX4_digits_90 (by decide) ?_
          refine lv_istore (lv' := [(7, .int (nI 0)), (6, .ref nb), (4, .long (y / 10)), (3, .int (nI (j + 1))), (2, .ref na), (0, .long x)]) hx hb dX4_digits_91 hl (by decide) rfl (fun ls hl => ?_)
          have nea : na ≠ nb := n18hFna
          obtain ⟨f2, hf2⟩ : ∃ f2, f2 = (upd f j (nI (48 + x.toInt.natAbs / 10 ^ j % 10))) := ⟨_, rfl⟩
          rw [← hf2] at hFna hf
          have hl : lv_has ls 8 [(7, .int (nI 0)), (6, .ref nb), (3, .int (nI (j + 1))), (2, .ref na)] := (lv_sub hl [0, 1, 3, 4] rfl)
          refine nloop (P := fun q => ∀ (ls : Array Slot) (H : Heap) (L : List Loc) (g : Nat → Int32), lv_has ls 8 [(7, .int (nI q)), (6, .ref nb), (3, .int (nI (j + 1))), (2, .ref na)] → va_S A s.heap H L → va_at G.1 vwCl (na, .inl (G.2.1 0, 20, .inl f2)) H → va_at G.1 vwCl (nb, .inl (G.2.1 0, j + 1 + 0, .inl g)) H → (∀ i : Nat, i < q → g (j + 1 + 0 - 1 - i) = nI (48 + x.toInt.natAbs / 10 ^ i % 10)) → W p l e rmX4_digits s m [.long x].toArray below meth c H L ((0 + 1) + 1) ((0 + 20) + (j + 1 + 0)) (MQ below (qR A (fun r H => sz ≤ r ∧ IA0 G r ((numL x).take 60) H)) [.long x].toArray s 2 40 (A)) (F0 m 93 ls [])) (j + 1) ?_ 0 (Nat.zero_le _) ls H18 L15 (fun _ => 0) hl hS hFna hFnb (fun i hi => absurd hi (Nat.not_lt_zero i)) 
          clear hl
          intro q hq ih ls H L g hl
          clear hS hFna hFnb
          intro hS hFna hFnb hg
          have hZ0 := hS.1
          refine lv_iload hx hb dX4_digits_93 (lv_at hl 0 rfl) ?_
          refine lv_iload_n hx hb dX4_digits_95 rfl (lv_at hl 2 rfl) ?_
          refine b_ge (tgt := 120) hx hb dX4_digits_96 (by decide) (by omega) (by omega) (fun c_20 => ?_) (fun c_20 => ?_)
          · have e9 : q = j + 1 := by omega
            subst e9
            refine lv_aload hx hb dX4_digits_120 (lv_at hl 1 rfl) ?_
            obtain ⟨nl1, nl2, nl3⟩ := numL_get (x := x) (m := j + 1) (sg := 0) (by omega) (by omega) (by rcases hjz with q | q; exact Or.inl (by omega); exact Or.inr q) hz9 (by rw [if_neg c9])
            exact q_a hx hb hr (Or.inr ⟨_, rfl⟩) hlocks dX4_digits_122 hS (by omega) (by omega) ⟨by omega, by rw [numL_take]; exact IA0.mk hFnb nl1.symm (fun i hi => by have e8 : j + 1 + 0 - 1 - (j + 1 + 0 - 1 - i) = i := (by omega); have h8 := hg (j + 1 + 0 - 1 - i) (by omega); have h9 := nl2 (j + 1 + 0 - 1 - i) (by omega); rw [e8] at h8 h9; rw [h8, h9])⟩
          · refine lv_aload hx hb dX4_digits_99 (lv_at hl 1 rfl) ?_
            refine lv_aload hx hb dX4_digits_101 (lv_at hl 1 rfl) ?_
            refine va_alen hx hb hK (at_P hFnb) 0 0 (v := nI (j + 1 + 0)) rfl rfl rfl dX4_digits_103 ?_
            refine lv_iconst (v := nI 1) hx hb dX4_digits_104 (by decide) ?_
            refine lv_isub hx hb dX4_digits_105 ?_
            refine lv_cv (pk_sub (a := j + 1 + 0) (b := 1) (by omega)) ?_
            refine lv_iload hx hb dX4_digits_106 (lv_at hl 0 rfl) ?_
            refine lv_isub hx hb dX4_digits_108 ?_
            refine lv_cv (pk_sub (a := j + 1 + 0 - 1) (b := q) (by omega)) ?_
            refine lv_aload_n hx hb dX4_digits_109 rfl (lv_at hl 3 rfl) ?_
            refine lv_iload hx hb dX4_digits_110 (lv_at hl 0 rfl) ?_
            refine va_iald hx hb hK (at_P hFna) 0 0 rfl rfl (vp_in_nI (n := q) (N := 20) (by omega) (by omega)) dX4_digits_112 ?_
            refine lv_cv (show _ = f2 q from by rw [nI_clamp (by omega)]) ?_
            refine lv_cv (hf q (by omega)) ?_
            refine h_ist (D := G.1) hx hb hK 0 hFnb rfl hS hMnb (vp_in_nI (n := j + 1 + 0 - 1 - q) (N := j + 1 + 0) (by omega) (by omega)) dX4_digits_113 (fun H21 L21 hFnb z21 o21 hS => ?_)
            rw [nI_clamp (n := j + 1 + 0 - 1 - q) (by omega)] at hFnb
            have hFna := at_o hFna o21 nea
            have hZ21 := hS.1
            refine lv_iinc (v := nI (q + 1)) (lv' := [(7, .int (nI (q + 1))), (6, .ref nb), (3, .int (nI (j + 1))), (2, .ref na)]) hx hb dX4_digits_114 hl (k := 0) rfl (nI_add q 1) (by decide) rfl (fun ls hl => ?_)
            refine lv_goto (tgt := 93) hx hb dX4_digits_117 (by decide) ?_
            exact ih (q + 1) (by omega) (by omega) ls H21 L21 _ (lv_sub hl [0, 1, 2, 3] rfl) hS hFna hFnb (fun i hi => by by_cases e9 : i = q; rw [e9, show j + 1 + 0 - 1 - q = j + 1 + 0 - 1 - q by omega, pk_us]; rw [pk_un (by omega)]; exact hg i (by omega))
        · exact absurd ((lt0_cmp x).mpr c9) c_19
      · have c9 : x < 0 := Decidable.byContradiction (fun q => c_17 ((lt0_cmp x).mpr q))
        refine lv_iconst (v := nI 1) hx hb dX4_digits_65 (by decide) ?_
        refine lv_goto (tgt := 70) hx hb dX4_digits_66 (by decide) ?_
        refine kS_i (A := A) (As := [.int (bI true)]) (rest := .int (nI (j + 1)) :: []) ⟨hx, hb, hml, hown, hts⟩ (mX4_one (A := A) ) (va_cwS 1 hts (gS tw_5_26 tw_5_27 tw_1_8 tw_5_28) rfl rfl rfl (by decide +kernel) ⟨Nat.le_of_ble_eq_true rfl, Nat.le_of_ble_eq_true rfl⟩) hC hS hA  trivial rfl rfl hl.1 (Nat.le_of_ble_eq_true rfl) ⟨Nat.le_trans (show (0 + 1) ≤ 2 by omega) (Nat.le_of_ble_eq_true rfl), Nat.le_trans (show (0 + 20) ≤ 40 by omega) (Nat.le_of_ble_eq_true rfl)⟩ dX4_digits_70 (fun r9 h9 => lv_cv h9 ?_)
        refine lv_cv (show bI true = nI 1 from rfl) ?_
        refine lv_iadd hx hb dX4_digits_73 ?_
        refine lv_cv (nI_add (j + 1) 1) ?_
        refine h_newa (D := G.1) (atype := .int) (N := j + 1 + 1) (z := (j + 1 + 1, .inl (fun _ => 0))) hx hb (hts _ tw_1_70) rfl (fun h => h) hK 0 rfl hS rfl (nI_pos (by omega)) (nI_clamp (by omega)) (show (j + 1 + 1) * _ ≤ _ from by show (j + 1 + 1) * 4 ≤ 536870912; omega) (Nat.le_trans (show (0 + 1) + 1 ≤ 2 by omega) (Nat.le_of_ble_eq_true rfl)) (Nat.le_trans (show (0 + 20) + (j + 1 + 1) ≤ 40 by omega) (Nat.le_of_ble_eq_true rfl)) dX4_digits_74 (fun nb H22 hnb hFnb z22 o22 hS => ?_)
        have n22hFna : na ≠ nb := fun q => absurd hFna.lt (by rw [q, hnb]; exact Nat.lt_irrefl _)
        have hFna := at_n hFna o22
        have hZ22 := hS.1
        have hMnb : A nb := hA nb (by omega)
        refine lv_astore (lv' := [(6, .ref nb), (4, .long (y / 10)), (3, .int (nI (j + 1))), (2, .ref na), (0, .long x)]) hx hb dX4_digits_76 hl (by decide) rfl (fun ls hl => ?_)
        refine lv_lload_n hx hb dX4_digits_78 rfl (lv_at hl 4 rfl) ?_
        refine lv_lconst (v := 0) hx hb dX4_digits_79 (by decide) ?_
        refine W.lcmp hx hb dX4_digits_80 ?_
        refine lv_if_ge (tgt := 90) hx hb dX4_digits_81 (by decide) (fun c_23 => ?_) (fun c_23 => ?_)
        · exact absurd c9 ((lt0_cmp x).mp c_23)
        · refine lv_aload hx hb dX4_digits_84 (lv_at hl 0 rfl) ?_
          refine lv_iconst (v := nI 0) hx hb dX4_digits_86 (by decide) ?_
          refine lv_bipush (v := nI 45) hx hb dX4_digits_87 (by decide) ?_
          have nea : na ≠ nb := n22hFna
          refine h_ist (D := G.1) hx hb hK 0 hFnb rfl hS hMnb (vp_in_nI (n := 0) (N := j + 1 + 1) (by omega) (by omega)) dX4_digits_89 (fun H24 L24 hFnb z24 o24 hS => ?_)
          rw [nI_clamp (n := 0) (by omega)] at hFnb
          have hFna := at_o hFna o24 n22hFna
          have hZ24 := hS.1
          refine lv_iconst (v := nI 0) hx hb dX4_digits_90 (by decide) ?_
          refine lv_istore (lv' := [(7, .int (nI 0)), (6, .ref nb), (4, .long (y / 10)), (3, .int (nI (j + 1))), (2, .ref na), (0, .long x)]) hx hb dX4_digits_91 hl (by decide) rfl (fun ls hl => ?_)
          obtain ⟨f2, hf2⟩ : ∃ f2, f2 = (upd f j (nI (48 + x.toInt.natAbs / 10 ^ j % 10))) := ⟨_, rfl⟩
          rw [← hf2] at hFna hf
          have hl : lv_has ls 8 [(7, .int (nI 0)), (6, .ref nb), (3, .int (nI (j + 1))), (2, .ref na)] := (lv_sub hl [0, 1, 3, 4] rfl)
          refine nloop (P := fun q => ∀ (ls : Array Slot) (H : Heap) (L : List Loc) (g : Nat → Int32), lv_has ls 8 [(7, .int (nI q)), (6, .ref nb), (3, .int (nI (j + 1))), (2, .ref na)] → va_S A s.heap H L → va_at G.1 vwCl (na, .inl (G.2.1 0, 20, .inl f2)) H → va_at G.1 vwCl (nb, .inl (G.2.1 0, j + 1 + 1, .inl g)) H → (∀ i : Nat, i < q → g (j + 1 + 1 - 1 - i) = nI (48 + x.toInt.natAbs / 10 ^ i % 10)) → (g 0 = nI 45) → W p l e rmX4_digits s m [.long x].toArray below meth c H L ((0 + 1) + 1) ((0 + 20) + (j + 1 + 1)) (MQ below (qR A (fun r H => sz ≤ r ∧ IA0 G r ((numL x).take 60) H)) [.long x].toArray s 2 40 (A)) (F0 m 93 ls [])) (j + 1) ?_ 0 (Nat.zero_le _) ls H24 L24 (upd (fun _ => 0) 0 (nI 45)) hl hS hFna hFnb (fun i hi => absurd hi (Nat.not_lt_zero i)) pk_us
          clear hl
          intro q hq ih ls H L g hl
          clear hS hFna hFnb
          intro hS hFna hFnb hg hg0
          have hZ0 := hS.1
          refine lv_iload hx hb dX4_digits_93 (lv_at hl 0 rfl) ?_
          refine lv_iload_n hx hb dX4_digits_95 rfl (lv_at hl 2 rfl) ?_
          refine b_ge (tgt := 120) hx hb dX4_digits_96 (by decide) (by omega) (by omega) (fun c_25 => ?_) (fun c_25 => ?_)
          · have e9 : q = j + 1 := by omega
            subst e9
            refine lv_aload hx hb dX4_digits_120 (lv_at hl 1 rfl) ?_
            obtain ⟨nl1, nl2, nl3⟩ := numL_get (x := x) (m := j + 1) (sg := 1) (by omega) (by omega) (by rcases hjz with q | q; exact Or.inl (by omega); exact Or.inr q) hz9 (by rw [if_pos c9])
            exact q_a hx hb hr (Or.inr ⟨_, rfl⟩) hlocks dX4_digits_122 hS (by omega) (by omega) ⟨by omega, by rw [numL_take]; exact IA0.mk hFnb nl1.symm (fun i hi => by rcases Nat.eq_zero_or_pos i with q | q; rw [q, nl3 c9]; exact hg0; have e8 : j + 1 + 1 - 1 - (j + 1 + 1 - 1 - i) = i := (by omega); have h8 := hg (j + 1 + 1 - 1 - i) (by omega); have h9 := nl2 (j + 1 + 1 - 1 - i) (by omega); rw [e8] at h8 h9; rw [h8, h9])⟩
          · refine lv_aload hx hb dX4_digits_99 (lv_at hl 1 rfl) ?_
            refine lv_aload hx hb dX4_digits_101 (lv_at hl 1 rfl) ?_
            refine va_alen hx hb hK (at_P hFnb) 0 0 (v := nI (j + 1 + 1)) rfl rfl rfl dX4_digits_103 ?_
            refine lv_iconst (v := nI 1) hx hb dX4_digits_104 (by decide) ?_
            refine lv_isub hx hb dX4_digits_105 ?_
            refine lv_cv (nI_pred (j + 1)) ?_
            refine lv_iload hx hb dX4_digits_106 (lv_at hl 0 rfl) ?_
            refine lv_isub hx hb dX4_digits_108 ?_
            refine lv_cv (pk_sub (a := j + 1) (b := q) (by omega)) ?_
            refine lv_aload_n hx hb dX4_digits_109 rfl (lv_at hl 3 rfl) ?_
            refine lv_iload hx hb dX4_digits_110 (lv_at hl 0 rfl) ?_
            refine va_iald hx hb hK (at_P hFna) 0 0 rfl rfl (vp_in_nI (n := q) (N := 20) (by omega) (by omega)) dX4_digits_112 ?_
            refine lv_cv (show _ = f2 q from by rw [nI_clamp (by omega)]) ?_
            refine lv_cv (hf q (by omega)) ?_
            refine h_ist (D := G.1) hx hb hK 0 hFnb rfl hS hMnb (vp_in_nI (n := j + 1 - q) (N := j + 1 + 1) (by omega) (by omega)) dX4_digits_113 (fun H26 L26 hFnb z26 o26 hS => ?_)
            rw [nI_clamp (n := j + 1 - q) (by omega)] at hFnb
            have hFna := at_o hFna o26 nea
            have hZ26 := hS.1
            refine lv_iinc (v := nI (q + 1)) (lv' := [(7, .int (nI (q + 1))), (6, .ref nb), (3, .int (nI (j + 1))), (2, .ref na)]) hx hb dX4_digits_114 hl (k := 0) rfl (nI_add q 1) (by decide) rfl (fun ls hl => ?_)
            refine lv_goto (tgt := 93) hx hb dX4_digits_117 (by decide) ?_
            exact ih (q + 1) (by omega) (by omega) ls H26 L26 _ (lv_sub hl [0, 1, 2, 3] rfl) hS hFna hFnb (fun i hi => by by_cases e9 : i = q; rw [e9, show j + 1 + 1 - 1 - q = j + 1 - q by omega, pk_us]; rw [pk_un (by omega)]; exact hg i (by omega)) (by rw [pk_un (by omega)]; exact hg0)
end
/-! 51.mod15 -/
section
/-! The model, 15: numbers and truths beside a text, put -/
section MWS4
variable {G : Cx} {A B : Nat → Prop} {am xa : Nat} {X : Nat → List Nat} {P : List (List Nat)} {k th : Int32} {H H1 : Heap} {s : State}
theorem MWx_mono {ra pa : Nat} {tx : Nat → Nat} (hAB : ∀ q, A q → B q) (h : MWx G A am xa ra pa tx X P k th H) : MWx G B am xa ra pa tx X P k th H := by
  obtain ⟨a1, a2, a3, a4, b1, b2, b3, b4, b5, b6, b7, b8⟩ := h
  refine ⟨hAB _ a1, hAB _ a2, a3, a4, hAB _ b1, hAB _ b2, b3, b4, b5, b6, b7, ?_⟩
  obtain ⟨h0, h | ⟨md, ed, cap, f, pe, h1, h2, h3, h4, h5, h6⟩⟩ := b8
  · exact ⟨h0, Or.inl h⟩
  · exact ⟨h0, Or.inr ⟨md, ed, cap, f, pe, h1, h2, hAB _ h3, h4, h5, h6⟩⟩
/-- a row that is not the house's -/
theorem MWx_but {ra pa : Nat} {tx : Nat → Nat} (hK : va_K G.1 vwCl (tyL G.2.1) s) (h : MWx G A am xa ra pa tx X P k th H) {r : Nat} {t : List Nat} (hr : IA0 G r t H) (hne : r ≠ ra) : MWx G (fun q9 => A q9 ∧ q9 ≠ r) am xa ra pa tx X P k th H := by
  obtain ⟨a1, a2, a3, a4, b1, b2, b3, b4, b5, b6, b7, b8⟩ := h
  obtain ⟨f9, hr, -⟩ := hr
  refine ⟨⟨a1, at_ne_oa hK b4 (r := (RX4, TX4, 5)) rfl hr 0 rfl⟩, ⟨a2, at_ne_aa hK b5 hr 4 0 rfl rfl (by decide)⟩, a3, a4, ⟨b1, Ne.symm hne⟩, ?_, b3, b4, b5, b6, b7, ?_⟩
  · obtain ⟨h0, ⟨e, md, h⟩ | ⟨md, ed, cap, f, pe, h1, h2, h3, h4, h5, h6⟩⟩ := b8
    · exact ⟨b2, at_ne_oa hK h (r := (RJx4a65c, TJx4a65c, 3)) rfl hr 0 rfl⟩
    · exact ⟨b2, at_ne_oa hK h1 (r := (RJx4a65c, TJx4a65c, 3)) rfl hr 0 rfl⟩
  · obtain ⟨h0, h | ⟨md, ed, cap, f, pe, h1, h2, h3, h4, h5, h6⟩⟩ := b8
    · exact ⟨h0, Or.inl h⟩
    · exact ⟨h0, Or.inr ⟨md, ed, cap, f, pe, h1, h2, ⟨h3, at_ne_aa hK h2 hr 5 0 rfl rfl (by decide)⟩, h4, h5, h6⟩⟩
end MWS4
theorem kp_wr {H H1 : Heap} {na : Nat} {X : Nat → Prop} (hna : na = H.size) (z : H1.size = H.size + 1) (o : ∀ q : Nat, q < H.size → H1[q]? = H[q]?) (_ : True ∨ na = na) : kp X H H1 := kp.new z o
theorem kp_w1 {A : Nat → Prop} {a : Nat} {H H1 : Heap} (ha : A a) (z : H1.size = H.size) (o : ∀ q : Nat, q ≠ a → H1[q]? = H[q]?) : kp A H H1 :=
  ⟨by rw [z]; exact Nat.le_refl _, fun q _ b => o q (fun e => b (e ▸ ha))⟩
theorem stx_tf (b : Bool) : okc (stx (if b then 7 else 8)) ∧ (stx (if b then 7 else 8)).length ≤ 60 := by
  have k : ∀ b : Bool, (stx (if b then 7 else 8)).length ≤ 5 ∧ ∀ q : Fin 5, (stx (if b then 7 else 8)).getD q.1 0 < 256 := by decide +kernel
  obtain ⟨h1, h2⟩ := k b
  refine ⟨fun j => ?_, by omega⟩
  rcases Nat.lt_or_ge j 5 with q | q
  · exact h2 ⟨j, q⟩
  · rw [List.getD_eq_getElem?_getD, List.getElem?_eq_none (Nat.le_trans h1 q)]; decide
theorem NSm1 : NS (-1) := by
  rintro ⟨i, hi, h⟩
  have k : ∀ j : Fin 24, ¬ (-1 : Int32) = nI j.1 := by decide +kernel
  exact k ⟨i, hi⟩ h
def avI (a b c d e : Int32) : Nat → Int32
  | 0 => a
  | 1 => b
  | 2 => c
  | 3 => d
  | _ => e
/-- what has come of the first signs, and whether one of them was wrong -/
def cumS (av : Nat → Int32) : Nat → Bool → List Nat → Prop
  | 0, b, w => b = false ∧ w = []
  | q + 1, b, w => ∃ (b0 : Bool) (w0 : List Nat), cumS av q b0 w0 ∧ ((NS (av q) ∧ w = w0) ∨ ∃ i : Nat, i < 24 ∧ av q = nI i ∧ w = w0 ++ [codeT.getD i 0]) ∧ (b = true ↔ b0 = true ∨ badS (av q))
theorem cumS_len {av : Nat → Int32} {q : Nat} {b : Bool} {w : List Nat} (h : cumS av q b w) : w.length ≤ q := by
  induction q generalizing b w with
  | zero => rw [h.2]; exact Nat.le_refl _
  | succ q ih =>
    obtain ⟨b0, w0, h1, ⟨-, rfl⟩ | ⟨i, -, -, rfl⟩, -⟩ := h
    · have := ih h1; omega
    · have := ih h1; rw [List.length_append]; show _ + 1 ≤ _; omega
theorem cumS_ok {av : Nat → Int32} {q : Nat} {b : Bool} {w : List Nat} (h : cumS av q b w) : okc w := by
  induction q generalizing b w with
  | zero => rw [h.2]; exact okc_nil
  | succ q ih =>
    obtain ⟨b0, w0, h1, ⟨-, rfl⟩ | ⟨i, -, -, rfl⟩, -⟩ := h
    · exact ih h1
    · exact okc_app (ih h1) (okc_one (codeT_lt i))
theorem cumS_bad {av : Nat → Int32} {q : Nat} {b : Bool} {w : List Nat} (h : cumS av q b w) : b = true ↔ ∃ k : Nat, k < q ∧ badS (av k) := by
  induction q generalizing b w with
  | zero => rw [h.1]; exact ⟨fun z => Bool.noConfusion z, fun ⟨k, hk, _⟩ => absurd hk (Nat.not_lt_zero k)⟩
  | succ q ih =>
    obtain ⟨b0, w0, h1, -, h3⟩ := h
    rw [h3, ih h1]
    constructor
    · rintro (⟨k, hk, h⟩ | h)
      · exact ⟨k, by omega, h⟩
      · exact ⟨q, by omega, h⟩
    · rintro ⟨k, hk, h⟩
      rcases Nat.lt_succ_iff_lt_or_eq.mp hk with z | z
      · exact Or.inl ⟨k, z, h⟩
      · exact Or.inr (z ▸ h)
theorem cumS_add {av : Nat → Int32} {q : Nat} {w : List Nat} (hq : q < 60) (h : cumS av (q + 1) false w) : ∃ w0, cumS av q false w0 ∧ addS w0 (av q) w := by
  obtain ⟨b0, w0, h1, h2, h3⟩ := h
  have hb : b0 = false := by cases b0 with
    | false => rfl
    | true => exact Bool.noConfusion (h3.mpr (Or.inl rfl))
  subst hb
  refine ⟨w0, h1, ?_⟩
  rcases h2 with ⟨h4, rfl⟩ | ⟨i, hi, h4, rfl⟩
  · exact Or.inl ⟨Decidable.byContradiction (fun z => Bool.noConfusion (h3.mpr (Or.inr ⟨z, h4⟩))), rfl⟩
  · refine Or.inr ⟨i, hi, h4, ?_⟩
    rw [List.take_of_length_le]
    have := cumS_len h1
    rw [List.length_append]; show _ + 1 ≤ 60; omega
theorem cumS_end {a b c d e : Int32} {f : Bool} {w : List Nat} (h : cumS (avI a b c d e) 5 f w) : (f = true → badS a ∨ badS b ∨ badS c ∨ badS d ∨ badS e) ∧ (f = false → comeS a b c d e w) := by
  constructor
  · intro hf
    obtain ⟨k, hk, h2⟩ := (cumS_bad h).mp hf
    match k, hk with
    | 0, _ => exact Or.inl h2
    | 1, _ => exact Or.inr (Or.inl h2)
    | 2, _ => exact Or.inr (Or.inr (Or.inl h2))
    | 3, _ => exact Or.inr (Or.inr (Or.inr (Or.inl h2)))
    | 4, _ => exact Or.inr (Or.inr (Or.inr (Or.inr h2)))
  · rintro rfl
    obtain ⟨w4, h4, k4⟩ := cumS_add (by decide) h
    obtain ⟨w3, h3, k3⟩ := cumS_add (by decide) h4
    obtain ⟨w2, h2, k2⟩ := cumS_add (by decide) h3
    obtain ⟨w1, h1, k1⟩ := cumS_add (by decide) h2
    obtain ⟨w0, h0, k0⟩ := cumS_add (by decide) h1
    rw [h0.2] at k0
    exact ⟨w1, w2, w3, w4, k0, k1, k2, k3, k4⟩
theorem dX4_put_0 : decode cX4_put 0 = .ok (.iconst 5, 1) := by decide +kernel
theorem dX4_put_1 : decode cX4_put 1 = .ok (.newarray .int, 2) := by decide +kernel
theorem dX4_put_3 : decode cX4_put 3 = .ok (.dup, 1) := by decide +kernel
theorem dX4_put_4 : decode cX4_put 4 = .ok (.iconst 0, 1) := by decide +kernel
theorem dX4_put_5 : decode cX4_put 5 = .ok (.iload_n 2, 1) := by decide +kernel
theorem dX4_put_6 : decode cX4_put 6 = .ok (.iastore, 1) := by decide +kernel
theorem dX4_put_7 : decode cX4_put 7 = .ok (.dup, 1) := by decide +kernel
theorem dX4_put_8 : decode cX4_put 8 = .ok (.iconst 1, 1) := by decide +kernel
theorem dX4_put_9 : decode cX4_put 9 = .ok (.iload_n 3, 1) := by decide +kernel
theorem dX4_put_10 : decode cX4_put 10 = .ok (.iastore, 1) := by decide +kernel
theorem dX4_put_11 : decode cX4_put 11 = .ok (.dup, 1) := by decide +kernel
theorem dX4_put_12 : decode cX4_put 12 = .ok (.iconst 2, 1) := by decide +kernel
theorem dX4_put_13 : decode cX4_put 13 = .ok (.iload 4, 2) := by decide +kernel
theorem dX4_put_15 : decode cX4_put 15 = .ok (.iastore, 1) := by decide +kernel
theorem dX4_put_16 : decode cX4_put 16 = .ok (.dup, 1) := by decide +kernel
theorem dX4_put_17 : decode cX4_put 17 = .ok (.iconst 3, 1) := by decide +kernel
theorem dX4_put_18 : decode cX4_put 18 = .ok (.iload 5, 2) := by decide +kernel
theorem dX4_put_20 : decode cX4_put 20 = .ok (.iastore, 1) := by decide +kernel
theorem dX4_put_21 : decode cX4_put 21 = .ok (.dup, 1) := by decide +kernel
theorem dX4_put_22 : decode cX4_put 22 = .ok (.iconst 4, 1) := by decide +kernel
theorem dX4_put_23 : decode cX4_put 23 = .ok (.iload 6, 2) := by decide +kernel
theorem dX4_put_25 : decode cX4_put 25 = .ok (.iastore, 1) := by decide +kernel
theorem dX4_put_26 : decode cX4_put 26 = .ok (.astore 7, 2) := by decide +kernel
theorem dX4_put_28 : decode cX4_put 28 = .ok (.iconst 0, 1) := by decide +kernel
theorem dX4_put_29 : decode cX4_put 29 = .ok (.istore 8, 2) := by decide +kernel
theorem dX4_put_31 : decode cX4_put 31 = .ok (.iconst 0, 1) := by decide +kernel
theorem dX4_put_32 : decode cX4_put 32 = .ok (.newarray .int, 2) := by decide +kernel
theorem dX4_put_34 : decode cX4_put 34 = .ok (.astore 9, 2) := by decide +kernel
theorem dX4_put_36 : decode cX4_put 36 = .ok (.aload 7, 2) := by decide +kernel
theorem dX4_put_38 : decode cX4_put 38 = .ok (.astore 10, 2) := by decide +kernel
theorem dX4_put_40 : decode cX4_put 40 = .ok (.aload 10, 2) := by decide +kernel
theorem dX4_put_42 : decode cX4_put 42 = .ok (.arraylength, 1) := by decide +kernel
theorem dX4_put_43 : decode cX4_put 43 = .ok (.istore 11, 2) := by decide +kernel
theorem dX4_put_45 : decode cX4_put 45 = .ok (.iconst 0, 1) := by decide +kernel
theorem dX4_put_46 : decode cX4_put 46 = .ok (.istore 12, 2) := by decide +kernel
theorem dX4_put_48 : decode cX4_put 48 = .ok (.iload 12, 2) := by decide +kernel
theorem dX4_put_50 : decode cX4_put 50 = .ok (.iload 11, 2) := by decide +kernel
theorem dX4_put_52 : decode cX4_put 52 = .ok (.if_icmp .ge 67, 3) := by decide +kernel
theorem dX4_put_55 : decode cX4_put 55 = .ok (.aload 10, 2) := by decide +kernel
theorem dX4_put_57 : decode cX4_put 57 = .ok (.iload 12, 2) := by decide +kernel
theorem dX4_put_59 : decode cX4_put 59 = .ok (.iaload, 1) := by decide +kernel
theorem dX4_put_60 : decode cX4_put 60 = .ok (.istore 13, 2) := by decide +kernel
theorem dX4_put_62 : decode cX4_put 62 = .ok (.iload 8, 2) := by decide +kernel
theorem dX4_put_64 : decode cX4_put 64 = .ok (.iload 13, 2) := by decide +kernel
theorem dX4_put_66 : decode cX4_put 66 = .ok (.iconst (-1), 1) := by decide +kernel
theorem dX4_put_67 : decode cX4_put 67 = .ok (.if_icmp .eq 15, 3) := by decide +kernel
theorem dX4_put_70 : decode cX4_put 70 = .ok (.iload 13, 2) := by decide +kernel
theorem dX4_put_72 : decode cX4_put 72 = .ok (.invokestatic 100, 3) := by decide +kernel
theorem dX4_put_75 : decode cX4_put 75 = .ok (.ifCond .eq 7, 3) := by decide +kernel
theorem dX4_put_78 : decode cX4_put 78 = .ok (.iconst 1, 1) := by decide +kernel
theorem dX4_put_79 : decode cX4_put 79 = .ok (.goto 4, 3) := by decide +kernel
theorem dX4_put_82 : decode cX4_put 82 = .ok (.iconst 0, 1) := by decide +kernel
theorem dX4_put_83 : decode cX4_put 83 = .ok (.ior, 1) := by decide +kernel
theorem dX4_put_84 : decode cX4_put 84 = .ok (.istore 8, 2) := by decide +kernel
theorem dX4_put_86 : decode cX4_put 86 = .ok (.iload 13, 2) := by decide +kernel
theorem dX4_put_88 : decode cX4_put 88 = .ok (.invokestatic 100, 3) := by decide +kernel
theorem dX4_put_91 : decode cX4_put 91 = .ok (.ifCond .ne 22, 3) := by decide +kernel
theorem dX4_put_94 : decode cX4_put 94 = .ok (.aload 9, 2) := by decide +kernel
theorem dX4_put_96 : decode cX4_put 96 = .ok (.iconst 1, 1) := by decide +kernel
theorem dX4_put_97 : decode cX4_put 97 = .ok (.newarray .int, 2) := by decide +kernel
theorem dX4_put_99 : decode cX4_put 99 = .ok (.dup, 1) := by decide +kernel
theorem dX4_put_100 : decode cX4_put 100 = .ok (.iconst 0, 1) := by decide +kernel
theorem dX4_put_101 : decode cX4_put 101 = .ok (.getstatic 94, 3) := by decide +kernel
theorem dX4_put_104 : decode cX4_put 104 = .ok (.iload 13, 2) := by decide +kernel
theorem dX4_put_106 : decode cX4_put 106 = .ok (.iaload, 1) := by decide +kernel
theorem dX4_put_107 : decode cX4_put 107 = .ok (.iastore, 1) := by decide +kernel
theorem dX4_put_108 : decode cX4_put 108 = .ok (.invokestatic 103, 3) := by decide +kernel
theorem dX4_put_111 : decode cX4_put 111 = .ok (.astore 9, 2) := by decide +kernel
theorem dX4_put_113 : decode cX4_put 113 = .ok (.iinc 12 1, 3) := by decide +kernel
theorem dX4_put_116 : decode cX4_put 116 = .ok (.goto (-68), 3) := by decide +kernel
theorem dX4_put_119 : decode cX4_put 119 = .ok (.aload_n 0, 1) := by decide +kernel
theorem dX4_put_120 : decode cX4_put 120 = .ok (.iload_n 1, 1) := by decide +kernel
theorem dX4_put_121 : decode cX4_put 121 = .ok (.invokestatic 107, 3) := by decide +kernel
theorem dX4_put_124 : decode cX4_put 124 = .ok (.iconst 1, 1) := by decide +kernel
theorem dX4_put_125 : decode cX4_put 125 = .ok (.invokevirtual 110, 3) := by decide +kernel
theorem dX4_put_128 : decode cX4_put 128 = .ok (.ifCond .ne 42, 3) := by decide +kernel
theorem dX4_put_131 : decode cX4_put 131 = .ok (.aload_n 0, 1) := by decide +kernel
theorem dX4_put_132 : decode cX4_put 132 = .ok (.iload 8, 2) := by decide +kernel
theorem dX4_put_134 : decode cX4_put 134 = .ok (.iconst 2, 1) := by decide +kernel
theorem dX4_put_135 : decode cX4_put 135 = .ok (.invokevirtual 86, 3) := by decide +kernel
theorem dX4_put_138 : decode cX4_put 138 = .ok (.ifCond .ne 32, 3) := by decide +kernel
theorem dX4_put_141 : decode cX4_put 141 = .ok (.aload_n 0, 1) := by decide +kernel
theorem dX4_put_142 : decode cX4_put 142 = .ok (.aload_n 0, 1) := by decide +kernel
theorem dX4_put_143 : decode cX4_put 143 = .ok (.getfield 72, 3) := by decide +kernel
theorem dX4_put_146 : decode cX4_put 146 = .ok (.iload_n 1, 1) := by decide +kernel
theorem dX4_put_147 : decode cX4_put 147 = .ok (.aaload, 1) := by decide +kernel
theorem dX4_put_148 : decode cX4_put 148 = .ok (.arraylength, 1) := by decide +kernel
theorem dX4_put_149 : decode cX4_put 149 = .ok (.aload 9, 2) := by decide +kernel
theorem dX4_put_151 : decode cX4_put 151 = .ok (.arraylength, 1) := by decide +kernel
theorem dX4_put_152 : decode cX4_put 152 = .ok (.iadd, 1) := by decide +kernel
theorem dX4_put_153 : decode cX4_put 153 = .ok (.bipush 60, 2) := by decide +kernel
theorem dX4_put_155 : decode cX4_put 155 = .ok (.if_icmp .le 7, 3) := by decide +kernel
theorem dX4_put_158 : decode cX4_put 158 = .ok (.iconst 1, 1) := by decide +kernel
theorem dX4_put_159 : decode cX4_put 159 = .ok (.goto 4, 3) := by decide +kernel
theorem dX4_put_162 : decode cX4_put 162 = .ok (.iconst 0, 1) := by decide +kernel
theorem dX4_put_163 : decode cX4_put 163 = .ok (.iconst 3, 1) := by decide +kernel
theorem dX4_put_164 : decode cX4_put 164 = .ok (.invokevirtual 86, 3) := by decide +kernel
theorem dX4_put_167 : decode cX4_put 167 = .ok (.ifCond .eq 5, 3) := by decide +kernel
theorem dX4_put_170 : decode cX4_put 170 = .ok (.iconst 0, 1) := by decide +kernel
theorem dX4_put_171 : decode cX4_put 171 = .ok (.ireturn, 1) := by decide +kernel
theorem dX4_put_172 : decode cX4_put 172 = .ok (.aload_n 0, 1) := by decide +kernel
theorem dX4_put_173 : decode cX4_put 173 = .ok (.iload_n 1, 1) := by decide +kernel
theorem dX4_put_174 : decode cX4_put 174 = .ok (.aload_n 0, 1) := by decide +kernel
theorem dX4_put_175 : decode cX4_put 175 = .ok (.getfield 72, 3) := by decide +kernel
theorem dX4_put_178 : decode cX4_put 178 = .ok (.iload_n 1, 1) := by decide +kernel
theorem dX4_put_179 : decode cX4_put 179 = .ok (.aaload, 1) := by decide +kernel
theorem dX4_put_180 : decode cX4_put 180 = .ok (.aload 9, 2) := by decide +kernel
theorem dX4_put_182 : decode cX4_put 182 = .ok (.invokestatic 103, 3) := by decide +kernel
theorem dX4_put_185 : decode cX4_put 185 = .ok (.invokevirtual 113, 3) := by decide +kernel
theorem dX4_put_188 : decode cX4_put 188 = .ok (.ireturn, 1) := by decide +kernel
theorem dX4_beside_0 : decode cX4_beside 0 = .ok (.aload_n 0, 1) := by decide +kernel
theorem dX4_beside_1 : decode cX4_beside 1 = .ok (.aload_n 0, 1) := by decide +kernel
theorem dX4_beside_2 : decode cX4_beside 2 = .ok (.getfield 72, 3) := by decide +kernel
theorem dX4_beside_5 : decode cX4_beside 5 = .ok (.iload_n 1, 1) := by decide +kernel
theorem dX4_beside_6 : decode cX4_beside 6 = .ok (.aaload, 1) := by decide +kernel
theorem dX4_beside_7 : decode cX4_beside 7 = .ok (.arraylength, 1) := by decide +kernel
theorem dX4_beside_8 : decode cX4_beside 8 = .ok (.aload_n 2, 1) := by decide +kernel
theorem dX4_beside_9 : decode cX4_beside 9 = .ok (.arraylength, 1) := by decide +kernel
theorem dX4_beside_10 : decode cX4_beside 10 = .ok (.iadd, 1) := by decide +kernel
theorem dX4_beside_11 : decode cX4_beside 11 = .ok (.bipush 60, 2) := by decide +kernel
theorem dX4_beside_13 : decode cX4_beside 13 = .ok (.if_icmp .le 7, 3) := by decide +kernel
theorem dX4_beside_16 : decode cX4_beside 16 = .ok (.iconst 1, 1) := by decide +kernel
theorem dX4_beside_17 : decode cX4_beside 17 = .ok (.goto 4, 3) := by decide +kernel
theorem dX4_beside_20 : decode cX4_beside 20 = .ok (.iconst 0, 1) := by decide +kernel
theorem dX4_beside_21 : decode cX4_beside 21 = .ok (.iconst 2, 1) := by decide +kernel
theorem dX4_beside_22 : decode cX4_beside 22 = .ok (.invokevirtual 86, 3) := by decide +kernel
theorem dX4_beside_25 : decode cX4_beside 25 = .ok (.ifCond .eq 7, 3) := by decide +kernel
theorem dX4_beside_28 : decode cX4_beside 28 = .ok (.iconst 0, 1) := by decide +kernel
theorem dX4_beside_29 : decode cX4_beside 29 = .ok (.goto 35, 3) := by decide +kernel
theorem dX4_beside_32 : decode cX4_beside 32 = .ok (.aload_n 0, 1) := by decide +kernel
theorem dX4_beside_33 : decode cX4_beside 33 = .ok (.iload_n 1, 1) := by decide +kernel
theorem dX4_beside_34 : decode cX4_beside 34 = .ok (.iload_n 3, 1) := by decide +kernel
theorem dX4_beside_35 : decode cX4_beside 35 = .ok (.ifCond .eq 16, 3) := by decide +kernel
theorem dX4_beside_38 : decode cX4_beside 38 = .ok (.aload_n 2, 1) := by decide +kernel
theorem dX4_beside_39 : decode cX4_beside 39 = .ok (.aload_n 0, 1) := by decide +kernel
theorem dX4_beside_40 : decode cX4_beside 40 = .ok (.getfield 72, 3) := by decide +kernel
theorem dX4_beside_43 : decode cX4_beside 43 = .ok (.iload_n 1, 1) := by decide +kernel
theorem dX4_beside_44 : decode cX4_beside 44 = .ok (.aaload, 1) := by decide +kernel
theorem dX4_beside_45 : decode cX4_beside 45 = .ok (.invokestatic 103, 3) := by decide +kernel
theorem dX4_beside_48 : decode cX4_beside 48 = .ok (.goto 13, 3) := by decide +kernel
theorem dX4_beside_51 : decode cX4_beside 51 = .ok (.aload_n 0, 1) := by decide +kernel
theorem dX4_beside_52 : decode cX4_beside 52 = .ok (.getfield 72, 3) := by decide +kernel
theorem dX4_beside_55 : decode cX4_beside 55 = .ok (.iload_n 1, 1) := by decide +kernel
theorem dX4_beside_56 : decode cX4_beside 56 = .ok (.aaload, 1) := by decide +kernel
theorem dX4_beside_57 : decode cX4_beside 57 = .ok (.aload_n 2, 1) := by decide +kernel
theorem dX4_beside_58 : decode cX4_beside 58 = .ok (.invokestatic 103, 3) := by decide +kernel
theorem dX4_beside_61 : decode cX4_beside 61 = .ok (.invokevirtual 113, 3) := by decide +kernel
theorem dX4_beside_64 : decode cX4_beside 64 = .ok (.ireturn, 1) := by decide +kernel
theorem dX4_number_0 : decode cX4_number 0 = .ok (.aload_n 0, 1) := by decide +kernel
theorem dX4_number_1 : decode cX4_number 1 = .ok (.iload_n 1, 1) := by decide +kernel
theorem dX4_number_2 : decode cX4_number 2 = .ok (.invokestatic 107, 3) := by decide +kernel
theorem dX4_number_5 : decode cX4_number 5 = .ok (.iconst 1, 1) := by decide +kernel
theorem dX4_number_6 : decode cX4_number 6 = .ok (.invokevirtual 110, 3) := by decide +kernel
theorem dX4_number_9 : decode cX4_number 9 = .ok (.ifCond .eq 7, 3) := by decide +kernel
theorem dX4_number_12 : decode cX4_number 12 = .ok (.iconst 0, 1) := by decide +kernel
theorem dX4_number_13 : decode cX4_number 13 = .ok (.goto 14, 3) := by decide +kernel
theorem dX4_number_16 : decode cX4_number 16 = .ok (.aload_n 0, 1) := by decide +kernel
theorem dX4_number_17 : decode cX4_number 17 = .ok (.iload_n 1, 1) := by decide +kernel
theorem dX4_number_18 : decode cX4_number 18 = .ok (.iload_n 2, 1) := by decide +kernel
theorem dX4_number_19 : decode cX4_number 19 = .ok (.i2l, 1) := by decide +kernel
theorem dX4_number_20 : decode cX4_number 20 = .ok (.invokestatic 121, 3) := by decide +kernel
theorem dX4_number_23 : decode cX4_number 23 = .ok (.iload_n 3, 1) := by decide +kernel
theorem dX4_number_24 : decode cX4_number 24 = .ok (.invokevirtual 125, 3) := by decide +kernel
theorem dX4_number_27 : decode cX4_number 27 = .ok (.ireturn, 1) := by decide +kernel
theorem dX4_great_0 : decode cX4_great 0 = .ok (.aload_n 0, 1) := by decide +kernel
theorem dX4_great_1 : decode cX4_great 1 = .ok (.iload_n 1, 1) := by decide +kernel
theorem dX4_great_2 : decode cX4_great 2 = .ok (.invokestatic 107, 3) := by decide +kernel
theorem dX4_great_5 : decode cX4_great 5 = .ok (.iconst 1, 1) := by decide +kernel
theorem dX4_great_6 : decode cX4_great 6 = .ok (.invokevirtual 110, 3) := by decide +kernel
theorem dX4_great_9 : decode cX4_great 9 = .ok (.ifCond .eq 7, 3) := by decide +kernel
theorem dX4_great_12 : decode cX4_great 12 = .ok (.iconst 0, 1) := by decide +kernel
theorem dX4_great_13 : decode cX4_great 13 = .ok (.goto 24, 3) := by decide +kernel
theorem dX4_great_16 : decode cX4_great 16 = .ok (.aload_n 0, 1) := by decide +kernel
theorem dX4_great_17 : decode cX4_great 17 = .ok (.iload_n 1, 1) := by decide +kernel
theorem dX4_great_18 : decode cX4_great 18 = .ok (.iload_n 2, 1) := by decide +kernel
theorem dX4_great_19 : decode cX4_great 19 = .ok (.i2l, 1) := by decide +kernel
theorem dX4_great_20 : decode cX4_great 20 = .ok (.bipush 32, 2) := by decide +kernel
theorem dX4_great_22 : decode cX4_great 22 = .ok (.lshl, 1) := by decide +kernel
theorem dX4_great_23 : decode cX4_great 23 = .ok (.iload_n 3, 1) := by decide +kernel
theorem dX4_great_24 : decode cX4_great 24 = .ok (.i2l, 1) := by decide +kernel
theorem dX4_great_25 : decode cX4_great 25 = .ok (.ldc2_w 129, 3) := by decide +kernel
theorem dX4_great_28 : decode cX4_great 28 = .ok (.land, 1) := by decide +kernel
theorem dX4_great_29 : decode cX4_great 29 = .ok (.lor, 1) := by decide +kernel
theorem dX4_great_30 : decode cX4_great 30 = .ok (.invokestatic 121, 3) := by decide +kernel
theorem dX4_great_33 : decode cX4_great 33 = .ok (.iconst 0, 1) := by decide +kernel
theorem dX4_great_34 : decode cX4_great 34 = .ok (.invokevirtual 125, 3) := by decide +kernel
theorem dX4_great_37 : decode cX4_great 37 = .ok (.ireturn, 1) := by decide +kernel
theorem dX4_truth__0 : decode cX4_truth_ 0 = .ok (.aload_n 0, 1) := by decide +kernel
theorem dX4_truth__1 : decode cX4_truth_ 1 = .ok (.iload_n 1, 1) := by decide +kernel
theorem dX4_truth__2 : decode cX4_truth_ 2 = .ok (.invokestatic 107, 3) := by decide +kernel
theorem dX4_truth__5 : decode cX4_truth_ 5 = .ok (.iconst 1, 1) := by decide +kernel
theorem dX4_truth__6 : decode cX4_truth_ 6 = .ok (.invokevirtual 110, 3) := by decide +kernel
theorem dX4_truth__9 : decode cX4_truth_ 9 = .ok (.ifCond .eq 7, 3) := by decide +kernel
theorem dX4_truth__12 : decode cX4_truth_ 12 = .ok (.iconst 0, 1) := by decide +kernel
theorem dX4_truth__13 : decode cX4_truth_ 13 = .ok (.goto 13, 3) := by decide +kernel
theorem dX4_truth__16 : decode cX4_truth_ 16 = .ok (.aload_n 0, 1) := by decide +kernel
theorem dX4_truth__17 : decode cX4_truth_ 17 = .ok (.iload_n 1, 1) := by decide +kernel
theorem dX4_truth__18 : decode cX4_truth_ 18 = .ok (.iload_n 2, 1) := by decide +kernel
theorem dX4_truth__19 : decode cX4_truth_ 19 = .ok (.invokestatic 131, 3) := by decide +kernel
theorem dX4_truth__22 : decode cX4_truth_ 22 = .ok (.iload_n 3, 1) := by decide +kernel
theorem dX4_truth__23 : decode cX4_truth_ 23 = .ok (.invokevirtual 125, 3) := by decide +kernel
theorem dX4_truth__26 : decode cX4_truth_ 26 = .ok (.ireturn, 1) := by decide +kernel
abbrev rmX4_beside : Room := { frames := 2, cells := 1, slots := 61, locals := 43 }
theorem mX4_beside {l : Launch} {G : Cx} {A : Nat → Prop} {am xa : Nat} {X : Nat → List Nat} {P : List (List Nat)} {k : Int32} {j r : Nat} {t : List Nat} {b : Bool} (hj : j < 4) (ht : okc t ∧ t.length ≤ 60) : Met l yX4_beside (.code yX4_beside cX4_beside 4 (some .int) :: GW) rmX4_beside (PC G A [.ref am, .int (nI j), .ref r, .int (bI b)] (fun H => ∃ ra pa tx, MWx G A am xa ra pa tx X P k (nI 0) H ∧ IA0 G r t H ∧ r ≠ ra)) (qI A (fun v H => (60 < (if b then t ++ X j else X j ++ t).length ∧ v = 0 ∧ MW G A am xa X P k 2 H) ∨ (v = nI (if b then t ++ X j else X j ++ t).length ∧ (if b then t ++ X j else X j ++ t).length ≤ 60 ∧ MW G A am xa (updT X j (if b then t ++ X j else X j ++ t)) P k 0 H))) 1 61 (A) := by
  refine mstart "SigntextModel" (by decide +kernel) rfl (Nat.le_of_ble_eq_true rfl) ?_
  intro p e s m below meth c ls hx hb hr hts hown hml hlocks hname hC hA hW hl
  have hl : lv_has ls 4 [(0, .ref am), (1, .int (nI j)), (2, .ref r), (3, .int (bI b))] := hl
  have hK := hC.1
  have hS : va_S A s.heap s.heap [] := va_S.rf
  obtain ⟨ra, pa, tx, hW, hR, hne⟩ := hW
  have ht2 := ht.2
  have la : (if b then t ++ X j else X j ++ t).length = (X j).length + t.length := by cases b; exact List.length_append; exact (List.length_append (as := t) (bs := X j)).trans (Nat.add_comm _ _)
  have hO := hW.obj
  have hAm := hW.1
  refine lv_aload_n hx hb dX4_beside_0 rfl (lv_at hl 0 rfl) ?_
  refine lv_aload_n hx hb dX4_beside_1 rfl (lv_at hl 0 rfl) ?_
  refine va_get (D := G.1) (ci := 8) (C := RX4) (T := TX4) (N := 5) hx hb hts inX4 hown hK (at_P hO) 0 rfl rfl 1 (by decide) (hts _ tw_4_173) (fun _ h9 => h9) rfl dX4_beside_2 ?_
  refine lv_iload_n hx hb dX4_beside_5 rfl (lv_at hl 1 rfl) ?_
  refine h_aaldI (D := G.1) hx hb hK 4 hW.txs rfl (vp_in_nI (n := j) (N := 4) (by omega) (by omega)) dX4_beside_6 ?_
  refine v_cv (show va_rf _ = .ref (tx j) from by rw [nI_clamp (n := j) (by omega)]; rfl) ?_
  have hTj := (hW.tx (j := j) (by omega)).ia hC.2.1.2
  have x60j := hW.2.2.1 j (Or.inl (by omega))
  have j60 := x60j.2
  have hR1 := hR.ia hC.2.1.2
  refine h_ilen hx hb hC.2.1 hTj dX4_beside_7 ?_
  refine lv_aload_n hx hb dX4_beside_8 rfl (lv_at hl 2 rfl) ?_
  refine h_ilen hx hb hC.2.1 hR1 dX4_beside_9 ?_
  refine lv_iadd hx hb dX4_beside_10 ?_
  refine lv_cv (nI_add ((X j).length) t.length) ?_
  refine lv_bipush (v := nI 60) hx hb dX4_beside_11 (by decide) ?_
  refine b_le (tgt := 20) hx hb dX4_beside_13 (by decide) (by omega) (by omega) (fun c_1 => ?_) (fun c_1 => ?_)
  · refine lv_iconst (v := nI 0) hx hb dX4_beside_20 (by decide) ?_
    refine lv_iconst (v := nI 2) hx hb dX4_beside_21 (by decide) ?_
    refine qI_V (A := A) (A1 := (fun q9 => A q9 ∧ q9 ≠ r)) (b := am) (As := [.int (bI false), .int (nI 2)]) (rest := []) ⟨hx, hb, hml, hown, hts⟩ (mX4_refuse (A := (fun q9 => A q9 ∧ q9 ≠ r)) (X := X) (P := P) (k := k) (xa := xa) (b := false) (th := 0) (w9 := 2) (by decide) (by decide)) (cwV 2 hts (gV tw_4_210 tw_4_212 sel_X4_refuse tw_1_8 tw_4_213) rfl rfl rfl (by decide +kernel) ⟨Nat.le_of_ble_eq_true rfl, Nat.le_of_ble_eq_true rfl⟩) hC hS (fun _ h => h.1) (fun q h => ⟨hA q (Nat.le_trans hS.1 h), by have := hR.lt; omega⟩) (hW.recv hK) ⟨ra, pa, tx, MWx_but hK hW hR hne⟩ rfl rfl hl.1 (Nat.le_of_ble_eq_true rfl) ⟨Nat.zero_le _, Nat.zero_le _⟩ dX4_beside_22 (fun rv2 H2 L2 hP2 hk2 hS => ?_)
    have hZ2 := hS.1
    obtain ⟨hr2, hM2⟩ := hP2
    subst hr2
    have hR := hR.kp hk2 (fun q => q.2 rfl)
    obtain ⟨ra, pa, tx, hW⟩ := hM2
    have hne : r ≠ ra := Ne.symm hW.2.2.2.2.1.2
    have hW : MWx G A am xa ra pa tx X P k (nI 0) H2 := MWx_mono (fun _ h => h.1) hW
    have hO := hW.obj
    have hAm := hW.1
    refine f_eq (tgt := 32) hx hb dX4_beside_25 (by decide) (fun c_3 => ?_) (fun c_3 => ?_)
    · refine lv_aload_n hx hb dX4_beside_32 rfl (lv_at hl 0 rfl) ?_
      refine lv_iload_n hx hb dX4_beside_33 rfl (lv_at hl 1 rfl) ?_
      refine lv_iload_n hx hb dX4_beside_34 rfl (lv_at hl 3 rfl) ?_
      have okT : okc (if b then t ++ X j else X j ++ t) := by cases b; exact okc_app x60j.1 ht.1; exact okc_app ht.1 x60j.1
      refine f_eq (tgt := 51) hx hb dX4_beside_35 (by decide) (fun c_4 => ?_) (fun c_4 => ?_)
      · subst c_4
        refine lv_aload_n hx hb dX4_beside_51 rfl (lv_at hl 0 rfl) ?_
        refine va_get (D := G.1) (ci := 8) (C := RX4) (T := TX4) (N := 5) hx hb hts inX4 hown hK (at_P hO) 0 rfl rfl 1 (by decide) (hts _ tw_4_173) (fun _ h9 => h9) rfl dX4_beside_52 ?_
        refine lv_iload_n hx hb dX4_beside_55 rfl (lv_at hl 1 rfl) ?_
        refine h_aaldI (D := G.1) hx hb hK 4 hW.txs rfl (vp_in_nI (n := j) (N := 4) (by omega) (by omega)) dX4_beside_56 ?_
        refine v_cv (show va_rf _ = .ref (tx j) from by rw [nI_clamp (n := j) (by omega)]; rfl) ?_
        have hTj := (hW.tx (j := j) (by omega)).ia hC.2.1.2
        have x60j := hW.2.2.1 j (Or.inl (by omega))
        refine lv_aload_n hx hb dX4_beside_57 rfl (lv_at hl 2 rfl) ?_
        have hra := hW.row.lt
        refine qR_S (A := A) (A1 := nw H2.size)  (As := [.ref (tx j), .ref r]) (rest := .int (nI j) :: .ref am :: []) ⟨hx, hb, hml, hown, hts⟩ (mX4_joined (A := nw H2.size) (sz := H2.size) (t := X j) (u := t) (by omega)) (va_cwS 2 hts (gS tw_4_200 tw_4_201 tw_1_8 tw_4_202) rfl rfl rfl (by decide +kernel) ⟨Nat.le_of_ble_eq_true rfl, Nat.le_of_ble_eq_true rfl⟩) hC hS (nw_in hA hS.1) nw_n  ⟨rfl, hTj, (hR.ia hC.2.1.2)⟩ rfl rfl hl.1 (Nat.le_of_ble_eq_true rfl) ⟨Nat.le_trans (show 0 + 1 ≤ 1 by omega) (Nat.le_of_ble_eq_true rfl), Nat.le_trans (show 0 + 61 ≤ 61 by omega) (Nat.le_of_ble_eq_true rfl)⟩ dX4_beside_58 (fun rv5 H5 L5 hP5 hk5 hS => ?_)
        have hZ5 := hS.1
        have hW := hW.nw hk5
        rw [if_neg (by decide)] at la okT
        refine qI_V (A := A) (A1 := A) (b := am) (As := [.int (nI j), .ref rv5]) (rest := []) ⟨hx, hb, hml, hown, hts⟩ (mX4_become (A := A) (X := X) (P := P) (k := k) (xa := xa) (t := X j ++ t) hj ⟨okT, by omega⟩) (cwV 2 hts (gV tw_4_214 tw_4_216 sel_X4_become tw_1_8 tw_4_217) rfl rfl rfl (by decide +kernel) ⟨Nat.le_of_ble_eq_true rfl, Nat.le_of_ble_eq_true rfl⟩) hC hS (fun _ h => h) (fun q h => hA q (Nat.le_trans hS.1 h)) (hW.recv hK) ⟨ra, pa, tx, hW, hP5.2, (by have := hP5.1; omega)⟩ rfl rfl hl.1 (Nat.le_of_ble_eq_true rfl) ⟨Nat.le_trans (show (0 + 1) ≤ 1 by omega) (Nat.le_of_ble_eq_true rfl), Nat.le_trans (show (0 + 61) ≤ 61 by omega) (Nat.le_of_ble_eq_true rfl)⟩ dX4_beside_61 (fun rv6 H6 L6 hP6 hk6 hS => ?_)
        have hZ6 := hS.1
        exact q_i hx hb hr hlocks dX4_beside_64 hS (by omega) (by omega) (Or.inr (by rw [if_neg (by decide)]; exact ⟨hP6.1, by omega, hP6.2⟩))
      · subst c_4
        refine lv_aload_n hx hb dX4_beside_38 rfl (lv_at hl 2 rfl) ?_
        refine lv_aload_n hx hb dX4_beside_39 rfl (lv_at hl 0 rfl) ?_
        refine va_get (D := G.1) (ci := 8) (C := RX4) (T := TX4) (N := 5) hx hb hts inX4 hown hK (at_P hO) 0 rfl rfl 1 (by decide) (hts _ tw_4_173) (fun _ h9 => h9) rfl dX4_beside_40 ?_
        refine lv_iload_n hx hb dX4_beside_43 rfl (lv_at hl 1 rfl) ?_
        refine h_aaldI (D := G.1) hx hb hK 4 hW.txs rfl (vp_in_nI (n := j) (N := 4) (by omega) (by omega)) dX4_beside_44 ?_
        refine v_cv (show va_rf _ = .ref (tx j) from by rw [nI_clamp (n := j) (by omega)]; rfl) ?_
        have hTj := (hW.tx (j := j) (by omega)).ia hC.2.1.2
        have x60j := hW.2.2.1 j (Or.inl (by omega))
        have hra := hW.row.lt
        refine qR_S (A := A) (A1 := nw H2.size)  (As := [.ref r, .ref (tx j)]) (rest := .int (nI j) :: .ref am :: []) ⟨hx, hb, hml, hown, hts⟩ (mX4_joined (A := nw H2.size) (sz := H2.size) (t := t) (u := X j) (by omega)) (va_cwS 2 hts (gS tw_4_200 tw_4_201 tw_1_8 tw_4_202) rfl rfl rfl (by decide +kernel) ⟨Nat.le_of_ble_eq_true rfl, Nat.le_of_ble_eq_true rfl⟩) hC hS (nw_in hA hS.1) nw_n  ⟨rfl, (hR.ia hC.2.1.2), hTj⟩ rfl rfl hl.1 (Nat.le_of_ble_eq_true rfl) ⟨Nat.le_trans (show 0 + 1 ≤ 1 by omega) (Nat.le_of_ble_eq_true rfl), Nat.le_trans (show 0 + 61 ≤ 61 by omega) (Nat.le_of_ble_eq_true rfl)⟩ dX4_beside_45 (fun rv7 H7 L7 hP7 hk7 hS => ?_)
        have hZ7 := hS.1
        have hW := hW.nw hk7
        rw [if_pos rfl] at la okT
        refine lv_goto (tgt := 61) hx hb dX4_beside_48 (by decide) ?_
        refine qI_V (A := A) (A1 := A) (b := am) (As := [.int (nI j), .ref rv7]) (rest := []) ⟨hx, hb, hml, hown, hts⟩ (mX4_become (A := A) (X := X) (P := P) (k := k) (xa := xa) (t := t ++ X j) hj ⟨okT, by omega⟩) (cwV 2 hts (gV tw_4_214 tw_4_216 sel_X4_become tw_1_8 tw_4_217) rfl rfl rfl (by decide +kernel) ⟨Nat.le_of_ble_eq_true rfl, Nat.le_of_ble_eq_true rfl⟩) hC hS (fun _ h => h) (fun q h => hA q (Nat.le_trans hS.1 h)) (hW.recv hK) ⟨ra, pa, tx, hW, hP7.2, (by have := hP7.1; omega)⟩ rfl rfl hl.1 (Nat.le_of_ble_eq_true rfl) ⟨Nat.le_trans (show (0 + 1) ≤ 1 by omega) (Nat.le_of_ble_eq_true rfl), Nat.le_trans (show (0 + 61) ≤ 61 by omega) (Nat.le_of_ble_eq_true rfl)⟩ dX4_beside_61 (fun rv8 H8 L8 hP8 hk8 hS => ?_)
        have hZ8 := hS.1
        exact q_i hx hb hr hlocks dX4_beside_64 hS (by omega) (by omega) (Or.inr (by rw [if_pos rfl]; exact ⟨hP8.1, by omega, hP8.2⟩))
    · exact absurd c_3 (by decide)
  · refine lv_iconst (v := nI 1) hx hb dX4_beside_16 (by decide) ?_
    refine lv_goto (tgt := 21) hx hb dX4_beside_17 (by decide) ?_
    refine lv_iconst (v := nI 2) hx hb dX4_beside_21 (by decide) ?_
    refine qI_V (A := A) (A1 := (fun q9 => A q9 ∧ q9 ≠ r)) (b := am) (As := [.int (bI true), .int (nI 2)]) (rest := []) ⟨hx, hb, hml, hown, hts⟩ (mX4_refuse (A := (fun q9 => A q9 ∧ q9 ≠ r)) (X := X) (P := P) (k := k) (xa := xa) (b := true) (th := 0) (w9 := 2) (by decide) (by decide)) (cwV 2 hts (gV tw_4_210 tw_4_212 sel_X4_refuse tw_1_8 tw_4_213) rfl rfl rfl (by decide +kernel) ⟨Nat.le_of_ble_eq_true rfl, Nat.le_of_ble_eq_true rfl⟩) hC hS (fun _ h => h.1) (fun q h => ⟨hA q (Nat.le_trans hS.1 h), by have := hR.lt; omega⟩) (hW.recv hK) ⟨ra, pa, tx, MWx_but hK hW hR hne⟩ rfl rfl hl.1 (Nat.le_of_ble_eq_true rfl) ⟨Nat.zero_le _, Nat.zero_le _⟩ dX4_beside_22 (fun rv9 H9 L9 hP9 hk9 hS => ?_)
    have hZ9 := hS.1
    obtain ⟨hr9, hM9⟩ := hP9
    subst hr9
    have hR := hR.kp hk9 (fun q => q.2 rfl)
    obtain ⟨ra, pa, tx, hW⟩ := hM9
    have hne : r ≠ ra := Ne.symm hW.2.2.2.2.1.2
    have hW : MWx G A am xa ra pa tx X P k (nI 2) H9 := MWx_mono (fun _ h => h.1) hW
    have hO := hW.obj
    have hAm := hW.1
    refine f_eq (tgt := 32) hx hb dX4_beside_25 (by decide) (fun c_10 => ?_) (fun c_10 => ?_)
    · exact absurd c_10 (by decide)
    · refine lv_iconst (v := nI 0) hx hb dX4_beside_28 (by decide) ?_
      refine lv_goto (tgt := 64) hx hb dX4_beside_29 (by decide) ?_
      exact q_i hx hb hr hlocks dX4_beside_64 hS (by omega) (by omega) (Or.inl ⟨by omega, rfl, ra, pa, tx, hW⟩)

abbrev rmX4_number : Room := { frames := 3, cells := 3, slots := 101, locals := 66 }
theorem mX4_number {l : Launch} {G : Cx} {A : Nat → Prop} {am xa : Nat} {X : Nat → List Nat} {P : List (List Nat)} {k : Int32} {x n9 th : Int32} {b : Bool} : Met l yX4_number (.code yX4_number cX4_number 4 (some .int) :: GW) rmX4_number (PC G A [.ref am, .int x, .int n9, .int (bI b)] (MW G A am xa X P k th)) (qI A (fun r H => ((NT x) ∧ r = 0 ∧ MW G A am xa X P k 1 H) ∨ ((∃ i : Nat, i < 4 ∧ x = nI i ∧ 60 < (if b then (numL (n9.toInt64)).take 60 ++ X i else X i ++ (numL (n9.toInt64)).take 60).length) ∧ r = 0 ∧ MW G A am xa X P k 2 H) ∨ ∃ i : Nat, i < 4 ∧ x = nI i ∧ (if b then (numL (n9.toInt64)).take 60 ++ X i else X i ++ (numL (n9.toInt64)).take 60).length ≤ 60 ∧ r = nI (if b then (numL (n9.toInt64)).take 60 ++ X i else X i ++ (numL (n9.toInt64)).take 60).length ∧ MW G A am xa (updT X i (if b then (numL (n9.toInt64)).take 60 ++ X i else X i ++ (numL (n9.toInt64)).take 60)) P k 0 H)) 3 101 (A) := by
  refine mstart "SigntextModel" (by decide +kernel) rfl (Nat.le_of_ble_eq_true rfl) ?_
  intro p e s m below meth c ls hx hb hr hts hown hml hlocks hname hC hA hW hl
  have hl : lv_has ls 4 [(0, .ref am), (1, .int x), (2, .int n9), (3, .int (bI b))] := hl
  have hK := hC.1
  have hS : va_S A s.heap s.heap [] := va_S.rf
  obtain ⟨ra, pa, tx, hW⟩ := hW
  have hO := hW.obj
  have hAm := hW.1
  refine lv_aload_n hx hb dX4_number_0 rfl (lv_at hl 0 rfl) ?_
  refine lv_iload_n hx hb dX4_number_1 rfl (lv_at hl 1 rfl) ?_
  refine kS_i (A := A) (As := [.int x]) (rest := .ref am :: []) ⟨hx, hb, hml, hown, hts⟩ (mX4_isNone (A := A) ) (va_cwS 1 hts (gS tw_4_203 tw_4_204 tw_1_8 tw_4_205) rfl rfl rfl (by decide +kernel) ⟨Nat.le_of_ble_eq_true rfl, Nat.le_of_ble_eq_true rfl⟩) hC hS hA  trivial rfl rfl hl.1 (Nat.le_of_ble_eq_true rfl) ⟨Nat.zero_le _, Nat.zero_le _⟩ dX4_number_2 (fun r_11 hr_11 => ?_)
  obtain ⟨r_11v, hr_11v, rfl⟩ := hr_11
  refine lv_iconst (v := nI 1) hx hb dX4_number_5 (by decide) ?_
  cases r_11v
  · obtain ⟨i, hi, rfl⟩ : ∃ i : Nat, i < 4 ∧ x = nI i := Classical.byContradiction (fun q => Bool.noConfusion (hr_11v.mpr q))
    refine qI_V (A := A) (A1 := A) (b := am) (As := [.int (bI false), .int (nI 1)]) (rest := []) ⟨hx, hb, hml, hown, hts⟩ (mX4_start (A := A) (X := X) (P := P) (k := k) (xa := xa) (b := false) (w9 := 1) (by decide)) (cwV 2 hts (gV tw_4_206 tw_4_208 sel_X4_start tw_1_8 tw_4_209) rfl rfl rfl (by decide +kernel) ⟨Nat.le_of_ble_eq_true rfl, Nat.le_of_ble_eq_true rfl⟩) hC hS (fun _ h => h) (fun q h => hA q (Nat.le_trans hS.1 h)) (hW.recv hK) ⟨ra, pa, tx, hW⟩ rfl rfl hl.1 (Nat.le_of_ble_eq_true rfl) ⟨Nat.zero_le _, Nat.zero_le _⟩ dX4_number_6 (fun rv12 H12 L12 hP12 hk12 hS => ?_)
    have hZ12 := hS.1
    obtain ⟨hr12, hM12⟩ := hP12
    subst hr12
    obtain ⟨ra, pa, tx, hW⟩ := hM12
    have hW : MWx G A am xa ra pa tx X P k (nI 0) H12 := hW
    have hO := hW.obj
    have hAm := hW.1
    refine f_eq (tgt := 16) hx hb dX4_number_9 (by decide) (fun c_13 => ?_) (fun c_13 => ?_)
    · refine lv_aload_n hx hb dX4_number_16 rfl (lv_at hl 0 rfl) ?_
      refine lv_iload_n hx hb dX4_number_17 rfl (lv_at hl 1 rfl) ?_
      refine lv_iload_n hx hb dX4_number_18 rfl (lv_at hl 2 rfl) ?_
      refine lv_i2l hx hb dX4_number_19 rfl ?_
      have hra := hW.row.lt
      refine qR_S (A := A) (A1 := nw H12.size)  (As := [.long n9.toInt64]) (rest := .int (nI i) :: .ref am :: []) ⟨hx, hb, hml, hown, hts⟩ (mX4_digits (A := nw H12.size) (sz := H12.size) (x := n9.toInt64)) (va_cwS 1 hts (gS tw_5_22 tw_5_23 tw_1_8 tw_5_24) rfl rfl rfl (by decide +kernel) ⟨Nat.le_of_ble_eq_true rfl, Nat.le_of_ble_eq_true rfl⟩) hC hS (nw_in hA hS.1) nw_n  rfl rfl rfl hl.1 (Nat.le_of_ble_eq_true rfl) ⟨Nat.le_trans (show 0 + 2 ≤ 3 by omega) (Nat.le_of_ble_eq_true rfl), Nat.le_trans (show 0 + 40 ≤ 101 by omega) (Nat.le_of_ble_eq_true rfl)⟩ dX4_number_20 (fun rv14 H14 L14 hP14 hk14 hS => ?_)
      have hZ14 := hS.1
      have hW := hW.nw hk14
      refine lv_iload_n hx hb dX4_number_23 rfl (lv_at hl 3 rfl) ?_
      refine qI_V (A := A) (A1 := A) (b := am) (As := [.int (nI i), .ref rv14, .int (bI b)]) (rest := []) ⟨hx, hb, hml, hown, hts⟩ (mX4_beside (A := A) (X := X) (P := P) (k := k) (xa := xa) (t := (numL (n9.toInt64)).take 60) (b := b) hi (by have h := numL_ok (n9.toInt64); exact ⟨h.1, by omega⟩)) (cwV 3 hts (gV tw_5_29 tw_5_31 sel_X4_beside tw_1_8 tw_5_32) rfl rfl rfl (by decide +kernel) ⟨Nat.le_of_ble_eq_true rfl, Nat.le_of_ble_eq_true rfl⟩) hC hS (fun _ h => h) (fun q h => hA q (Nat.le_trans hS.1 h)) (hW.recv hK) ⟨ra, pa, tx, hW, hP14.2, by have := hP14.1; omega⟩ rfl rfl hl.1 (Nat.le_of_ble_eq_true rfl) ⟨Nat.le_trans (show (0 + 2) + 1 ≤ 3 by omega) (Nat.le_of_ble_eq_true rfl), Nat.le_trans (show (0 + 40) + 61 ≤ 101 by omega) (Nat.le_of_ble_eq_true rfl)⟩ dX4_number_24 (fun rv15 H15 L15 hP15 hk15 hS => ?_)
      have hZ15 := hS.1
      rcases hP15 with ⟨w1, w2, w3⟩ | ⟨w2, w1, w3⟩
      · exact q_i hx hb hr hlocks dX4_number_27 hS (by omega) (by omega) (Or.inr (Or.inl ⟨⟨i, hi, rfl, w1⟩, w2, w3⟩))
      · exact q_i hx hb hr hlocks dX4_number_27 hS (by omega) (by omega) (Or.inr (Or.inr (⟨i, hi, rfl, w1, w2, w3⟩)))
    · exact absurd c_13 (by decide)
  · refine qI_V (A := A) (A1 := A) (b := am) (As := [.int (bI true), .int (nI 1)]) (rest := []) ⟨hx, hb, hml, hown, hts⟩ (mX4_start (A := A) (X := X) (P := P) (k := k) (xa := xa) (b := true) (w9 := 1) (by decide)) (cwV 2 hts (gV tw_4_206 tw_4_208 sel_X4_start tw_1_8 tw_4_209) rfl rfl rfl (by decide +kernel) ⟨Nat.le_of_ble_eq_true rfl, Nat.le_of_ble_eq_true rfl⟩) hC hS (fun _ h => h) (fun q h => hA q (Nat.le_trans hS.1 h)) (hW.recv hK) ⟨ra, pa, tx, hW⟩ rfl rfl hl.1 (Nat.le_of_ble_eq_true rfl) ⟨Nat.zero_le _, Nat.zero_le _⟩ dX4_number_6 (fun rv16 H16 L16 hP16 hk16 hS => ?_)
    have hZ16 := hS.1
    obtain ⟨hr16, hM16⟩ := hP16
    subst hr16
    obtain ⟨ra, pa, tx, hW⟩ := hM16
    have hW : MWx G A am xa ra pa tx X P k (nI 1) H16 := hW
    have hO := hW.obj
    have hAm := hW.1
    refine f_eq (tgt := 16) hx hb dX4_number_9 (by decide) (fun c_17 => ?_) (fun c_17 => ?_)
    · exact absurd c_17 (by decide)
    · refine lv_iconst (v := nI 0) hx hb dX4_number_12 (by decide) ?_
      refine lv_goto (tgt := 27) hx hb dX4_number_13 (by decide) ?_
      exact q_i hx hb hr hlocks dX4_number_27 hS (by omega) (by omega) (Or.inl ⟨(hr_11v.mp rfl), rfl, ra, pa, tx, hW⟩)

abbrev rmX4_great : Room := { frames := 3, cells := 3, slots := 101, locals := 66 }
theorem mX4_great {l : Launch} {G : Cx} {A : Nat → Prop} {am xa : Nat} {X : Nat → List Nat} {P : List (List Nat)} {k : Int32} {x h9 l9 th : Int32} : Met l yX4_great (.code yX4_great cX4_great 4 (some .int) :: GW) rmX4_great (PC G A [.ref am, .int x, .int h9, .int l9] (MW G A am xa X P k th)) (qI A (fun r H => ((NT x) ∧ r = 0 ∧ MW G A am xa X P k 1 H) ∨ ((∃ i : Nat, i < 4 ∧ x = nI i ∧ 60 < (if false then (numL ((h9.toInt64 <<< ((nI 32).toInt64 &&& 63)) ||| (l9.toInt64 &&& 4294967295))).take 60 ++ X i else X i ++ (numL ((h9.toInt64 <<< ((nI 32).toInt64 &&& 63)) ||| (l9.toInt64 &&& 4294967295))).take 60).length) ∧ r = 0 ∧ MW G A am xa X P k 2 H) ∨ ∃ i : Nat, i < 4 ∧ x = nI i ∧ (if false then (numL ((h9.toInt64 <<< ((nI 32).toInt64 &&& 63)) ||| (l9.toInt64 &&& 4294967295))).take 60 ++ X i else X i ++ (numL ((h9.toInt64 <<< ((nI 32).toInt64 &&& 63)) ||| (l9.toInt64 &&& 4294967295))).take 60).length ≤ 60 ∧ r = nI (if false then (numL ((h9.toInt64 <<< ((nI 32).toInt64 &&& 63)) ||| (l9.toInt64 &&& 4294967295))).take 60 ++ X i else X i ++ (numL ((h9.toInt64 <<< ((nI 32).toInt64 &&& 63)) ||| (l9.toInt64 &&& 4294967295))).take 60).length ∧ MW G A am xa (updT X i (if false then (numL ((h9.toInt64 <<< ((nI 32).toInt64 &&& 63)) ||| (l9.toInt64 &&& 4294967295))).take 60 ++ X i else X i ++ (numL ((h9.toInt64 <<< ((nI 32).toInt64 &&& 63)) ||| (l9.toInt64 &&& 4294967295))).take 60)) P k 0 H)) 3 101 (A) := by
  refine mstart "SigntextModel" (by decide +kernel) rfl (Nat.le_of_ble_eq_true rfl) ?_
  intro p e s m below meth c ls hx hb hr hts hown hml hlocks hname hC hA hW hl
  have hl : lv_has ls 4 [(0, .ref am), (1, .int x), (2, .int h9), (3, .int l9)] := hl
  have hK := hC.1
  have hS : va_S A s.heap s.heap [] := va_S.rf
  obtain ⟨ra, pa, tx, hW⟩ := hW
  have hO := hW.obj
  have hAm := hW.1
  refine lv_aload_n hx hb dX4_great_0 rfl (lv_at hl 0 rfl) ?_
  refine lv_iload_n hx hb dX4_great_1 rfl (lv_at hl 1 rfl) ?_
  refine kS_i (A := A) (As := [.int x]) (rest := .ref am :: []) ⟨hx, hb, hml, hown, hts⟩ (mX4_isNone (A := A) ) (va_cwS 1 hts (gS tw_4_203 tw_4_204 tw_1_8 tw_4_205) rfl rfl rfl (by decide +kernel) ⟨Nat.le_of_ble_eq_true rfl, Nat.le_of_ble_eq_true rfl⟩) hC hS hA  trivial rfl rfl hl.1 (Nat.le_of_ble_eq_true rfl) ⟨Nat.zero_le _, Nat.zero_le _⟩ dX4_great_2 (fun r_18 hr_18 => ?_)
  obtain ⟨r_18v, hr_18v, rfl⟩ := hr_18
  refine lv_iconst (v := nI 1) hx hb dX4_great_5 (by decide) ?_
  cases r_18v
  · obtain ⟨i, hi, rfl⟩ : ∃ i : Nat, i < 4 ∧ x = nI i := Classical.byContradiction (fun q => Bool.noConfusion (hr_18v.mpr q))
    refine qI_V (A := A) (A1 := A) (b := am) (As := [.int (bI false), .int (nI 1)]) (rest := []) ⟨hx, hb, hml, hown, hts⟩ (mX4_start (A := A) (X := X) (P := P) (k := k) (xa := xa) (b := false) (w9 := 1) (by decide)) (cwV 2 hts (gV tw_4_206 tw_4_208 sel_X4_start tw_1_8 tw_4_209) rfl rfl rfl (by decide +kernel) ⟨Nat.le_of_ble_eq_true rfl, Nat.le_of_ble_eq_true rfl⟩) hC hS (fun _ h => h) (fun q h => hA q (Nat.le_trans hS.1 h)) (hW.recv hK) ⟨ra, pa, tx, hW⟩ rfl rfl hl.1 (Nat.le_of_ble_eq_true rfl) ⟨Nat.zero_le _, Nat.zero_le _⟩ dX4_great_6 (fun rv19 H19 L19 hP19 hk19 hS => ?_)
    have hZ19 := hS.1
    obtain ⟨hr19, hM19⟩ := hP19
    subst hr19
    obtain ⟨ra, pa, tx, hW⟩ := hM19
    have hW : MWx G A am xa ra pa tx X P k (nI 0) H19 := hW
    have hO := hW.obj
    have hAm := hW.1
    refine f_eq (tgt := 16) hx hb dX4_great_9 (by decide) (fun c_20 => ?_) (fun c_20 => ?_)
    · refine lv_aload_n hx hb dX4_great_16 rfl (lv_at hl 0 rfl) ?_
      refine lv_iload_n hx hb dX4_great_17 rfl (lv_at hl 1 rfl) ?_
      refine lv_iload_n hx hb dX4_great_18 rfl (lv_at hl 2 rfl) ?_
      refine lv_i2l hx hb dX4_great_19 rfl ?_
      refine lv_bipush (v := nI 32) hx hb dX4_great_20 (by decide) ?_
      refine lv_lshl hx hb dX4_great_22 rfl ?_
      refine lv_iload_n hx hb dX4_great_23 rfl (lv_at hl 3 rfl) ?_
      refine lv_i2l hx hb dX4_great_24 rfl ?_
      refine lv_ldc2 (v := 4294967295) hx hb hown (hts _ tw_5_37) dX4_great_25 ?_
      refine lv_land hx hb dX4_great_28 ?_
      refine lv_lor hx hb dX4_great_29 ?_
      have hra := hW.row.lt
      refine qR_S (A := A) (A1 := nw H19.size)  (As := [.long ((h9.toInt64 <<< ((nI 32).toInt64 &&& 63)) ||| (l9.toInt64 &&& 4294967295))]) (rest := .int (nI i) :: .ref am :: []) ⟨hx, hb, hml, hown, hts⟩ (mX4_digits (A := nw H19.size) (sz := H19.size) (x := (h9.toInt64 <<< ((nI 32).toInt64 &&& 63)) ||| (l9.toInt64 &&& 4294967295))) (va_cwS 1 hts (gS tw_5_22 tw_5_23 tw_1_8 tw_5_24) rfl rfl rfl (by decide +kernel) ⟨Nat.le_of_ble_eq_true rfl, Nat.le_of_ble_eq_true rfl⟩) hC hS (nw_in hA hS.1) nw_n  rfl rfl rfl hl.1 (Nat.le_of_ble_eq_true rfl) ⟨Nat.le_trans (show 0 + 2 ≤ 3 by omega) (Nat.le_of_ble_eq_true rfl), Nat.le_trans (show 0 + 40 ≤ 101 by omega) (Nat.le_of_ble_eq_true rfl)⟩ dX4_great_30 (fun rv21 H21 L21 hP21 hk21 hS => ?_)
      have hZ21 := hS.1
      have hW := hW.nw hk21
      refine lv_iconst (v := nI 0) hx hb dX4_great_33 (by decide) ?_
      refine qI_V (A := A) (A1 := A) (b := am) (As := [.int (nI i), .ref rv21, .int (bI false)]) (rest := []) ⟨hx, hb, hml, hown, hts⟩ (mX4_beside (A := A) (X := X) (P := P) (k := k) (xa := xa) (t := (numL ((h9.toInt64 <<< ((nI 32).toInt64 &&& 63)) ||| (l9.toInt64 &&& 4294967295))).take 60) (b := false) hi (by have h := numL_ok ((h9.toInt64 <<< ((nI 32).toInt64 &&& 63)) ||| (l9.toInt64 &&& 4294967295)); exact ⟨h.1, by omega⟩)) (cwV 3 hts (gV tw_5_29 tw_5_31 sel_X4_beside tw_1_8 tw_5_32) rfl rfl rfl (by decide +kernel) ⟨Nat.le_of_ble_eq_true rfl, Nat.le_of_ble_eq_true rfl⟩) hC hS (fun _ h => h) (fun q h => hA q (Nat.le_trans hS.1 h)) (hW.recv hK) ⟨ra, pa, tx, hW, hP21.2, by have := hP21.1; omega⟩ rfl rfl hl.1 (Nat.le_of_ble_eq_true rfl) ⟨Nat.le_trans (show (0 + 2) + 1 ≤ 3 by omega) (Nat.le_of_ble_eq_true rfl), Nat.le_trans (show (0 + 40) + 61 ≤ 101 by omega) (Nat.le_of_ble_eq_true rfl)⟩ dX4_great_34 (fun rv22 H22 L22 hP22 hk22 hS => ?_)
      have hZ22 := hS.1
      rcases hP22 with ⟨w1, w2, w3⟩ | ⟨w2, w1, w3⟩
      · exact q_i hx hb hr hlocks dX4_great_37 hS (by omega) (by omega) (Or.inr (Or.inl ⟨⟨i, hi, rfl, w1⟩, w2, w3⟩))
      · exact q_i hx hb hr hlocks dX4_great_37 hS (by omega) (by omega) (Or.inr (Or.inr (⟨i, hi, rfl, w1, w2, w3⟩)))
    · exact absurd c_20 (by decide)
  · refine qI_V (A := A) (A1 := A) (b := am) (As := [.int (bI true), .int (nI 1)]) (rest := []) ⟨hx, hb, hml, hown, hts⟩ (mX4_start (A := A) (X := X) (P := P) (k := k) (xa := xa) (b := true) (w9 := 1) (by decide)) (cwV 2 hts (gV tw_4_206 tw_4_208 sel_X4_start tw_1_8 tw_4_209) rfl rfl rfl (by decide +kernel) ⟨Nat.le_of_ble_eq_true rfl, Nat.le_of_ble_eq_true rfl⟩) hC hS (fun _ h => h) (fun q h => hA q (Nat.le_trans hS.1 h)) (hW.recv hK) ⟨ra, pa, tx, hW⟩ rfl rfl hl.1 (Nat.le_of_ble_eq_true rfl) ⟨Nat.zero_le _, Nat.zero_le _⟩ dX4_great_6 (fun rv23 H23 L23 hP23 hk23 hS => ?_)
    have hZ23 := hS.1
    obtain ⟨hr23, hM23⟩ := hP23
    subst hr23
    obtain ⟨ra, pa, tx, hW⟩ := hM23
    have hW : MWx G A am xa ra pa tx X P k (nI 1) H23 := hW
    have hO := hW.obj
    have hAm := hW.1
    refine f_eq (tgt := 16) hx hb dX4_great_9 (by decide) (fun c_24 => ?_) (fun c_24 => ?_)
    · exact absurd c_24 (by decide)
    · refine lv_iconst (v := nI 0) hx hb dX4_great_12 (by decide) ?_
      refine lv_goto (tgt := 37) hx hb dX4_great_13 (by decide) ?_
      exact q_i hx hb hr hlocks dX4_great_37 hS (by omega) (by omega) (Or.inl ⟨(hr_18v.mp rfl), rfl, ra, pa, tx, hW⟩)

abbrev rmX4_truth_ : Room := { frames := 3, cells := 3, slots := 101, locals := 66 }
theorem mX4_truth_ {l : Launch} {G : Cx} {A : Nat → Prop} {am xa : Nat} {X : Nat → List Nat} {P : List (List Nat)} {k : Int32} {x th : Int32} {b b2 : Bool} : Met l yX4_truth_ (.code yX4_truth_ cX4_truth_ 4 (some .int) :: GW) rmX4_truth_ (PC G A [.ref am, .int x, .int (bI b), .int (bI b2)] (MW G A am xa X P k th)) (qI A (fun r H => ((NT x) ∧ r = 0 ∧ MW G A am xa X P k 1 H) ∨ ((∃ i : Nat, i < 4 ∧ x = nI i ∧ 60 < (if b2 then stx (if b then 7 else 8) ++ X i else X i ++ stx (if b then 7 else 8)).length) ∧ r = 0 ∧ MW G A am xa X P k 2 H) ∨ ∃ i : Nat, i < 4 ∧ x = nI i ∧ (if b2 then stx (if b then 7 else 8) ++ X i else X i ++ stx (if b then 7 else 8)).length ≤ 60 ∧ r = nI (if b2 then stx (if b then 7 else 8) ++ X i else X i ++ stx (if b then 7 else 8)).length ∧ MW G A am xa (updT X i (if b2 then stx (if b then 7 else 8) ++ X i else X i ++ stx (if b then 7 else 8))) P k 0 H)) 3 101 (A) := by
  refine mstart "SigntextModel" (by decide +kernel) rfl (Nat.le_of_ble_eq_true rfl) ?_
  intro p e s m below meth c ls hx hb hr hts hown hml hlocks hname hC hA hW hl
  have hl : lv_has ls 4 [(0, .ref am), (1, .int x), (2, .int (bI b)), (3, .int (bI b2))] := hl
  have hK := hC.1
  have hS : va_S A s.heap s.heap [] := va_S.rf
  obtain ⟨ra, pa, tx, hW⟩ := hW
  have hO := hW.obj
  have hAm := hW.1
  refine lv_aload_n hx hb dX4_truth__0 rfl (lv_at hl 0 rfl) ?_
  refine lv_iload_n hx hb dX4_truth__1 rfl (lv_at hl 1 rfl) ?_
  refine kS_i (A := A) (As := [.int x]) (rest := .ref am :: []) ⟨hx, hb, hml, hown, hts⟩ (mX4_isNone (A := A) ) (va_cwS 1 hts (gS tw_4_203 tw_4_204 tw_1_8 tw_4_205) rfl rfl rfl (by decide +kernel) ⟨Nat.le_of_ble_eq_true rfl, Nat.le_of_ble_eq_true rfl⟩) hC hS hA  trivial rfl rfl hl.1 (Nat.le_of_ble_eq_true rfl) ⟨Nat.zero_le _, Nat.zero_le _⟩ dX4_truth__2 (fun r_25 hr_25 => ?_)
  obtain ⟨r_25v, hr_25v, rfl⟩ := hr_25
  refine lv_iconst (v := nI 1) hx hb dX4_truth__5 (by decide) ?_
  cases r_25v
  · obtain ⟨i, hi, rfl⟩ : ∃ i : Nat, i < 4 ∧ x = nI i := Classical.byContradiction (fun q => Bool.noConfusion (hr_25v.mpr q))
    refine qI_V (A := A) (A1 := A) (b := am) (As := [.int (bI false), .int (nI 1)]) (rest := []) ⟨hx, hb, hml, hown, hts⟩ (mX4_start (A := A) (X := X) (P := P) (k := k) (xa := xa) (b := false) (w9 := 1) (by decide)) (cwV 2 hts (gV tw_4_206 tw_4_208 sel_X4_start tw_1_8 tw_4_209) rfl rfl rfl (by decide +kernel) ⟨Nat.le_of_ble_eq_true rfl, Nat.le_of_ble_eq_true rfl⟩) hC hS (fun _ h => h) (fun q h => hA q (Nat.le_trans hS.1 h)) (hW.recv hK) ⟨ra, pa, tx, hW⟩ rfl rfl hl.1 (Nat.le_of_ble_eq_true rfl) ⟨Nat.zero_le _, Nat.zero_le _⟩ dX4_truth__6 (fun rv26 H26 L26 hP26 hk26 hS => ?_)
    have hZ26 := hS.1
    obtain ⟨hr26, hM26⟩ := hP26
    subst hr26
    obtain ⟨ra, pa, tx, hW⟩ := hM26
    have hW : MWx G A am xa ra pa tx X P k (nI 0) H26 := hW
    have hO := hW.obj
    have hAm := hW.1
    refine f_eq (tgt := 16) hx hb dX4_truth__9 (by decide) (fun c_27 => ?_) (fun c_27 => ?_)
    · refine lv_aload_n hx hb dX4_truth__16 rfl (lv_at hl 0 rfl) ?_
      refine lv_iload_n hx hb dX4_truth__17 rfl (lv_at hl 1 rfl) ?_
      refine lv_iload_n hx hb dX4_truth__18 rfl (lv_at hl 2 rfl) ?_
      have hra := hW.row.lt
      refine qR_S (A := A) (A1 := nw H26.size)  (As := [.int (bI b)]) (rest := .int (nI i) :: .ref am :: []) ⟨hx, hb, hml, hown, hts⟩ (mX4_truth (A := nw H26.size) (sz := H26.size) (b := b)) (va_cwS 1 hts (gS tw_5_42 tw_5_43 tw_1_8 tw_5_44) rfl rfl rfl (by decide +kernel) ⟨Nat.le_of_ble_eq_true rfl, Nat.le_of_ble_eq_true rfl⟩) hC hS (nw_in hA hS.1) nw_n  rfl rfl rfl hl.1 (Nat.le_of_ble_eq_true rfl) ⟨Nat.le_trans (show 0 + 1 ≤ 3 by omega) (Nat.le_of_ble_eq_true rfl), Nat.le_trans (show 0 + 5 ≤ 101 by omega) (Nat.le_of_ble_eq_true rfl)⟩ dX4_truth__19 (fun rv28 H28 L28 hP28 hk28 hS => ?_)
      have hZ28 := hS.1
      have hW := hW.nw hk28
      refine lv_iload_n hx hb dX4_truth__22 rfl (lv_at hl 3 rfl) ?_
      refine qI_V (A := A) (A1 := A) (b := am) (As := [.int (nI i), .ref rv28, .int (bI b2)]) (rest := []) ⟨hx, hb, hml, hown, hts⟩ (mX4_beside (A := A) (X := X) (P := P) (k := k) (xa := xa) (t := stx (if b then 7 else 8)) (b := b2) hi (stx_tf b)) (cwV 3 hts (gV tw_5_29 tw_5_31 sel_X4_beside tw_1_8 tw_5_32) rfl rfl rfl (by decide +kernel) ⟨Nat.le_of_ble_eq_true rfl, Nat.le_of_ble_eq_true rfl⟩) hC hS (fun _ h => h) (fun q h => hA q (Nat.le_trans hS.1 h)) (hW.recv hK) ⟨ra, pa, tx, hW, hP28.2, by have := hP28.1; omega⟩ rfl rfl hl.1 (Nat.le_of_ble_eq_true rfl) ⟨Nat.le_trans (show (0 + 1) + 1 ≤ 3 by omega) (Nat.le_of_ble_eq_true rfl), Nat.le_trans (show (0 + 5) + 61 ≤ 101 by omega) (Nat.le_of_ble_eq_true rfl)⟩ dX4_truth__23 (fun rv29 H29 L29 hP29 hk29 hS => ?_)
      have hZ29 := hS.1
      rcases hP29 with ⟨w1, w2, w3⟩ | ⟨w2, w1, w3⟩
      · exact q_i hx hb hr hlocks dX4_truth__26 hS (by omega) (by omega) (Or.inr (Or.inl ⟨⟨i, hi, rfl, w1⟩, w2, w3⟩))
      · exact q_i hx hb hr hlocks dX4_truth__26 hS (by omega) (by omega) (Or.inr (Or.inr (⟨i, hi, rfl, w1, w2, w3⟩)))
    · exact absurd c_27 (by decide)
  · refine qI_V (A := A) (A1 := A) (b := am) (As := [.int (bI true), .int (nI 1)]) (rest := []) ⟨hx, hb, hml, hown, hts⟩ (mX4_start (A := A) (X := X) (P := P) (k := k) (xa := xa) (b := true) (w9 := 1) (by decide)) (cwV 2 hts (gV tw_4_206 tw_4_208 sel_X4_start tw_1_8 tw_4_209) rfl rfl rfl (by decide +kernel) ⟨Nat.le_of_ble_eq_true rfl, Nat.le_of_ble_eq_true rfl⟩) hC hS (fun _ h => h) (fun q h => hA q (Nat.le_trans hS.1 h)) (hW.recv hK) ⟨ra, pa, tx, hW⟩ rfl rfl hl.1 (Nat.le_of_ble_eq_true rfl) ⟨Nat.zero_le _, Nat.zero_le _⟩ dX4_truth__6 (fun rv30 H30 L30 hP30 hk30 hS => ?_)
    have hZ30 := hS.1
    obtain ⟨hr30, hM30⟩ := hP30
    subst hr30
    obtain ⟨ra, pa, tx, hW⟩ := hM30
    have hW : MWx G A am xa ra pa tx X P k (nI 1) H30 := hW
    have hO := hW.obj
    have hAm := hW.1
    refine f_eq (tgt := 16) hx hb dX4_truth__9 (by decide) (fun c_31 => ?_) (fun c_31 => ?_)
    · exact absurd c_31 (by decide)
    · refine lv_iconst (v := nI 0) hx hb dX4_truth__12 (by decide) ?_
      refine lv_goto (tgt := 26) hx hb dX4_truth__13 (by decide) ?_
      exact q_i hx hb hr hlocks dX4_truth__26 hS (by omega) (by omega) (Or.inl ⟨(hr_25v.mp rfl), rfl, ra, pa, tx, hW⟩)

abbrev rmX4_put : Room := { frames := 3, cells := 13, slots := 376, locals := 64 }
theorem mX4_put {l : Launch} {G : Cx} {A : Nat → Prop} {am xa : Nat} {X : Nat → List Nat} {P : List (List Nat)} {k : Int32} {x a9 b9 c9 d9 e9 th : Int32} : Met l yX4_put (.code yX4_put cX4_put 14 (some .int) :: GW) rmX4_put (PC G A [.ref am, .int x, .int a9, .int b9, .int c9, .int d9, .int e9] (MW G A am xa X P k th)) (qI A (fun r H => ((NT x) ∧ r = 0 ∧ MW G A am xa X P k 1 H) ∨ (((∃ i : Nat, i < 4 ∧ x = nI i) ∧ (badS a9 ∨ badS b9 ∨ badS c9 ∨ badS d9 ∨ badS e9)) ∧ r = 0 ∧ MW G A am xa X P k 2 H) ∨ ((∃ (i : Nat) (w : List Nat), i < 4 ∧ x = nI i ∧ comeS a9 b9 c9 d9 e9 w ∧ 60 < (X i ++ w).length) ∧ r = 0 ∧ MW G A am xa X P k 3 H) ∨ ∃ (i : Nat) (w : List Nat), i < 4 ∧ x = nI i ∧ comeS a9 b9 c9 d9 e9 w ∧ (X i ++ w).length ≤ 60 ∧ r = nI (X i ++ w).length ∧ MW G A am xa (updT X i (X i ++ w)) P k 0 H)) 13 376 (A) := by
  refine mstart "SigntextModel" (by decide +kernel) rfl (Nat.le_of_ble_eq_true rfl) ?_
  intro p e s m below meth c ls hx hb hr hts hown hml hlocks hname hC hA hW hl
  have hl : lv_has ls 14 [(0, .ref am), (1, .int x), (2, .int a9), (3, .int b9), (4, .int c9), (5, .int d9), (6, .int e9)] := hl
  have hK := hC.1
  have hS : va_S A s.heap s.heap [] := va_S.rf
  obtain ⟨ra, pa, tx, hW⟩ := hW
  have hO := hW.obj
  have hAm := hW.1
  obtain ⟨-, -, zc3, zc4, zc5, zc6, zc7, -⟩ := hC.2.2.1
  refine lv_iconst (v := nI 5) hx hb dX4_put_0 (by decide) ?_
  have hW0 := hW
  have hra := hW.row.lt
  refine h_newa (D := G.1) (atype := .int) (N := 5) (z := (5, .inl (fun _ => 0))) hx hb (hts _ tw_1_70) rfl (fun h => h) hK 0 rfl hS rfl (nI_pos (by omega)) (nI_clamp (by omega)) (show 5 * _ ≤ _ from by show 5 * 4 ≤ 536870912; omega) (Nat.le_trans (show 0 + 1 ≤ 13 by omega) (Nat.le_of_ble_eq_true rfl)) (Nat.le_trans (show 0 + 5 ≤ 376 by omega) (Nat.le_of_ble_eq_true rfl)) dX4_put_1 (fun sg H32 hsg hFsg z32 o32 hS => ?_)
  have hZ32 := hS.1
  have hMsg : A sg := hA sg (by omega)
  refine lv_dup hx hb dX4_put_3 rfl ?_
  refine lv_iconst (v := nI 0) hx hb dX4_put_4 (by decide) ?_
  refine lv_iload_n hx hb dX4_put_5 rfl (lv_at hl 2 rfl) ?_
  refine h_ist (D := G.1) hx hb hK 0 hFsg rfl hS hMsg (vp_in_nI (n := 0) (N := 5) (by omega) (by omega)) dX4_put_6 (fun H33 L33 hFsg z33 o33 hS => ?_)
  rw [nI_clamp (n := 0) (by omega)] at hFsg
  have hZ33 := hS.1
  refine lv_dup hx hb dX4_put_7 rfl ?_
  refine lv_iconst (v := nI 1) hx hb dX4_put_8 (by decide) ?_
  refine lv_iload_n hx hb dX4_put_9 rfl (lv_at hl 3 rfl) ?_
  refine h_ist (D := G.1) hx hb hK 0 hFsg rfl hS hMsg (vp_in_nI (n := 1) (N := 5) (by omega) (by omega)) dX4_put_10 (fun H34 L34 hFsg z34 o34 hS => ?_)
  rw [nI_clamp (n := 1) (by omega)] at hFsg
  have hZ34 := hS.1
  refine lv_dup hx hb dX4_put_11 rfl ?_
  refine lv_iconst (v := nI 2) hx hb dX4_put_12 (by decide) ?_
  refine lv_iload hx hb dX4_put_13 (lv_at hl 4 rfl) ?_
  refine h_ist (D := G.1) hx hb hK 0 hFsg rfl hS hMsg (vp_in_nI (n := 2) (N := 5) (by omega) (by omega)) dX4_put_15 (fun H35 L35 hFsg z35 o35 hS => ?_)
  rw [nI_clamp (n := 2) (by omega)] at hFsg
  have hZ35 := hS.1
  refine lv_dup hx hb dX4_put_16 rfl ?_
  refine lv_iconst (v := nI 3) hx hb dX4_put_17 (by decide) ?_
  refine lv_iload hx hb dX4_put_18 (lv_at hl 5 rfl) ?_
  refine h_ist (D := G.1) hx hb hK 0 hFsg rfl hS hMsg (vp_in_nI (n := 3) (N := 5) (by omega) (by omega)) dX4_put_20 (fun H36 L36 hFsg z36 o36 hS => ?_)
  rw [nI_clamp (n := 3) (by omega)] at hFsg
  have hZ36 := hS.1
  refine lv_dup hx hb dX4_put_21 rfl ?_
  refine lv_iconst (v := nI 4) hx hb dX4_put_22 (by decide) ?_
  refine lv_iload hx hb dX4_put_23 (lv_at hl 6 rfl) ?_
  refine h_ist (D := G.1) hx hb hK 0 hFsg rfl hS hMsg (vp_in_nI (n := 4) (N := 5) (by omega) (by omega)) dX4_put_25 (fun H37 L37 hFsg z37 o37 hS => ?_)
  rw [nI_clamp (n := 4) (by omega)] at hFsg
  have hZ37 := hS.1
  obtain ⟨fS, hfS⟩ : ∃ f, f = upd (upd (upd (upd (upd (fun _ => 0) 0 a9) 1 b9) 2 c9) 3 d9) 4 e9 := ⟨_, rfl⟩
  rw [← hfS] at hFsg
  have hav : ∀ q : Nat, q < 5 → fS q = avI a9 b9 c9 d9 e9 q := fun q hq => by rw [hfS]; match q, hq with | 0, _ => rfl | 1, _ => rfl | 2, _ => rfl | 3, _ => rfl | 4, _ => rfl
  clear hfS
  refine lv_astore (lv' := [(7, .ref sg), (0, .ref am), (1, .int x), (2, .int a9), (3, .int b9), (4, .int c9), (5, .int d9), (6, .int e9)]) hx hb dX4_put_26 hl (by decide) rfl (fun ls hl => ?_)
  refine lv_iconst (v := nI 0) hx hb dX4_put_28 (by decide) ?_
  refine lv_istore (lv' := [(8, .int (nI 0)), (7, .ref sg), (0, .ref am), (1, .int x), (2, .int a9), (3, .int b9), (4, .int c9), (5, .int d9), (6, .int e9)]) hx hb dX4_put_29 hl (by decide) rfl (fun ls hl => ?_)
  refine lv_iconst (v := nI 0) hx hb dX4_put_31 (by decide) ?_
  refine h_newa (D := G.1) (atype := .int) (N := 0) (z := (0, .inl (fun _ => 0))) hx hb (hts _ tw_1_70) rfl (fun h => h) hK 0 rfl hS rfl (nI_pos (by omega)) (nI_clamp (by omega)) (show 0 * _ ≤ _ from by show 0 * 4 ≤ 536870912; omega) (Nat.le_trans (show (0 + 1) + 1 ≤ 13 by omega) (Nat.le_of_ble_eq_true rfl)) (Nat.le_trans (show (0 + 5) + 0 ≤ 376 by omega) (Nat.le_of_ble_eq_true rfl)) dX4_put_32 (fun nm H38 hnm hFnm z38 o38 hS => ?_)
  have n38hFsg : sg ≠ nm := fun q => absurd hFsg.lt (by rw [q, hnm]; exact Nat.lt_irrefl _)
  have hFsg := at_n hFsg o38
  have hZ38 := hS.1
  have hMnm : A nm := hA nm (by omega)
  have hk8 : kp (fun q => s.heap.size ≤ q) s.heap H38 := ((kp_wr hsg z32 o32 (by omega)).tr ((kp_w1 (A := fun q => s.heap.size ≤ q) (by omega) z33 o33).tr ((kp_w1 (A := fun q => s.heap.size ≤ q) (by omega) z34 o34).tr ((kp_w1 (A := fun q => s.heap.size ≤ q) (by omega) z35 o35).tr ((kp_w1 (A := fun q => s.heap.size ≤ q) (by omega) z36 o36).tr ((kp_w1 (A := fun q => s.heap.size ≤ q) (by omega) z37 o37).tr (kp.new z38 o38)))))))
  have hW := hW0.nw hk8
  have hN : IA0 G nm [] H38 := IA0.mk hFnm rfl (fun q hq => absurd hq (Nat.not_lt_zero q))
  have hnsg : sg ≠ nm := n38hFsg
  have hgr : ra < nm := by omega
  have hsr : s.heap.size ≤ sg := by omega
  refine lv_astore (lv' := [(9, .ref nm), (8, .int (nI 0)), (7, .ref sg), (0, .ref am), (1, .int x), (2, .int a9), (3, .int b9), (4, .int c9), (5, .int d9), (6, .int e9)]) hx hb dX4_put_34 hl (by decide) rfl (fun ls hl => ?_)
  refine lv_aload hx hb dX4_put_36 (lv_at hl 2 rfl) ?_
  refine lv_astore (lv' := [(10, .ref sg), (9, .ref nm), (8, .int (nI 0)), (7, .ref sg), (0, .ref am), (1, .int x), (2, .int a9), (3, .int b9), (4, .int c9), (5, .int d9), (6, .int e9)]) hx hb dX4_put_38 hl (by decide) rfl (fun ls hl => ?_)
  refine lv_aload hx hb dX4_put_40 (lv_at hl 0 rfl) ?_
  refine va_alen hx hb hK (at_P hFsg) 0 0 (v := nI 5) rfl rfl rfl dX4_put_42 ?_
  refine lv_istore (lv' := [(11, .int (nI 5)), (10, .ref sg), (9, .ref nm), (8, .int (nI 0)), (7, .ref sg), (0, .ref am), (1, .int x), (2, .int a9), (3, .int b9), (4, .int c9), (5, .int d9), (6, .int e9)]) hx hb dX4_put_43 hl (by decide) rfl (fun ls hl => ?_)
  refine lv_iconst (v := nI 0) hx hb dX4_put_45 (by decide) ?_
  refine lv_istore (lv' := [(12, .int (nI 0)), (11, .int (nI 5)), (10, .ref sg), (9, .ref nm), (8, .int (nI 0)), (7, .ref sg), (0, .ref am), (1, .int x), (2, .int a9), (3, .int b9), (4, .int c9), (5, .int d9), (6, .int e9)]) hx hb dX4_put_46 hl (by decide) rfl (fun ls hl => ?_)
  refine W.widen (k := 2 + 0 * 2) (n := 5 + 0 * 62) (by decide) (by decide) ?_
  have hl : lv_has ls 14 [(12, .int (nI 0)), (11, .int (nI 5)), (10, .ref sg), (9, .ref nm), (8, .int (bI false)), (0, .ref am), (1, .int x)] := (lv_sub hl [0, 1, 2, 3, 4, 6, 7] rfl)
  refine nloop (P := fun q => ∀ (ls : Array Slot) (H : Heap) (L : List Loc) (nm : Nat) (b : Bool) (w : List Nat), lv_has ls 14 [(12, .int (nI q)), (11, .int (nI 5)), (10, .ref sg), (9, .ref nm), (8, .int (bI b)), (0, .ref am), (1, .int x)] → va_S A s.heap H L → MWx G A am xa ra pa tx X P k th H → va_at G.1 vwCl (sg, .inl (G.2.1 0, 5, .inl fS)) H → IA0 G nm w H → ra < nm → s.heap.size ≤ nm → cumS (avI a9 b9 c9 d9 e9) q b w → W p l e rmX4_put s m [.ref am, .int x, .int a9, .int b9, .int c9, .int d9, .int e9].toArray below meth c H L (2 + q * 2) (5 + q * 62) (MQ below (qI A (fun r H => ((NT x) ∧ r = 0 ∧ MW G A am xa X P k 1 H) ∨ (((∃ i : Nat, i < 4 ∧ x = nI i) ∧ (badS a9 ∨ badS b9 ∨ badS c9 ∨ badS d9 ∨ badS e9)) ∧ r = 0 ∧ MW G A am xa X P k 2 H) ∨ ((∃ (i : Nat) (w : List Nat), i < 4 ∧ x = nI i ∧ comeS a9 b9 c9 d9 e9 w ∧ 60 < (X i ++ w).length) ∧ r = 0 ∧ MW G A am xa X P k 3 H) ∨ ∃ (i : Nat) (w : List Nat), i < 4 ∧ x = nI i ∧ comeS a9 b9 c9 d9 e9 w ∧ (X i ++ w).length ≤ 60 ∧ r = nI (X i ++ w).length ∧ MW G A am xa (updT X i (X i ++ w)) P k 0 H)) [.ref am, .int x, .int a9, .int b9, .int c9, .int d9, .int e9].toArray s 13 376 (A)) (F0 m 48 ls [])) 5 ?_ 0 (Nat.zero_le _) ls H38 L37 nm false [] hl hS hW hFsg hN hgr (by omega) ⟨rfl, rfl⟩
  clear hl
  intro q hq ih ls H L nm b w hl
  clear hS hW hFsg hN hgr hW0 hk8 hnsg
  intro hS hW hFsg hN hgr hgs hcu
  have hZ0 := hS.1
  have wl := cumS_len hcu
  have wok := cumS_ok hcu
  refine lv_iload hx hb dX4_put_48 (lv_at hl 0 rfl) ?_
  refine lv_iload hx hb dX4_put_50 (lv_at hl 1 rfl) ?_
  refine b_ge (tgt := 119) hx hb dX4_put_52 (by decide) (by omega) (by omega) (fun c_39 => ?_) (fun c_39 => ?_)
  · have e5 : q = 5 := by omega
    subst e5
    clear ih
    have hcu2 := cumS_end hcu
    have hO := hW.obj
    have hAm := hW.1
    have hng : nm ≠ ra := by omega
    refine lv_aload_n hx hb dX4_put_119 rfl (lv_at hl 5 rfl) ?_
    refine lv_iload_n hx hb dX4_put_120 rfl (lv_at hl 6 rfl) ?_
    refine kS_i (A := A) (As := [.int x]) (rest := .ref am :: []) ⟨hx, hb, hml, hown, hts⟩ (mX4_isNone (A := A) ) (va_cwS 1 hts (gS tw_4_203 tw_4_204 tw_1_8 tw_4_205) rfl rfl rfl (by decide +kernel) ⟨Nat.le_of_ble_eq_true rfl, Nat.le_of_ble_eq_true rfl⟩) hC hS hA  trivial rfl rfl hl.1 (Nat.le_of_ble_eq_true rfl) ⟨Nat.le_trans (show (2 + 5 * 2) ≤ 13 by omega) (Nat.le_of_ble_eq_true rfl), Nat.le_trans (show (5 + 5 * 62) ≤ 376 by omega) (Nat.le_of_ble_eq_true rfl)⟩ dX4_put_121 (fun r_40 hr_40 => ?_)
    obtain ⟨r_40v, hr_40v, rfl⟩ := hr_40
    refine lv_iconst (v := nI 1) hx hb dX4_put_124 (by decide) ?_
    cases r_40v
    · obtain ⟨i, hi, rfl⟩ : ∃ i : Nat, i < 4 ∧ x = nI i := Classical.byContradiction (fun q => Bool.noConfusion (hr_40v.mpr q))
      refine qI_V (A := A) (A1 := (fun q9 => A q9 ∧ q9 ≠ nm)) (b := am) (As := [.int (bI false), .int (nI 1)]) (rest := []) ⟨hx, hb, hml, hown, hts⟩ (mX4_start (A := (fun q9 => A q9 ∧ q9 ≠ nm)) (X := X) (P := P) (k := k) (xa := xa) (b := false) (w9 := 1) (by decide)) (cwV 2 hts (gV tw_4_206 tw_4_208 sel_X4_start tw_1_8 tw_4_209) rfl rfl rfl (by decide +kernel) ⟨Nat.le_of_ble_eq_true rfl, Nat.le_of_ble_eq_true rfl⟩) hC hS (fun _ h => h.1) (fun q h => ⟨hA q (Nat.le_trans hS.1 h), by have := hN.lt; omega⟩) (hW.recv hK) ⟨ra, pa, tx, MWx_but hK hW hN hng⟩ rfl rfl hl.1 (Nat.le_of_ble_eq_true rfl) ⟨Nat.le_trans (show (2 + 5 * 2) ≤ 13 by omega) (Nat.le_of_ble_eq_true rfl), Nat.le_trans (show (5 + 5 * 62) ≤ 376 by omega) (Nat.le_of_ble_eq_true rfl)⟩ dX4_put_125 (fun rv41 H41 L41 hP41 hk41 hS => ?_)
      have hZ41 := hS.1
      obtain ⟨hr41, hM41⟩ := hP41
      subst hr41
      have hN := hN.kp hk41 (fun q => q.2 rfl)
      obtain ⟨ra, pa, tx, hW⟩ := hM41
      have hng : nm ≠ ra := Ne.symm hW.2.2.2.2.1.2
      have hW : MWx G A am xa ra pa tx X P k (nI 0) H41 := MWx_mono (fun _ h => h.1) hW
      have hO := hW.obj
      have hAm := hW.1
      refine f_ne (tgt := 170) hx hb dX4_put_128 (by decide) (fun c_42 => ?_) (fun c_42 => ?_)
      · exact absurd c_42 (by decide)
      · refine lv_aload_n hx hb dX4_put_131 rfl (lv_at hl 5 rfl) ?_
        refine lv_iload hx hb dX4_put_132 (lv_at hl 4 rfl) ?_
        refine lv_iconst (v := nI 2) hx hb dX4_put_134 (by decide) ?_
        cases b
        · refine qI_V (A := A) (A1 := (fun q9 => A q9 ∧ q9 ≠ nm)) (b := am) (As := [.int (bI false), .int (nI 2)]) (rest := []) ⟨hx, hb, hml, hown, hts⟩ (mX4_refuse (A := (fun q9 => A q9 ∧ q9 ≠ nm)) (X := X) (P := P) (k := k) (xa := xa) (b := false) (th := 0) (w9 := 2) (by decide) (by decide)) (cwV 2 hts (gV tw_4_210 tw_4_212 sel_X4_refuse tw_1_8 tw_4_213) rfl rfl rfl (by decide +kernel) ⟨Nat.le_of_ble_eq_true rfl, Nat.le_of_ble_eq_true rfl⟩) hC hS (fun _ h => h.1) (fun q h => ⟨hA q (Nat.le_trans hS.1 h), by have := hN.lt; omega⟩) (hW.recv hK) ⟨ra, pa, tx, MWx_but hK hW hN hng⟩ rfl rfl hl.1 (Nat.le_of_ble_eq_true rfl) ⟨Nat.le_trans (show (2 + 5 * 2) ≤ 13 by omega) (Nat.le_of_ble_eq_true rfl), Nat.le_trans (show (5 + 5 * 62) ≤ 376 by omega) (Nat.le_of_ble_eq_true rfl)⟩ dX4_put_135 (fun rv43 H43 L43 hP43 hk43 hS => ?_)
          have hZ43 := hS.1
          obtain ⟨hr43, hM43⟩ := hP43
          subst hr43
          have hN := hN.kp hk43 (fun q => q.2 rfl)
          obtain ⟨ra, pa, tx, hW⟩ := hM43
          have hng : nm ≠ ra := Ne.symm hW.2.2.2.2.1.2
          have hW : MWx G A am xa ra pa tx X P k (nI 0) H43 := MWx_mono (fun _ h => h.1) hW
          have hO := hW.obj
          have hAm := hW.1
          refine f_ne (tgt := 170) hx hb dX4_put_138 (by decide) (fun c_44 => ?_) (fun c_44 => ?_)
          · exact absurd c_44 (by decide)
          · have hco := hcu2.2 rfl
            refine lv_aload_n hx hb dX4_put_141 rfl (lv_at hl 5 rfl) ?_
            refine lv_aload_n hx hb dX4_put_142 rfl (lv_at hl 5 rfl) ?_
            refine va_get (D := G.1) (ci := 8) (C := RX4) (T := TX4) (N := 5) hx hb hts inX4 hown hK (at_P hO) 0 rfl rfl 1 (by decide) (hts _ tw_4_173) (fun _ h9 => h9) rfl dX4_put_143 ?_
            refine lv_iload_n hx hb dX4_put_146 rfl (lv_at hl 6 rfl) ?_
            refine h_aaldI (D := G.1) hx hb hK 4 hW.txs rfl (vp_in_nI (n := i) (N := 4) (by omega) (by omega)) dX4_put_147 ?_
            refine v_cv (show va_rf _ = .ref (tx i) from by rw [nI_clamp (n := i) (by omega)]; rfl) ?_
            have hTi := (hW.tx (j := i) (by omega)).ia hC.2.1.2
            have x60i := hW.2.2.1 i (Or.inl (by omega))
            have i60 := x60i.2
            have la := List.length_append (as := X i) (bs := w)
            have hN0 := hN.ia hC.2.1.2
            refine h_ilen hx hb hC.2.1 hTi dX4_put_148 ?_
            refine lv_aload hx hb dX4_put_149 (lv_at hl 3 rfl) ?_
            refine h_ilen hx hb hC.2.1 hN0 dX4_put_151 ?_
            refine lv_iadd hx hb dX4_put_152 ?_
            refine lv_cv (nI_add ((X i).length) w.length) ?_
            refine lv_bipush (v := nI 60) hx hb dX4_put_153 (by decide) ?_
            refine b_le (tgt := 162) hx hb dX4_put_155 (by decide) (by omega) (by omega) (fun c_45 => ?_) (fun c_45 => ?_)
            · refine lv_iconst (v := nI 0) hx hb dX4_put_162 (by decide) ?_
              refine lv_iconst (v := nI 3) hx hb dX4_put_163 (by decide) ?_
              refine qI_V (A := A) (A1 := (fun q9 => A q9 ∧ q9 ≠ nm)) (b := am) (As := [.int (bI false), .int (nI 3)]) (rest := []) ⟨hx, hb, hml, hown, hts⟩ (mX4_refuse (A := (fun q9 => A q9 ∧ q9 ≠ nm)) (X := X) (P := P) (k := k) (xa := xa) (b := false) (th := 0) (w9 := 3) (by decide) (by decide)) (cwV 2 hts (gV tw_4_210 tw_4_212 sel_X4_refuse tw_1_8 tw_4_213) rfl rfl rfl (by decide +kernel) ⟨Nat.le_of_ble_eq_true rfl, Nat.le_of_ble_eq_true rfl⟩) hC hS (fun _ h => h.1) (fun q h => ⟨hA q (Nat.le_trans hS.1 h), by have := hN.lt; omega⟩) (hW.recv hK) ⟨ra, pa, tx, MWx_but hK hW hN hng⟩ rfl rfl hl.1 (Nat.le_of_ble_eq_true rfl) ⟨Nat.le_trans (show (2 + 5 * 2) ≤ 13 by omega) (Nat.le_of_ble_eq_true rfl), Nat.le_trans (show (5 + 5 * 62) ≤ 376 by omega) (Nat.le_of_ble_eq_true rfl)⟩ dX4_put_164 (fun rv46 H46 L46 hP46 hk46 hS => ?_)
              have hZ46 := hS.1
              obtain ⟨hr46, hM46⟩ := hP46
              subst hr46
              have hN := hN.kp hk46 (fun q => q.2 rfl)
              obtain ⟨ra, pa, tx, hW⟩ := hM46
              have hng : nm ≠ ra := Ne.symm hW.2.2.2.2.1.2
              have hW : MWx G A am xa ra pa tx X P k (nI 0) H46 := MWx_mono (fun _ h => h.1) hW
              have hO := hW.obj
              have hAm := hW.1
              refine f_eq (tgt := 172) hx hb dX4_put_167 (by decide) (fun c_47 => ?_) (fun c_47 => ?_)
              · refine lv_aload_n hx hb dX4_put_172 rfl (lv_at hl 5 rfl) ?_
                refine lv_iload_n hx hb dX4_put_173 rfl (lv_at hl 6 rfl) ?_
                refine lv_aload_n hx hb dX4_put_174 rfl (lv_at hl 5 rfl) ?_
                refine va_get (D := G.1) (ci := 8) (C := RX4) (T := TX4) (N := 5) hx hb hts inX4 hown hK (at_P hO) 0 rfl rfl 1 (by decide) (hts _ tw_4_173) (fun _ h9 => h9) rfl dX4_put_175 ?_
                refine lv_iload_n hx hb dX4_put_178 rfl (lv_at hl 6 rfl) ?_
                refine h_aaldI (D := G.1) hx hb hK 4 hW.txs rfl (vp_in_nI (n := i) (N := 4) (by omega) (by omega)) dX4_put_179 ?_
                refine v_cv (show va_rf _ = .ref (tx i) from by rw [nI_clamp (n := i) (by omega)]; rfl) ?_
                have hTi := (hW.tx (j := i) (by omega)).ia hC.2.1.2
                have x60i := hW.2.2.1 i (Or.inl (by omega))
                refine lv_aload hx hb dX4_put_180 (lv_at hl 3 rfl) ?_
                have hra := hW.row.lt
                refine qR_S (A := A) (A1 := nw H46.size)  (As := [.ref (tx i), .ref nm]) (rest := .int (nI i) :: .ref am :: []) ⟨hx, hb, hml, hown, hts⟩ (mX4_joined (A := nw H46.size) (sz := H46.size) (t := X i) (u := w) (by omega)) (va_cwS 2 hts (gS tw_4_200 tw_4_201 tw_1_8 tw_4_202) rfl rfl rfl (by decide +kernel) ⟨Nat.le_of_ble_eq_true rfl, Nat.le_of_ble_eq_true rfl⟩) hC hS (nw_in hA hS.1) nw_n  ⟨rfl, hTi, (hN.ia hC.2.1.2)⟩ rfl rfl hl.1 (Nat.le_of_ble_eq_true rfl) ⟨Nat.le_trans (show (2 + 5 * 2) + 1 ≤ 13 by omega) (Nat.le_of_ble_eq_true rfl), Nat.le_trans (show (5 + 5 * 62) + 61 ≤ 376 by omega) (Nat.le_of_ble_eq_true rfl)⟩ dX4_put_182 (fun rv48 H48 L48 hP48 hk48 hS => ?_)
                have hZ48 := hS.1
                have hW := hW.nw hk48
                refine qI_V (A := A) (A1 := A) (b := am) (As := [.int (nI i), .ref rv48]) (rest := []) ⟨hx, hb, hml, hown, hts⟩ (mX4_become (A := A) (X := X) (P := P) (k := k) (xa := xa) (t := X i ++ w) hi ⟨okc_app x60i.1 wok, by omega⟩) (cwV 2 hts (gV tw_4_214 tw_4_216 sel_X4_become tw_1_8 tw_4_217) rfl rfl rfl (by decide +kernel) ⟨Nat.le_of_ble_eq_true rfl, Nat.le_of_ble_eq_true rfl⟩) hC hS (fun _ h => h) (fun q h => hA q (Nat.le_trans hS.1 h)) (hW.recv hK) ⟨ra, pa, tx, hW, hP48.2, (by have := hP48.1; omega)⟩ rfl rfl hl.1 (Nat.le_of_ble_eq_true rfl) ⟨Nat.le_trans (show ((2 + 5 * 2) + 1) ≤ 13 by omega) (Nat.le_of_ble_eq_true rfl), Nat.le_trans (show ((5 + 5 * 62) + 61) ≤ 376 by omega) (Nat.le_of_ble_eq_true rfl)⟩ dX4_put_185 (fun rv49 H49 L49 hP49 hk49 hS => ?_)
                have hZ49 := hS.1
                exact q_i hx hb hr hlocks dX4_put_188 hS (by omega) (by omega) (Or.inr (Or.inr (Or.inr (⟨i, w, hi, rfl, hco, by omega, hP49.1, hP49.2⟩))))
              · exact absurd c_47 (by decide)
            · refine lv_iconst (v := nI 1) hx hb dX4_put_158 (by decide) ?_
              refine lv_goto (tgt := 163) hx hb dX4_put_159 (by decide) ?_
              refine lv_iconst (v := nI 3) hx hb dX4_put_163 (by decide) ?_
              refine qI_V (A := A) (A1 := (fun q9 => A q9 ∧ q9 ≠ nm)) (b := am) (As := [.int (bI true), .int (nI 3)]) (rest := []) ⟨hx, hb, hml, hown, hts⟩ (mX4_refuse (A := (fun q9 => A q9 ∧ q9 ≠ nm)) (X := X) (P := P) (k := k) (xa := xa) (b := true) (th := 0) (w9 := 3) (by decide) (by decide)) (cwV 2 hts (gV tw_4_210 tw_4_212 sel_X4_refuse tw_1_8 tw_4_213) rfl rfl rfl (by decide +kernel) ⟨Nat.le_of_ble_eq_true rfl, Nat.le_of_ble_eq_true rfl⟩) hC hS (fun _ h => h.1) (fun q h => ⟨hA q (Nat.le_trans hS.1 h), by have := hN.lt; omega⟩) (hW.recv hK) ⟨ra, pa, tx, MWx_but hK hW hN hng⟩ rfl rfl hl.1 (Nat.le_of_ble_eq_true rfl) ⟨Nat.le_trans (show (2 + 5 * 2) ≤ 13 by omega) (Nat.le_of_ble_eq_true rfl), Nat.le_trans (show (5 + 5 * 62) ≤ 376 by omega) (Nat.le_of_ble_eq_true rfl)⟩ dX4_put_164 (fun rv50 H50 L50 hP50 hk50 hS => ?_)
              have hZ50 := hS.1
              obtain ⟨hr50, hM50⟩ := hP50
              subst hr50
              have hN := hN.kp hk50 (fun q => q.2 rfl)
              obtain ⟨ra, pa, tx, hW⟩ := hM50
              have hng : nm ≠ ra := Ne.symm hW.2.2.2.2.1.2
              have hW : MWx G A am xa ra pa tx X P k (nI 3) H50 := MWx_mono (fun _ h => h.1) hW
              have hO := hW.obj
              have hAm := hW.1
              refine f_eq (tgt := 172) hx hb dX4_put_167 (by decide) (fun c_51 => ?_) (fun c_51 => ?_)
              · exact absurd c_51 (by decide)
              · refine lv_iconst (v := nI 0) hx hb dX4_put_170 (by decide) ?_
                exact q_i hx hb hr hlocks dX4_put_171 hS (by omega) (by omega) (Or.inr (Or.inr (Or.inl ⟨⟨i, w, hi, rfl, hco, by omega⟩, rfl, ra, pa, tx, hW⟩)))
        · refine qI_V (A := A) (A1 := (fun q9 => A q9 ∧ q9 ≠ nm)) (b := am) (As := [.int (bI true), .int (nI 2)]) (rest := []) ⟨hx, hb, hml, hown, hts⟩ (mX4_refuse (A := (fun q9 => A q9 ∧ q9 ≠ nm)) (X := X) (P := P) (k := k) (xa := xa) (b := true) (th := 0) (w9 := 2) (by decide) (by decide)) (cwV 2 hts (gV tw_4_210 tw_4_212 sel_X4_refuse tw_1_8 tw_4_213) rfl rfl rfl (by decide +kernel) ⟨Nat.le_of_ble_eq_true rfl, Nat.le_of_ble_eq_true rfl⟩) hC hS (fun _ h => h.1) (fun q h => ⟨hA q (Nat.le_trans hS.1 h), by have := hN.lt; omega⟩) (hW.recv hK) ⟨ra, pa, tx, MWx_but hK hW hN hng⟩ rfl rfl hl.1 (Nat.le_of_ble_eq_true rfl) ⟨Nat.le_trans (show (2 + 5 * 2) ≤ 13 by omega) (Nat.le_of_ble_eq_true rfl), Nat.le_trans (show (5 + 5 * 62) ≤ 376 by omega) (Nat.le_of_ble_eq_true rfl)⟩ dX4_put_135 (fun rv52 H52 L52 hP52 hk52 hS => ?_)
          have hZ52 := hS.1
          obtain ⟨hr52, hM52⟩ := hP52
          subst hr52
          have hN := hN.kp hk52 (fun q => q.2 rfl)
          obtain ⟨ra, pa, tx, hW⟩ := hM52
          have hng : nm ≠ ra := Ne.symm hW.2.2.2.2.1.2
          have hW : MWx G A am xa ra pa tx X P k (nI 2) H52 := MWx_mono (fun _ h => h.1) hW
          have hO := hW.obj
          have hAm := hW.1
          refine f_ne (tgt := 170) hx hb dX4_put_138 (by decide) (fun c_53 => ?_) (fun c_53 => ?_)
          · refine lv_iconst (v := nI 0) hx hb dX4_put_170 (by decide) ?_
            exact q_i hx hb hr hlocks dX4_put_171 hS (by omega) (by omega) (Or.inr (Or.inl ⟨⟨⟨i, hi, rfl⟩, hcu2.1 rfl⟩, rfl, ra, pa, tx, hW⟩))
          · exact absurd c_53 (by decide)
    · refine qI_V (A := A) (A1 := (fun q9 => A q9 ∧ q9 ≠ nm)) (b := am) (As := [.int (bI true), .int (nI 1)]) (rest := []) ⟨hx, hb, hml, hown, hts⟩ (mX4_start (A := (fun q9 => A q9 ∧ q9 ≠ nm)) (X := X) (P := P) (k := k) (xa := xa) (b := true) (w9 := 1) (by decide)) (cwV 2 hts (gV tw_4_206 tw_4_208 sel_X4_start tw_1_8 tw_4_209) rfl rfl rfl (by decide +kernel) ⟨Nat.le_of_ble_eq_true rfl, Nat.le_of_ble_eq_true rfl⟩) hC hS (fun _ h => h.1) (fun q h => ⟨hA q (Nat.le_trans hS.1 h), by have := hN.lt; omega⟩) (hW.recv hK) ⟨ra, pa, tx, MWx_but hK hW hN hng⟩ rfl rfl hl.1 (Nat.le_of_ble_eq_true rfl) ⟨Nat.le_trans (show (2 + 5 * 2) ≤ 13 by omega) (Nat.le_of_ble_eq_true rfl), Nat.le_trans (show (5 + 5 * 62) ≤ 376 by omega) (Nat.le_of_ble_eq_true rfl)⟩ dX4_put_125 (fun rv54 H54 L54 hP54 hk54 hS => ?_)
      have hZ54 := hS.1
      obtain ⟨hr54, hM54⟩ := hP54
      subst hr54
      have hN := hN.kp hk54 (fun q => q.2 rfl)
      obtain ⟨ra, pa, tx, hW⟩ := hM54
      have hng : nm ≠ ra := Ne.symm hW.2.2.2.2.1.2
      have hW : MWx G A am xa ra pa tx X P k (nI 1) H54 := MWx_mono (fun _ h => h.1) hW
      have hO := hW.obj
      have hAm := hW.1
      refine f_ne (tgt := 170) hx hb dX4_put_128 (by decide) (fun c_55 => ?_) (fun c_55 => ?_)
      · refine lv_iconst (v := nI 0) hx hb dX4_put_170 (by decide) ?_
        exact q_i hx hb hr hlocks dX4_put_171 hS (by omega) (by omega) (Or.inl ⟨(hr_40v.mp rfl), rfl, ra, pa, tx, hW⟩)
      · exact absurd c_55 (by decide)
  · refine lv_aload hx hb dX4_put_55 (lv_at hl 2 rfl) ?_
    refine lv_iload hx hb dX4_put_57 (lv_at hl 0 rfl) ?_
    refine va_iald hx hb hK (at_P hFsg) 0 0 rfl rfl (vp_in_nI (n := q) (N := 5) (by omega) (by omega)) dX4_put_59 ?_
    refine lv_cv (show _ = fS q from by rw [nI_clamp (by omega)]) ?_
    obtain ⟨x9, hx9⟩ : ∃ x9, x9 = fS q := ⟨_, rfl⟩
    refine lv_cv hx9.symm ?_
    rw [hav q (by omega)] at hx9
    refine lv_istore (lv' := [(13, .int x9), (12, .int (nI q)), (11, .int (nI 5)), (10, .ref sg), (9, .ref nm), (8, .int (bI b)), (0, .ref am), (1, .int x)]) hx hb dX4_put_60 hl (by decide) rfl (fun ls hl => ?_)
    refine lv_iload hx hb dX4_put_62 (lv_at hl 5 rfl) ?_
    refine lv_iload hx hb dX4_put_64 (lv_at hl 0 rfl) ?_
    refine lv_iconst (v := (-1)) hx hb dX4_put_66 (by decide) ?_
    refine lv_icmp_eq (tgt := 82) hx hb dX4_put_67 (by decide) (fun c_56 => ?_) (fun c_56 => ?_)
    · refine lv_iconst (v := nI 0) hx hb dX4_put_82 (by decide) ?_
      refine lv_ior hx hb dX4_put_83 ?_
      refine lv_cv (show _ = bI b from by cases b <;> decide) ?_
      refine lv_istore (lv' := [(8, .int (bI b)), (13, .int x9), (12, .int (nI q)), (11, .int (nI 5)), (10, .ref sg), (9, .ref nm), (0, .ref am), (1, .int x)]) hx hb dX4_put_84 hl (by decide) rfl (fun ls hl => ?_)
      refine lv_iload hx hb dX4_put_86 (lv_at hl 1 rfl) ?_
      refine kS_i (A := A) (As := [.int x9]) (rest := []) ⟨hx, hb, hml, hown, hts⟩ (mX4_isNoSign (A := A) ) (va_cwS 1 hts (gS tw_4_192 tw_4_193 tw_1_8 tw_4_194) rfl rfl rfl (by decide +kernel) ⟨Nat.le_of_ble_eq_true rfl, Nat.le_of_ble_eq_true rfl⟩) hC hS hA  trivial rfl rfl hl.1 (Nat.le_of_ble_eq_true rfl) ⟨Nat.le_trans (show (2 + q * 2) ≤ 13 by omega) (Nat.le_of_ble_eq_true rfl), Nat.le_trans (show (5 + q * 62) ≤ 376 by omega) (Nat.le_of_ble_eq_true rfl)⟩ dX4_put_88 (fun r_57 hr_57 => ?_)
      obtain ⟨r_57v, hr_57v, rfl⟩ := hr_57
      refine f_ne (tgt := 113) hx hb dX4_put_91 (by decide) (fun c_58 => ?_) (fun c_58 => ?_)
      · refine lv_iinc (v := nI (q + 1)) (lv' := [(12, .int (nI (q + 1))), (8, .int (bI b)), (13, .int x9), (11, .int (nI 5)), (10, .ref sg), (9, .ref nm), (0, .ref am), (1, .int x)]) hx hb dX4_put_113 hl (k := 2) rfl (nI_add q 1) (by decide) rfl (fun ls hl => ?_)
        refine lv_goto (tgt := 48) hx hb dX4_put_116 (by decide) ?_
        refine W.widen (k := 2 + (q + 1) * 2) (n := 5 + (q + 1) * 62) (by omega) (by omega) ?_
        exact ih (q + 1) (by omega) (by omega) ls H L nm b w (lv_sub hl [0, 3, 4, 5, 1, 6, 7] rfl) hS hW hFsg hN hgr hgs ⟨b, _, hcu, by rw [← hx9]; exact ⟨Or.inl ⟨(hr_57v.mp c_58), rfl⟩, ⟨fun q => Or.inl q, fun q => q.elim id (fun z => absurd c_56 z.1)⟩⟩⟩
      · exact absurd (hr_57v.mpr (by rw [c_56]; exact NSm1)) (by rw [c_58]; decide)
    · refine lv_iload hx hb dX4_put_70 (lv_at hl 0 rfl) ?_
      refine kS_i (A := A) (As := [.int x9]) (rest := .int (bI b) :: []) ⟨hx, hb, hml, hown, hts⟩ (mX4_isNoSign (A := A) ) (va_cwS 1 hts (gS tw_4_192 tw_4_193 tw_1_8 tw_4_194) rfl rfl rfl (by decide +kernel) ⟨Nat.le_of_ble_eq_true rfl, Nat.le_of_ble_eq_true rfl⟩) hC hS hA  trivial rfl rfl hl.1 (Nat.le_of_ble_eq_true rfl) ⟨Nat.le_trans (show (2 + q * 2) ≤ 13 by omega) (Nat.le_of_ble_eq_true rfl), Nat.le_trans (show (5 + q * 62) ≤ 376 by omega) (Nat.le_of_ble_eq_true rfl)⟩ dX4_put_72 (fun r_59 hr_59 => ?_)
      obtain ⟨r_59v, hr_59v, rfl⟩ := hr_59
      refine f_eq (tgt := 82) hx hb dX4_put_75 (by decide) (fun c_60 => ?_) (fun c_60 => ?_)
      · refine lv_iconst (v := nI 0) hx hb dX4_put_82 (by decide) ?_
        refine lv_ior hx hb dX4_put_83 ?_
        refine lv_cv (show _ = bI b from by cases b <;> decide) ?_
        refine lv_istore (lv' := [(8, .int (bI b)), (13, .int x9), (12, .int (nI q)), (11, .int (nI 5)), (10, .ref sg), (9, .ref nm), (0, .ref am), (1, .int x)]) hx hb dX4_put_84 hl (by decide) rfl (fun ls hl => ?_)
        refine lv_iload hx hb dX4_put_86 (lv_at hl 1 rfl) ?_
        refine kS_i (A := A) (As := [.int x9]) (rest := []) ⟨hx, hb, hml, hown, hts⟩ (mX4_isNoSign (A := A) ) (va_cwS 1 hts (gS tw_4_192 tw_4_193 tw_1_8 tw_4_194) rfl rfl rfl (by decide +kernel) ⟨Nat.le_of_ble_eq_true rfl, Nat.le_of_ble_eq_true rfl⟩) hC hS hA  trivial rfl rfl hl.1 (Nat.le_of_ble_eq_true rfl) ⟨Nat.le_trans (show (2 + q * 2) ≤ 13 by omega) (Nat.le_of_ble_eq_true rfl), Nat.le_trans (show (5 + q * 62) ≤ 376 by omega) (Nat.le_of_ble_eq_true rfl)⟩ dX4_put_88 (fun r_61 hr_61 => ?_)
        obtain ⟨r_61v, hr_61v, rfl⟩ := hr_61
        refine f_ne (tgt := 113) hx hb dX4_put_91 (by decide) (fun c_62 => ?_) (fun c_62 => ?_)
        · exact absurd (hr_59v.mpr (hr_61v.mp c_62)) (by rw [c_60]; decide)
        · obtain ⟨i9, hi9, rfl⟩ : ∃ i9 : Nat, i9 < 24 ∧ x9 = nI i9 := Classical.byContradiction (fun q => absurd (hr_61v.mpr q) (by rw [c_62]; decide))
          refine lv_aload hx hb dX4_put_94 (lv_at hl 5 rfl) ?_
          refine lv_iconst (v := nI 1) hx hb dX4_put_96 (by decide) ?_
          have hW0 := hW
          refine h_newa (D := G.1) (atype := .int) (N := 1) (z := (1, .inl (fun _ => 0))) hx hb (hts _ tw_1_70) rfl (fun h => h) hK 0 rfl hS rfl (nI_pos (by omega)) (nI_clamp (by omega)) (show 1 * _ ≤ _ from by show 1 * 4 ≤ 536870912; omega) (Nat.le_trans (show (2 + q * 2) + 1 ≤ 13 by omega) (Nat.le_of_ble_eq_true rfl)) (Nat.le_trans (show (5 + q * 62) + 1 ≤ 376 by omega) (Nat.le_of_ble_eq_true rfl)) dX4_put_97 (fun na H63 hna hFna z63 o63 hS => ?_)
          have hZ63 := hS.1
          have hMna : A na := hA na (by omega)
          refine lv_dup hx hb dX4_put_99 rfl ?_
          refine lv_iconst (v := nI 0) hx hb dX4_put_100 (by decide) ?_
          refine va_gets (v := .ref (G.2.2 1)) hx hb zc3 hS hown (hts _ tw_4_195) (fun _ h9 => h9) dX4_put_101 ?_
          refine lv_iload hx hb dX4_put_104 (lv_at hl 1 rfl) ?_
          refine va_ti (v := .int (nI (codeT.getD i9 0))) hx hb zc4 hS (vp_in_nI (n := i9) (N := 24) (by omega) (by omega)) (by rw [nI_clamp (n := i9) (by omega)]) dX4_put_106 ?_
          refine h_ist (D := G.1) hx hb hK 0 hFna rfl hS hMna (vp_in_nI (n := 0) (N := 1) (by omega) (by omega)) dX4_put_107 (fun H64 L64 hFna z64 o64 hS => ?_)
          rw [nI_clamp (n := 0) (by omega)] at hFna
          have hZ64 := hS.1
          have hk9 : kp (nw H.size) H H64 := kp_new1 hna z63 o63 z64 o64
          have hN1 : IA0 G na [codeT.getD i9 0] H64 := IA0.mk hFna rfl (fun q hq => by obtain rfl : q = 0 := (by omega); exact pk_us)
          have hW := hW0.nw hk9
          have hFsg := at_kp hFsg hk9 (Nat.not_le_of_lt hFsg.lt)
          have hN := hN.kp hk9 (Nat.not_le_of_lt hN.lt)
          have hra := hW.row.lt
          refine qR_S (A := A) (A1 := nw H64.size)  (As := [.ref nm, .ref na]) (rest := []) ⟨hx, hb, hml, hown, hts⟩ (mX4_joined (A := nw H64.size) (sz := H64.size) (t := w) (u := [codeT.getD i9 0]) (by show _ + 1 ≤ 61; omega)) (va_cwS 2 hts (gS tw_4_200 tw_4_201 tw_1_8 tw_4_202) rfl rfl rfl (by decide +kernel) ⟨Nat.le_of_ble_eq_true rfl, Nat.le_of_ble_eq_true rfl⟩) hC hS (nw_in hA hS.1) nw_n  ⟨rfl, (hN.ia hC.2.1.2), (hN1.ia hC.2.1.2)⟩ rfl rfl hl.1 (Nat.le_of_ble_eq_true rfl) ⟨Nat.le_trans (show ((2 + q * 2) + 1) + 1 ≤ 13 by omega) (Nat.le_of_ble_eq_true rfl), Nat.le_trans (show ((5 + q * 62) + 1) + 61 ≤ 376 by omega) (Nat.le_of_ble_eq_true rfl)⟩ dX4_put_108 (fun rv65 H65 L65 hP65 hk65 hS => ?_)
          have hZ65 := hS.1
          have hW := hW.nw hk65
          have hFsg := at_kp hFsg hk65 (Nat.not_le_of_lt hFsg.lt)
          refine lv_astore (lv' := [(9, .ref rv65), (8, .int (bI b)), (13, .int (nI i9)), (12, .int (nI q)), (11, .int (nI 5)), (10, .ref sg), (0, .ref am), (1, .int x)]) hx hb dX4_put_111 hl (by decide) rfl (fun ls hl => ?_)
          refine lv_iinc (v := nI (q + 1)) (lv' := [(12, .int (nI (q + 1))), (9, .ref rv65), (8, .int (bI b)), (13, .int (nI i9)), (11, .int (nI 5)), (10, .ref sg), (0, .ref am), (1, .int x)]) hx hb dX4_put_113 hl (k := 3) rfl (nI_add q 1) (by decide) rfl (fun ls hl => ?_)
          refine lv_goto (tgt := 48) hx hb dX4_put_116 (by decide) ?_
          refine W.widen (k := 2 + (q + 1) * 2) (n := 5 + (q + 1) * 62) (by omega) (by omega) ?_
          exact ih (q + 1) (by omega) (by omega) ls H65 L65 rv65 b (w ++ [codeT.getD i9 0]) (lv_sub hl [0, 4, 5, 1, 2, 6, 7] rfl) hS hW hFsg hP65.2 (by have := hP65.1; omega) (by have := hP65.1; omega) ⟨b, _, hcu, by rw [← hx9]; exact ⟨Or.inr ⟨i9, hi9, rfl, rfl⟩, ⟨fun q => Or.inl q, fun q => q.elim id (fun z => absurd ⟨i9, hi9, rfl⟩ z.2)⟩⟩⟩
      · refine lv_iconst (v := nI 1) hx hb dX4_put_78 (by decide) ?_
        refine lv_goto (tgt := 83) hx hb dX4_put_79 (by decide) ?_
        refine lv_ior hx hb dX4_put_83 ?_
        refine lv_cv (show _ = bI true from by cases b <;> decide) ?_
        refine lv_istore (lv' := [(8, .int (bI true)), (13, .int x9), (12, .int (nI q)), (11, .int (nI 5)), (10, .ref sg), (9, .ref nm), (0, .ref am), (1, .int x)]) hx hb dX4_put_84 hl (by decide) rfl (fun ls hl => ?_)
        refine lv_iload hx hb dX4_put_86 (lv_at hl 1 rfl) ?_
        refine kS_i (A := A) (As := [.int x9]) (rest := []) ⟨hx, hb, hml, hown, hts⟩ (mX4_isNoSign (A := A) ) (va_cwS 1 hts (gS tw_4_192 tw_4_193 tw_1_8 tw_4_194) rfl rfl rfl (by decide +kernel) ⟨Nat.le_of_ble_eq_true rfl, Nat.le_of_ble_eq_true rfl⟩) hC hS hA  trivial rfl rfl hl.1 (Nat.le_of_ble_eq_true rfl) ⟨Nat.le_trans (show (2 + q * 2) ≤ 13 by omega) (Nat.le_of_ble_eq_true rfl), Nat.le_trans (show (5 + q * 62) ≤ 376 by omega) (Nat.le_of_ble_eq_true rfl)⟩ dX4_put_88 (fun r_66 hr_66 => ?_)
        obtain ⟨r_66v, hr_66v, rfl⟩ := hr_66
        refine f_ne (tgt := 113) hx hb dX4_put_91 (by decide) (fun c_67 => ?_) (fun c_67 => ?_)
        · refine lv_iinc (v := nI (q + 1)) (lv' := [(12, .int (nI (q + 1))), (8, .int (bI true)), (13, .int x9), (11, .int (nI 5)), (10, .ref sg), (9, .ref nm), (0, .ref am), (1, .int x)]) hx hb dX4_put_113 hl (k := 2) rfl (nI_add q 1) (by decide) rfl (fun ls hl => ?_)
          refine lv_goto (tgt := 48) hx hb dX4_put_116 (by decide) ?_
          refine W.widen (k := 2 + (q + 1) * 2) (n := 5 + (q + 1) * 62) (by omega) (by omega) ?_
          exact ih (q + 1) (by omega) (by omega) ls H L nm true w (lv_sub hl [0, 3, 4, 5, 1, 6, 7] rfl) hS hW hFsg hN hgr hgs ⟨b, _, hcu, by rw [← hx9]; exact ⟨Or.inl ⟨(hr_66v.mp c_67), rfl⟩, ⟨fun _ => Or.inr ⟨c_56, (hr_66v.mp c_67)⟩, fun _ => rfl⟩⟩⟩
        · exact absurd (hr_66v.mpr (hr_59v.mp c_60)) (by rw [c_67]; decide)
end
/-! 52.mod16 -/
section
/-! The model, 16: the whole house -/
def hmV (X : Nat → List Nat) (P : List (List Nat)) (k : Int32) : Nat → Int32
  | 0 => nI (X 11).length
  | 1 => nI P.length
  | 2 => nI (sumL X 4)
  | 3 => nI (cntE X 4)
  | _ => k
theorem sumX_le {X : Nat → List Nat} (h : ∀ i : Nat, i < 4 → (X i).length ≤ 60) (n : Nat) (hn : n ≤ 4) : sumL X n ≤ 60 * n := by
  induction n with
  | zero => exact Nat.le_refl _
  | succ n ih => show sumL X n + (X n).length ≤ 60 * (n + 1); have h1 := ih (by omega); have h2 := h n (by omega); omega
theorem cntE_le (X : Nat → List Nat) (n : Nat) : cntE X n ≤ n := by
  induction n with
  | zero => exact Nat.le_refl _
  | succ n ih => show (if (X n).length = 0 then cntE X n + 1 else cntE X n) ≤ n + 1; split <;> omega
theorem MWx_pl {G : Cx} {A : Nat → Prop} {am xa : Nat} {X : Nat → List Nat} {P : List (List Nat)} {k th : Int32} {H : Heap} {ra pa : Nat} {tx : Nat → Nat} (h : MWx G A am xa ra pa tx X P k th H) : ∃ (md : Int32) (ed : Nat), va_at G.1 vwCl (pa, .inr (3, [.int md, .ref ed, .int (nI P.length)])) H := by
  obtain ⟨h0, ⟨e, md, h9⟩ | ⟨md, ed, cap, f, pe, h1, -⟩⟩ := h.2.2.2.2.2.2.2.2.2.2.2
  · subst e; exact ⟨md, _, h9⟩
  · exact ⟨md, ed, h1⟩
/-! orders, places: what one text's answers have to do with another's -/
theorem view_f (c : Nat) : viewN false c = c := rfl
theorem stL_eq {t u : List Nat} (h1 : t.length = u.length) (h2 : stL false t u 0) : t = u := by
  refine List.ext_getElem h1 (fun i hi hj => ?_)
  have h3 := h2.2 i hj
  rw [Nat.zero_add, view_f, view_f, List.getD_eq_getElem?_getD, List.getD_eq_getElem?_getD, List.getElem?_eq_getElem hi, List.getElem?_eq_getElem hj] at h3
  exact h3
theorem subI_z {a b : Nat} (ha : a < 2 ^ 30) (hb : b < 2 ^ 30) : nI a - nI b = 0 ↔ a = b := by
  constructor
  · intro h
    rcases Nat.lt_trichotomy a b with q | q | q
    · have := subI_neg ha hb q; rw [h] at this; exact absurd this (by decide)
    · exact q
    · have h2 := subI_neg hb ha q
      have h3 : nI b - nI a = -(nI a - nI b) := Int32.neg_sub.symm
      rw [h3, h] at h2; exact absurd h2 (by decide)
  · rintro rfl; exact Int32.sub_self _
theorem ordR_zero {t u : List Nat} {r : Int32} (ht : okc t) (hu : okc u) (h1 : t.length ≤ 61) (h2 : u.length ≤ 61) (h : ordR false t u r) : r = 0 ↔ t.length = u.length ∧ stL false t u 0 := by
  rcases h with ⟨k, k1, k2, k3, k4, rfl⟩ | ⟨k1, rfl⟩
  · rw [view_f, view_f] at k4 ⊢
    have e1 := ht k
    have e2 := hu k
    rw [subI_z (by omega) (by omega)]
    constructor
    · intro q; exact absurd q k4
    · intro q
      have h3 := q.2.2 k k2
      rw [Nat.zero_add, view_f, view_f] at h3
      exact h3
  · rw [subI_z (by omega) (by omega)]
    constructor
    · intro q
      exact ⟨q, by omega, fun k hk => by rw [Nat.zero_add]; exact k1 k (by omega) hk⟩
    · intro q; exact q.1
theorem ordR_neg {b : Bool} {t u : List Nat} {r r2 : Int32} (ht : okc t) (hu : okc u) (h : ordR b t u r) (h2 : ordR b u t r2) : r = -r2 := by
  rcases h with ⟨k, k1, k2, k3, k4, rfl⟩ | ⟨k1, rfl⟩
  · rcases h2 with ⟨q, q1, q2, q3, q4, rfl⟩ | ⟨q1, rfl⟩
    · have e : k = q := by
        rcases Nat.lt_trichotomy k q with z | z | z
        · exact absurd (q3 k z).symm k4
        · exact z
        · exact absurd (k3 q z).symm q4
      subst e
      exact Int32.neg_sub.symm
    · exact absurd (q1 k k2 k1).symm k4
  · rcases h2 with ⟨q, q1, q2, q3, q4, rfl⟩ | ⟨q1, rfl⟩
    · exact absurd (k1 q q2 q1).symm q4
    · exact Int32.neg_sub.symm
theorem fst_le_lst {P : Nat → Prop} {r r2 : Int32} (h : fstR P r) (h2 : lstR P r2) (hb : ∀ k, P k → k < 2 ^ 31) : r ≤ r2 := by
  rcases h with ⟨k, k1, k2, rfl⟩ | ⟨k1, rfl⟩
  · rcases h2 with ⟨q, q1, q2, rfl⟩ | ⟨q1, -⟩
    · exact nI_le (Nat.le_of_not_lt fun z => k2 q z q1) (hb q q1)
    · exact absurd k1 (q1 k)
  · rcases h2 with ⟨q, q1, q2, rfl⟩ | ⟨q1, rfl⟩
    · exact absurd q1 (k1 q)
    · exact Int32.le_refl _
theorem dX4_houseTold_0 : decode cX4_houseTold 0 = .ok (.iconst 0, 1) := by decide +kernel
theorem dX4_houseTold_1 : decode cX4_houseTold 1 = .ok (.istore_n 2, 1) := by decide +kernel
theorem dX4_houseTold_2 : decode cX4_houseTold 2 = .ok (.iconst 0, 1) := by decide +kernel
theorem dX4_houseTold_3 : decode cX4_houseTold 3 = .ok (.istore_n 3, 1) := by decide +kernel
theorem dX4_houseTold_4 : decode cX4_houseTold 4 = .ok (.aload_n 0, 1) := by decide +kernel
theorem dX4_houseTold_5 : decode cX4_houseTold 5 = .ok (.getfield 72, 3) := by decide +kernel
theorem dX4_houseTold_8 : decode cX4_houseTold 8 = .ok (.astore 4, 2) := by decide +kernel
theorem dX4_houseTold_10 : decode cX4_houseTold 10 = .ok (.aload 4, 2) := by decide +kernel
theorem dX4_houseTold_12 : decode cX4_houseTold 12 = .ok (.arraylength, 1) := by decide +kernel
theorem dX4_houseTold_13 : decode cX4_houseTold 13 = .ok (.istore 5, 2) := by decide +kernel
theorem dX4_houseTold_15 : decode cX4_houseTold 15 = .ok (.iconst 0, 1) := by decide +kernel
theorem dX4_houseTold_16 : decode cX4_houseTold 16 = .ok (.istore 6, 2) := by decide +kernel
theorem dX4_houseTold_18 : decode cX4_houseTold 18 = .ok (.iload 6, 2) := by decide +kernel
theorem dX4_houseTold_20 : decode cX4_houseTold 20 = .ok (.iload 5, 2) := by decide +kernel
theorem dX4_houseTold_22 : decode cX4_houseTold 22 = .ok (.if_icmp .ge 39, 3) := by decide +kernel
theorem dX4_houseTold_25 : decode cX4_houseTold 25 = .ok (.aload 4, 2) := by decide +kernel
theorem dX4_houseTold_27 : decode cX4_houseTold 27 = .ok (.iload 6, 2) := by decide +kernel
theorem dX4_houseTold_29 : decode cX4_houseTold 29 = .ok (.aaload, 1) := by decide +kernel
theorem dX4_houseTold_30 : decode cX4_houseTold 30 = .ok (.astore 7, 2) := by decide +kernel
theorem dX4_houseTold_32 : decode cX4_houseTold 32 = .ok (.iload_n 2, 1) := by decide +kernel
theorem dX4_houseTold_33 : decode cX4_houseTold 33 = .ok (.aload 7, 2) := by decide +kernel
theorem dX4_houseTold_35 : decode cX4_houseTold 35 = .ok (.arraylength, 1) := by decide +kernel
theorem dX4_houseTold_36 : decode cX4_houseTold 36 = .ok (.iadd, 1) := by decide +kernel
theorem dX4_houseTold_37 : decode cX4_houseTold 37 = .ok (.istore_n 2, 1) := by decide +kernel
theorem dX4_houseTold_38 : decode cX4_houseTold 38 = .ok (.iload_n 3, 1) := by decide +kernel
theorem dX4_houseTold_39 : decode cX4_houseTold 39 = .ok (.aload 7, 2) := by decide +kernel
theorem dX4_houseTold_41 : decode cX4_houseTold 41 = .ok (.arraylength, 1) := by decide +kernel
theorem dX4_houseTold_42 : decode cX4_houseTold 42 = .ok (.ifCond .ne 7, 3) := by decide +kernel
theorem dX4_houseTold_45 : decode cX4_houseTold 45 = .ok (.iconst 1, 1) := by decide +kernel
theorem dX4_houseTold_46 : decode cX4_houseTold 46 = .ok (.goto 4, 3) := by decide +kernel
theorem dX4_houseTold_49 : decode cX4_houseTold 49 = .ok (.iconst 0, 1) := by decide +kernel
theorem dX4_houseTold_50 : decode cX4_houseTold 50 = .ok (.invokestatic 17, 3) := by decide +kernel
theorem dX4_houseTold_53 : decode cX4_houseTold 53 = .ok (.iadd, 1) := by decide +kernel
theorem dX4_houseTold_54 : decode cX4_houseTold 54 = .ok (.istore_n 3, 1) := by decide +kernel
theorem dX4_houseTold_55 : decode cX4_houseTold 55 = .ok (.iinc 6 1, 3) := by decide +kernel
theorem dX4_houseTold_58 : decode cX4_houseTold 58 = .ok (.goto (-40), 3) := by decide +kernel
theorem dX4_houseTold_61 : decode cX4_houseTold 61 = .ok (.iconst 5, 1) := by decide +kernel
theorem dX4_houseTold_62 : decode cX4_houseTold 62 = .ok (.newarray .int, 2) := by decide +kernel
theorem dX4_houseTold_64 : decode cX4_houseTold 64 = .ok (.dup, 1) := by decide +kernel
theorem dX4_houseTold_65 : decode cX4_houseTold 65 = .ok (.iconst 0, 1) := by decide +kernel
theorem dX4_houseTold_66 : decode cX4_houseTold 66 = .ok (.aload_n 0, 1) := by decide +kernel
theorem dX4_houseTold_67 : decode cX4_houseTold 67 = .ok (.getfield 75, 3) := by decide +kernel
theorem dX4_houseTold_70 : decode cX4_houseTold 70 = .ok (.arraylength, 1) := by decide +kernel
theorem dX4_houseTold_71 : decode cX4_houseTold 71 = .ok (.iastore, 1) := by decide +kernel
theorem dX4_houseTold_72 : decode cX4_houseTold 72 = .ok (.dup, 1) := by decide +kernel
theorem dX4_houseTold_73 : decode cX4_houseTold 73 = .ok (.iconst 1, 1) := by decide +kernel
theorem dX4_houseTold_74 : decode cX4_houseTold 74 = .ok (.aload_n 0, 1) := by decide +kernel
theorem dX4_houseTold_75 : decode cX4_houseTold 75 = .ok (.getfield 78, 3) := by decide +kernel
theorem dX4_houseTold_78 : decode cX4_houseTold 78 = .ok (.invokevirtual 54, 3) := by decide +kernel
theorem dX4_houseTold_81 : decode cX4_houseTold 81 = .ok (.iastore, 1) := by decide +kernel
theorem dX4_houseTold_82 : decode cX4_houseTold 82 = .ok (.dup, 1) := by decide +kernel
theorem dX4_houseTold_83 : decode cX4_houseTold 83 = .ok (.iconst 2, 1) := by decide +kernel
theorem dX4_houseTold_84 : decode cX4_houseTold 84 = .ok (.iload_n 2, 1) := by decide +kernel
theorem dX4_houseTold_85 : decode cX4_houseTold 85 = .ok (.iastore, 1) := by decide +kernel
theorem dX4_houseTold_86 : decode cX4_houseTold 86 = .ok (.dup, 1) := by decide +kernel
theorem dX4_houseTold_87 : decode cX4_houseTold 87 = .ok (.iconst 3, 1) := by decide +kernel
theorem dX4_houseTold_88 : decode cX4_houseTold 88 = .ok (.iload_n 3, 1) := by decide +kernel
theorem dX4_houseTold_89 : decode cX4_houseTold 89 = .ok (.iastore, 1) := by decide +kernel
theorem dX4_houseTold_90 : decode cX4_houseTold 90 = .ok (.dup, 1) := by decide +kernel
theorem dX4_houseTold_91 : decode cX4_houseTold 91 = .ok (.iconst 4, 1) := by decide +kernel
theorem dX4_houseTold_92 : decode cX4_houseTold 92 = .ok (.aload_n 0, 1) := by decide +kernel
theorem dX4_houseTold_93 : decode cX4_houseTold 93 = .ok (.getfield 147, 3) := by decide +kernel
theorem dX4_houseTold_96 : decode cX4_houseTold 96 = .ok (.iastore, 1) := by decide +kernel
theorem dX4_houseTold_97 : decode cX4_houseTold 97 = .ok (.astore 4, 2) := by decide +kernel
theorem dX4_houseTold_99 : decode cX4_houseTold 99 = .ok (.aload 4, 2) := by decide +kernel
theorem dX4_houseTold_101 : decode cX4_houseTold 101 = .ok (.iload_n 1, 1) := by decide +kernel
theorem dX4_houseTold_102 : decode cX4_houseTold 102 = .ok (.iaload, 1) := by decide +kernel
theorem dX4_houseTold_103 : decode cX4_houseTold 103 = .ok (.ireturn, 1) := by decide +kernel
theorem dX4_house_0 : decode cX4_house 0 = .ok (.aload_n 0, 1) := by decide +kernel
theorem dX4_house_1 : decode cX4_house 1 = .ok (.iload_n 1, 1) := by decide +kernel
theorem dX4_house_2 : decode cX4_house 2 = .ok (.iconst 0, 1) := by decide +kernel
theorem dX4_house_3 : decode cX4_house 3 = .ok (.iconst 4, 1) := by decide +kernel
theorem dX4_house_4 : decode cX4_house 4 = .ok (.invokestatic 90, 3) := by decide +kernel
theorem dX4_house_7 : decode cX4_house 7 = .ok (.ifCond .ne 7, 3) := by decide +kernel
theorem dX4_house_10 : decode cX4_house 10 = .ok (.iconst 1, 1) := by decide +kernel
theorem dX4_house_11 : decode cX4_house 11 = .ok (.goto 4, 3) := by decide +kernel
theorem dX4_house_14 : decode cX4_house 14 = .ok (.iconst 0, 1) := by decide +kernel
theorem dX4_house_15 : decode cX4_house 15 = .ok (.iconst 1, 1) := by decide +kernel
theorem dX4_house_16 : decode cX4_house 16 = .ok (.invokevirtual 110, 3) := by decide +kernel
theorem dX4_house_19 : decode cX4_house 19 = .ok (.ifCond .eq 7, 3) := by decide +kernel
theorem dX4_house_22 : decode cX4_house 22 = .ok (.iconst 0, 1) := by decide +kernel
theorem dX4_house_23 : decode cX4_house 23 = .ok (.goto 8, 3) := by decide +kernel
theorem dX4_house_26 : decode cX4_house 26 = .ok (.aload_n 0, 1) := by decide +kernel
theorem dX4_house_27 : decode cX4_house 27 = .ok (.iload_n 1, 1) := by decide +kernel
theorem dX4_house_28 : decode cX4_house 28 = .ok (.invokevirtual 179, 3) := by decide +kernel
theorem dX4_house_31 : decode cX4_house 31 = .ok (.ireturn, 1) := by decide +kernel
theorem dX4_isTrue_0 : decode cX4_isTrue 0 = .ok (.aload_n 0, 1) := by decide +kernel
theorem dX4_isTrue_1 : decode cX4_isTrue 1 = .ok (.getfield 72, 3) := by decide +kernel
theorem dX4_isTrue_4 : decode cX4_isTrue 4 = .ok (.astore_n 1, 1) := by decide +kernel
theorem dX4_isTrue_5 : decode cX4_isTrue 5 = .ok (.aload_n 1, 1) := by decide +kernel
theorem dX4_isTrue_6 : decode cX4_isTrue 6 = .ok (.arraylength, 1) := by decide +kernel
theorem dX4_isTrue_7 : decode cX4_isTrue 7 = .ok (.istore_n 2, 1) := by decide +kernel
theorem dX4_isTrue_8 : decode cX4_isTrue 8 = .ok (.iconst 0, 1) := by decide +kernel
theorem dX4_isTrue_9 : decode cX4_isTrue 9 = .ok (.istore_n 3, 1) := by decide +kernel
theorem dX4_isTrue_10 : decode cX4_isTrue 10 = .ok (.iload_n 3, 1) := by decide +kernel
theorem dX4_isTrue_11 : decode cX4_isTrue 11 = .ok (.iload_n 2, 1) := by decide +kernel
theorem dX4_isTrue_12 : decode cX4_isTrue 12 = .ok (.if_icmp .ge 136, 3) := by decide +kernel
theorem dX4_isTrue_15 : decode cX4_isTrue 15 = .ok (.aload_n 1, 1) := by decide +kernel
theorem dX4_isTrue_16 : decode cX4_isTrue 16 = .ok (.iload_n 3, 1) := by decide +kernel
theorem dX4_isTrue_17 : decode cX4_isTrue 17 = .ok (.aaload, 1) := by decide +kernel
theorem dX4_isTrue_18 : decode cX4_isTrue 18 = .ok (.astore 4, 2) := by decide +kernel
theorem dX4_isTrue_20 : decode cX4_isTrue 20 = .ok (.aload_n 0, 1) := by decide +kernel
theorem dX4_isTrue_21 : decode cX4_isTrue 21 = .ok (.getfield 72, 3) := by decide +kernel
theorem dX4_isTrue_24 : decode cX4_isTrue 24 = .ok (.astore 5, 2) := by decide +kernel
theorem dX4_isTrue_26 : decode cX4_isTrue 26 = .ok (.aload 5, 2) := by decide +kernel
theorem dX4_isTrue_28 : decode cX4_isTrue 28 = .ok (.arraylength, 1) := by decide +kernel
theorem dX4_isTrue_29 : decode cX4_isTrue 29 = .ok (.istore 6, 2) := by decide +kernel
theorem dX4_isTrue_31 : decode cX4_isTrue 31 = .ok (.iconst 0, 1) := by decide +kernel
theorem dX4_isTrue_32 : decode cX4_isTrue 32 = .ok (.istore 7, 2) := by decide +kernel
theorem dX4_isTrue_34 : decode cX4_isTrue 34 = .ok (.iload 7, 2) := by decide +kernel
theorem dX4_isTrue_36 : decode cX4_isTrue 36 = .ok (.iload 6, 2) := by decide +kernel
theorem dX4_isTrue_38 : decode cX4_isTrue 38 = .ok (.if_icmp .ge 104, 3) := by decide +kernel
theorem dX4_isTrue_41 : decode cX4_isTrue 41 = .ok (.aload 5, 2) := by decide +kernel
theorem dX4_isTrue_43 : decode cX4_isTrue 43 = .ok (.iload 7, 2) := by decide +kernel
theorem dX4_isTrue_45 : decode cX4_isTrue 45 = .ok (.aaload, 1) := by decide +kernel
theorem dX4_isTrue_46 : decode cX4_isTrue 46 = .ok (.astore 8, 2) := by decide +kernel
theorem dX4_isTrue_48 : decode cX4_isTrue 48 = .ok (.aload 4, 2) := by decide +kernel
theorem dX4_isTrue_50 : decode cX4_isTrue 50 = .ok (.aload 8, 2) := by decide +kernel
theorem dX4_isTrue_52 : decode cX4_isTrue 52 = .ok (.iconst 0, 1) := by decide +kernel
theorem dX4_isTrue_53 : decode cX4_isTrue 53 = .ok (.invokestatic 171, 3) := by decide +kernel
theorem dX4_isTrue_56 : decode cX4_isTrue 56 = .ok (.istore 9, 2) := by decide +kernel
theorem dX4_isTrue_58 : decode cX4_isTrue 58 = .ok (.iload 9, 2) := by decide +kernel
theorem dX4_isTrue_60 : decode cX4_isTrue 60 = .ok (.aload 4, 2) := by decide +kernel
theorem dX4_isTrue_62 : decode cX4_isTrue 62 = .ok (.aload 8, 2) := by decide +kernel
theorem dX4_isTrue_64 : decode cX4_isTrue 64 = .ok (.iconst 0, 1) := by decide +kernel
theorem dX4_isTrue_65 : decode cX4_isTrue 65 = .ok (.invokestatic 175, 3) := by decide +kernel
theorem dX4_isTrue_68 : decode cX4_isTrue 68 = .ok (.ifCond .ne 7, 3) := by decide +kernel
theorem dX4_isTrue_71 : decode cX4_isTrue 71 = .ok (.iconst 1, 1) := by decide +kernel
theorem dX4_isTrue_72 : decode cX4_isTrue 72 = .ok (.goto 4, 3) := by decide +kernel
theorem dX4_isTrue_75 : decode cX4_isTrue 75 = .ok (.iconst 0, 1) := by decide +kernel
theorem dX4_isTrue_76 : decode cX4_isTrue 76 = .ok (.if_icmp .ne 58, 3) := by decide +kernel
theorem dX4_isTrue_79 : decode cX4_isTrue 79 = .ok (.aload 4, 2) := by decide +kernel
theorem dX4_isTrue_81 : decode cX4_isTrue 81 = .ok (.aload 8, 2) := by decide +kernel
theorem dX4_isTrue_83 : decode cX4_isTrue 83 = .ok (.iconst 0, 1) := by decide +kernel
theorem dX4_isTrue_84 : decode cX4_isTrue 84 = .ok (.invokestatic 175, 3) := by decide +kernel
theorem dX4_isTrue_87 : decode cX4_isTrue 87 = .ok (.aload 8, 2) := by decide +kernel
theorem dX4_isTrue_89 : decode cX4_isTrue 89 = .ok (.aload 4, 2) := by decide +kernel
theorem dX4_isTrue_91 : decode cX4_isTrue 91 = .ok (.iconst 0, 1) := by decide +kernel
theorem dX4_isTrue_92 : decode cX4_isTrue 92 = .ok (.invokestatic 175, 3) := by decide +kernel
theorem dX4_isTrue_95 : decode cX4_isTrue 95 = .ok (.ineg, 1) := by decide +kernel
theorem dX4_isTrue_96 : decode cX4_isTrue 96 = .ok (.if_icmp .ne 38, 3) := by decide +kernel
theorem dX4_isTrue_99 : decode cX4_isTrue 99 = .ok (.iload 9, 2) := by decide +kernel
theorem dX4_isTrue_101 : decode cX4_isTrue 101 = .ok (.ifCond .eq 16, 3) := by decide +kernel
theorem dX4_isTrue_104 : decode cX4_isTrue 104 = .ok (.aload 4, 2) := by decide +kernel
theorem dX4_isTrue_106 : decode cX4_isTrue 106 = .ok (.invokestatic 156, 3) := by decide +kernel
theorem dX4_isTrue_109 : decode cX4_isTrue 109 = .ok (.aload 8, 2) := by decide +kernel
theorem dX4_isTrue_111 : decode cX4_isTrue 111 = .ok (.invokestatic 156, 3) := by decide +kernel
theorem dX4_isTrue_114 : decode cX4_isTrue 114 = .ok (.if_icmp .ne 20, 3) := by decide +kernel
theorem dX4_isTrue_117 : decode cX4_isTrue 117 = .ok (.aload 4, 2) := by decide +kernel
theorem dX4_isTrue_119 : decode cX4_isTrue 119 = .ok (.aload 8, 2) := by decide +kernel
theorem dX4_isTrue_121 : decode cX4_isTrue 121 = .ok (.invokestatic 164, 3) := by decide +kernel
theorem dX4_isTrue_124 : decode cX4_isTrue 124 = .ok (.aload 4, 2) := by decide +kernel
theorem dX4_isTrue_126 : decode cX4_isTrue 126 = .ok (.aload 8, 2) := by decide +kernel
theorem dX4_isTrue_128 : decode cX4_isTrue 128 = .ok (.invokestatic 160, 3) := by decide +kernel
theorem dX4_isTrue_131 : decode cX4_isTrue 131 = .ok (.if_icmp .ge 5, 3) := by decide +kernel
theorem dX4_isTrue_134 : decode cX4_isTrue 134 = .ok (.iconst 0, 1) := by decide +kernel
theorem dX4_isTrue_135 : decode cX4_isTrue 135 = .ok (.ireturn, 1) := by decide +kernel
theorem dX4_isTrue_136 : decode cX4_isTrue 136 = .ok (.iinc 7 1, 3) := by decide +kernel
theorem dX4_isTrue_139 : decode cX4_isTrue 139 = .ok (.goto (-105), 3) := by decide +kernel
theorem dX4_isTrue_142 : decode cX4_isTrue 142 = .ok (.iinc 3 1, 3) := by decide +kernel
theorem dX4_isTrue_145 : decode cX4_isTrue 145 = .ok (.goto (-135), 3) := by decide +kernel
theorem dX4_isTrue_148 : decode cX4_isTrue 148 = .ok (.iconst 1, 1) := by decide +kernel
theorem dX4_isTrue_149 : decode cX4_isTrue 149 = .ok (.ireturn, 1) := by decide +kernel
theorem dX4_isSound_0 : decode cX4_isSound 0 = .ok (.aload_n 0, 1) := by decide +kernel
theorem dX4_isSound_1 : decode cX4_isSound 1 = .ok (.iconst 0, 1) := by decide +kernel
theorem dX4_isSound_2 : decode cX4_isSound 2 = .ok (.putfield 82, 3) := by decide +kernel
theorem dX4_isSound_5 : decode cX4_isSound 5 = .ok (.aload_n 0, 1) := by decide +kernel
theorem dX4_isSound_6 : decode cX4_isSound 6 = .ok (.invokevirtual 182, 3) := by decide +kernel
theorem dX4_isSound_9 : decode cX4_isSound 9 = .ok (.ireturn, 1) := by decide +kernel
abbrev rmX4_houseTold : Room := { frames := 2, cells := 1, slots := 5, locals := 40 }
theorem mX4_houseTold {l : Launch} {G : Cx} {A : Nat → Prop} {am xa : Nat} {X : Nat → List Nat} {P : List (List Nat)} {k : Int32} {w9 : Nat} {th : Int32} (hw9 : w9 < 5) : Met l yX4_houseTold (.code yX4_houseTold cX4_houseTold 8 (some .int) :: GW) rmX4_houseTold (PC G A [.ref am, .int (nI w9)] (MW G A am xa X P k th)) (qI A (fun r H => r = hmV X P k w9 ∧ MW G A am xa X P k th H)) 1 5 (A) := by
  refine mstart "SigntextModel" (by decide +kernel) rfl (Nat.le_of_ble_eq_true rfl) ?_
  intro p e s m below meth c ls hx hb hr hts hown hml hlocks hname hC hA hW hl
  have hl : lv_has ls 8 [(0, .ref am), (1, .int (nI w9))] := hl
  have hK := hC.1
  have hS : va_S A s.heap s.heap [] := va_S.rf
  obtain ⟨ra, pa, tx, hW⟩ := hW
  have hO := hW.obj
  have hAm := hW.1
  have hXa := hW.txs
  refine lv_iconst (v := nI 0) hx hb dX4_houseTold_0 (by decide) ?_
  refine lv_istore_n (lv' := [(2, .int (nI 0)), (0, .ref am), (1, .int (nI w9))]) hx hb dX4_houseTold_1 rfl hl (by decide) rfl (fun ls hl => ?_)
  refine lv_iconst (v := nI 0) hx hb dX4_houseTold_2 (by decide) ?_
  refine lv_istore_n (lv' := [(3, .int (nI 0)), (2, .int (nI 0)), (0, .ref am), (1, .int (nI w9))]) hx hb dX4_houseTold_3 rfl hl (by decide) rfl (fun ls hl => ?_)
  refine lv_aload_n hx hb dX4_houseTold_4 rfl (lv_at hl 2 rfl) ?_
  refine va_get (D := G.1) (ci := 8) (C := RX4) (T := TX4) (N := 5) hx hb hts inX4 hown hK (at_P hO) 0 rfl rfl 1 (by decide) (hts _ tw_4_173) (fun _ h9 => h9) rfl dX4_houseTold_5 ?_
  refine lv_astore (lv' := [(4, .ref xa), (3, .int (nI 0)), (2, .int (nI 0)), (0, .ref am), (1, .int (nI w9))]) hx hb dX4_houseTold_8 hl (by decide) rfl (fun ls hl => ?_)
  refine lv_aload hx hb dX4_houseTold_10 (lv_at hl 0 rfl) ?_
  refine va_alen hx hb hK (at_P hXa) 0 4 (v := nI 4) rfl rfl rfl dX4_houseTold_12 ?_
  refine lv_istore (lv' := [(5, .int (nI 4)), (4, .ref xa), (3, .int (nI 0)), (2, .int (nI 0)), (0, .ref am), (1, .int (nI w9))]) hx hb dX4_houseTold_13 hl (by decide) rfl (fun ls hl => ?_)
  refine lv_iconst (v := nI 0) hx hb dX4_houseTold_15 (by decide) ?_
  refine lv_istore (lv' := [(6, .int (nI 0)), (5, .int (nI 4)), (4, .ref xa), (3, .int (nI 0)), (2, .int (nI 0)), (0, .ref am), (1, .int (nI w9))]) hx hb dX4_houseTold_16 hl (by decide) rfl (fun ls hl => ?_)
  have hl : lv_has ls 8 [(6, .int (nI 0)), (5, .int (nI 4)), (4, .ref xa), (3, .int (nI (cntE X 0))), (2, .int (nI (sumL X 0))), (0, .ref am), (1, .int (nI w9))] := (lv_sub hl [0, 1, 2, 3, 4, 5, 6] rfl)
  refine nloop (P := fun j => ∀ (ls : Array Slot) , lv_has ls 8 [(6, .int (nI j)), (5, .int (nI 4)), (4, .ref xa), (3, .int (nI (cntE X j))), (2, .int (nI (sumL X j))), (0, .ref am), (1, .int (nI w9))] → W p l e rmX4_houseTold s m [.ref am, .int (nI w9)].toArray below meth c s.heap [] 0 0 (MQ below (qI A (fun r H => r = hmV X P k w9 ∧ MW G A am xa X P k th H)) [.ref am, .int (nI w9)].toArray s 1 5 (A)) (F0 m 18 ls [])) 4 ?_ 0 (Nat.zero_le _) ls  hl 
  clear hl
  intro j hj ih ls  hl
  refine lv_iload hx hb dX4_houseTold_18 (lv_at hl 0 rfl) ?_
  refine lv_iload hx hb dX4_houseTold_20 (lv_at hl 1 rfl) ?_
  refine b_ge (tgt := 61) hx hb dX4_houseTold_22 (by decide) (by omega) (by omega) (fun c_1 => ?_) (fun c_1 => ?_)
  · have e4 : j = 4 := by omega
    subst e4
    clear ih
    have sl := sumX_le (X := X) (fun i hi => (hW.2.2.1 i (Or.inl hi)).2) 4 (Nat.le_refl _)
    have cl := cntE_le X 4
    have hp61 := hW.2.2.2.2.2.2.2.2.2.2.2.1
    have hW0 := hW
    refine lv_iconst (v := nI 5) hx hb dX4_houseTold_61 (by decide) ?_
    refine h_newa (D := G.1) (atype := .int) (N := 5) (z := (5, .inl (fun _ => 0))) hx hb (hts _ tw_1_70) rfl (fun h => h) hK 0 rfl hS rfl (nI_pos (by omega)) (nI_clamp (by omega)) (show 5 * _ ≤ _ from by show 5 * 4 ≤ 536870912; omega) (Nat.le_trans (show 0 + 1 ≤ 1 by omega) (Nat.le_of_ble_eq_true rfl)) (Nat.le_trans (show 0 + 5 ≤ 5 by omega) (Nat.le_of_ble_eq_true rfl)) dX4_houseTold_62 (fun na H2 hna hFna z2 o2 hS => ?_)
    have hZ2 := hS.1
    have hMna : A na := hA na (by omega)
    have hW := hW0.nw (kp.new z2 o2)
    have hO := hW.obj
    refine lv_dup hx hb dX4_houseTold_64 rfl ?_
    refine lv_iconst (v := nI 0) hx hb dX4_houseTold_65 (by decide) ?_
    refine lv_aload_n hx hb dX4_houseTold_66 rfl (lv_at hl 5 rfl) ?_
    refine va_get (D := G.1) (ci := 8) (C := RX4) (T := TX4) (N := 5) hx hb hts inX4 hown hK (at_P hO) 0 rfl rfl 2 (by decide) (hts _ tw_4_174) (fun _ h9 => h9) rfl dX4_houseTold_67 ?_
    have hR1 := hW.row.ia hC.2.1.2
    have x11 := hW.2.2.1 11 (Or.inr rfl)
    refine h_ilen hx hb hC.2.1 hR1 dX4_houseTold_70 ?_
    refine h_ist (D := G.1) hx hb hK 0 hFna rfl hS hMna (vp_in_nI (n := 0) (N := 5) (by omega) (by omega)) dX4_houseTold_71 (fun H3 L3 hFna z3 o3 hS => ?_)
    rw [nI_clamp (n := 0) (by omega)] at hFna
    have hZ3 := hS.1
    have hW := hW0.nw ((kp.new z2 o2).tr (kp_w1 (A := nw s.heap.size) (by rw [hna]; exact Nat.le_refl _) z3 o3))
    have hO := hW.obj
    refine lv_dup hx hb dX4_houseTold_72 rfl ?_
    refine lv_iconst (v := nI 1) hx hb dX4_houseTold_73 (by decide) ?_
    refine lv_aload_n hx hb dX4_houseTold_74 rfl (lv_at hl 5 rfl) ?_
    refine va_get (D := G.1) (ci := 8) (C := RX4) (T := TX4) (N := 5) hx hb hts inX4 hown hK (at_P hO) 0 rfl rfl 3 (by decide) (hts _ tw_4_175) (fun _ h9 => h9) rfl dX4_houseTold_75 ?_
    obtain ⟨md, ed, hPa⟩ := MWx_pl hW
    refine kV_i (A := A) (b := pa) (As := []) (rest := .int (nI 1) :: .ref na :: .ref na :: []) ⟨hx, hb, hml, hown, hts⟩ (mJx4a65c_size_8abf5 (A := A) (ed := ed) (n := P.length) (md := md) (by omega)) (cwV 0 hts (gV tw_5_148 tw_5_149 tw_5_150 tw_1_11 tw_5_151) rfl rfl rfl (by decide +kernel) ⟨Nat.le_of_ble_eq_true rfl, Nat.le_of_ble_eq_true rfl⟩) hC hS hA (at_recv hK hPa (q := (RJx4a65c, TJx4a65c, 3)) rfl) hPa rfl rfl hl.1 (Nat.le_of_ble_eq_true rfl) ⟨Nat.le_trans (show (0 + 1) ≤ 1 by omega) (Nat.le_of_ble_eq_true rfl), Nat.le_trans (show (0 + 5) ≤ 5 by omega) (Nat.le_of_ble_eq_true rfl)⟩ dX4_houseTold_78 (fun r9 h9 => lv_cv h9 ?_)
    refine h_ist (D := G.1) hx hb hK 0 hFna rfl hS hMna (vp_in_nI (n := 1) (N := 5) (by omega) (by omega)) dX4_houseTold_81 (fun H4 L4 hFna z4 o4 hS => ?_)
    rw [nI_clamp (n := 1) (by omega)] at hFna
    have hZ4 := hS.1
    have hW := hW0.nw (((kp.new z2 o2).tr (kp_w1 (A := nw s.heap.size) (by rw [hna]; exact Nat.le_refl _) z3 o3)).tr (kp_w1 (A := nw s.heap.size) (by rw [hna]; exact Nat.le_refl _) z4 o4))
    have hO := hW.obj
    refine lv_dup hx hb dX4_houseTold_82 rfl ?_
    refine lv_iconst (v := nI 2) hx hb dX4_houseTold_83 (by decide) ?_
    refine lv_iload_n hx hb dX4_houseTold_84 rfl (lv_at hl 4 rfl) ?_
    refine h_ist (D := G.1) hx hb hK 0 hFna rfl hS hMna (vp_in_nI (n := 2) (N := 5) (by omega) (by omega)) dX4_houseTold_85 (fun H5 L5 hFna z5 o5 hS => ?_)
    rw [nI_clamp (n := 2) (by omega)] at hFna
    have hZ5 := hS.1
    have hW := hW0.nw ((((kp.new z2 o2).tr (kp_w1 (A := nw s.heap.size) (by rw [hna]; exact Nat.le_refl _) z3 o3)).tr (kp_w1 (A := nw s.heap.size) (by rw [hna]; exact Nat.le_refl _) z4 o4)).tr (kp_w1 (A := nw s.heap.size) (by rw [hna]; exact Nat.le_refl _) z5 o5))
    have hO := hW.obj
    refine lv_dup hx hb dX4_houseTold_86 rfl ?_
    refine lv_iconst (v := nI 3) hx hb dX4_houseTold_87 (by decide) ?_
    refine lv_iload_n hx hb dX4_houseTold_88 rfl (lv_at hl 3 rfl) ?_
    refine h_ist (D := G.1) hx hb hK 0 hFna rfl hS hMna (vp_in_nI (n := 3) (N := 5) (by omega) (by omega)) dX4_houseTold_89 (fun H6 L6 hFna z6 o6 hS => ?_)
    rw [nI_clamp (n := 3) (by omega)] at hFna
    have hZ6 := hS.1
    have hW := hW0.nw (((((kp.new z2 o2).tr (kp_w1 (A := nw s.heap.size) (by rw [hna]; exact Nat.le_refl _) z3 o3)).tr (kp_w1 (A := nw s.heap.size) (by rw [hna]; exact Nat.le_refl _) z4 o4)).tr (kp_w1 (A := nw s.heap.size) (by rw [hna]; exact Nat.le_refl _) z5 o5)).tr (kp_w1 (A := nw s.heap.size) (by rw [hna]; exact Nat.le_refl _) z6 o6))
    have hO := hW.obj
    refine lv_dup hx hb dX4_houseTold_90 rfl ?_
    refine lv_iconst (v := nI 4) hx hb dX4_houseTold_91 (by decide) ?_
    refine lv_aload_n hx hb dX4_houseTold_92 rfl (lv_at hl 5 rfl) ?_
    refine va_get (D := G.1) (ci := 8) (C := RX4) (T := TX4) (N := 5) hx hb hts inX4 hown hK (at_P hO) 0 rfl rfl 4 (by decide) (hts _ tw_4_176) (fun _ h9 => h9) rfl dX4_houseTold_93 ?_
    refine h_ist (D := G.1) hx hb hK 0 hFna rfl hS hMna (vp_in_nI (n := 4) (N := 5) (by omega) (by omega)) dX4_houseTold_96 (fun H7 L7 hFna z7 o7 hS => ?_)
    rw [nI_clamp (n := 4) (by omega)] at hFna
    have hZ7 := hS.1
    have hW := hW0.nw ((((((kp.new z2 o2).tr (kp_w1 (A := nw s.heap.size) (by rw [hna]; exact Nat.le_refl _) z3 o3)).tr (kp_w1 (A := nw s.heap.size) (by rw [hna]; exact Nat.le_refl _) z4 o4)).tr (kp_w1 (A := nw s.heap.size) (by rw [hna]; exact Nat.le_refl _) z5 o5)).tr (kp_w1 (A := nw s.heap.size) (by rw [hna]; exact Nat.le_refl _) z6 o6)).tr (kp_w1 (A := nw s.heap.size) (by rw [hna]; exact Nat.le_refl _) z7 o7))
    have hO := hW.obj
    refine lv_astore (lv' := [(4, .ref na), (6, .int (nI 4)), (5, .int (nI 4)), (3, .int (nI (cntE X 4))), (2, .int (nI (sumL X 4))), (0, .ref am), (1, .int (nI w9))]) hx hb dX4_houseTold_97 hl (by decide) rfl (fun ls hl => ?_)
    refine lv_aload hx hb dX4_houseTold_99 (lv_at hl 0 rfl) ?_
    refine lv_iload_n hx hb dX4_houseTold_101 rfl (lv_at hl 6 rfl) ?_
    refine va_iald hx hb hK (at_P hFna) 0 0 rfl rfl (vp_in_nI (n := w9) (N := 5) (by omega) (by omega)) dX4_houseTold_102 ?_
    refine lv_cv (show _ = (upd (upd (upd (upd (upd (fun _ => 0) 0 (nI ((X 11).length))) 1 (nI P.length)) 2 (nI (sumL X 4))) 3 (nI (cntE X 4))) 4 k) w9 from by rw [nI_clamp (by omega)]) ?_
    exact q_i hx hb hr hlocks dX4_houseTold_103 hS (by omega) (by omega) ⟨by match w9, hw9 with | 0, _ => rfl | 1, _ => rfl | 2, _ => rfl | 3, _ => rfl | 4, _ => rfl, ra, pa, tx, hW⟩
  · have hXa := hW.txs
    refine lv_aload hx hb dX4_houseTold_25 (lv_at hl 2 rfl) ?_
    refine lv_iload hx hb dX4_houseTold_27 (lv_at hl 0 rfl) ?_
    refine h_aaldI (D := G.1) hx hb hK 4 hW.txs rfl (vp_in_nI (n := j) (N := 4) (by omega) (by omega)) dX4_houseTold_29 ?_
    refine v_cv (show va_rf _ = .ref (tx j) from by rw [nI_clamp (n := j) (by omega)]; rfl) ?_
    have hTj := (hW.tx (j := j) (by omega)).ia hC.2.1.2
    have x60j := hW.2.2.1 j (Or.inl (by omega))
    have j60 := x60j.2
    refine lv_astore (lv' := [(7, .ref (tx j)), (6, .int (nI j)), (5, .int (nI 4)), (4, .ref xa), (3, .int (nI (cntE X j))), (2, .int (nI (sumL X j))), (0, .ref am), (1, .int (nI w9))]) hx hb dX4_houseTold_30 hl (by decide) rfl (fun ls hl => ?_)
    refine lv_iload_n hx hb dX4_houseTold_32 rfl (lv_at hl 5 rfl) ?_
    refine lv_aload hx hb dX4_houseTold_33 (lv_at hl 0 rfl) ?_
    refine h_ilen hx hb hC.2.1 hTj dX4_houseTold_35 ?_
    refine lv_iadd hx hb dX4_houseTold_36 ?_
    refine lv_cv (nI_add (sumL X j) ((X j).length)) ?_
    refine lv_istore_n (lv' := [(2, .int (nI (sumL X j + (X j).length))), (7, .ref (tx j)), (6, .int (nI j)), (5, .int (nI 4)), (4, .ref xa), (3, .int (nI (cntE X j))), (0, .ref am), (1, .int (nI w9))]) hx hb dX4_houseTold_37 rfl hl (by decide) rfl (fun ls hl => ?_)
    refine lv_iload_n hx hb dX4_houseTold_38 rfl (lv_at hl 5 rfl) ?_
    refine lv_aload hx hb dX4_houseTold_39 (lv_at hl 1 rfl) ?_
    refine h_ilen hx hb hC.2.1 hTj dX4_houseTold_41 ?_
    refine z_ne (tgt := 49) hx hb dX4_houseTold_42 (by decide) (by omega) (fun c_8 => ?_) (fun c_8 => ?_)
    · refine lv_iconst (v := nI 0) hx hb dX4_houseTold_49 (by decide) ?_
      refine kS_i (A := A) (As := [.int (bI false)]) (rest := .int (nI (cntE X j)) :: []) ⟨hx, hb, hml, hown, hts⟩ (mX4_one (A := A) ) (va_cwS 1 hts (gS tw_5_26 tw_5_27 tw_1_8 tw_5_28) rfl rfl rfl (by decide +kernel) ⟨Nat.le_of_ble_eq_true rfl, Nat.le_of_ble_eq_true rfl⟩) hC hS hA  trivial rfl rfl hl.1 (Nat.le_of_ble_eq_true rfl) ⟨Nat.zero_le _, Nat.zero_le _⟩ dX4_houseTold_50 (fun r9 h9 => lv_cv h9 ?_)
      refine lv_cv (show bI false = nI 0 from rfl) ?_
      refine lv_iadd hx hb dX4_houseTold_53 ?_
      refine lv_cv (nI_add (cntE X j) 0) ?_
      have ec : cntE X (j + 1) = cntE X j + 0 := if_neg c_8
      rw [← ec]
      refine lv_istore_n (lv' := [(3, .int (nI (cntE X (j + 1)))), (2, .int (nI (sumL X j + (X j).length))), (7, .ref (tx j)), (6, .int (nI j)), (5, .int (nI 4)), (4, .ref xa), (0, .ref am), (1, .int (nI w9))]) hx hb dX4_houseTold_54 rfl hl (by decide) rfl (fun ls hl => ?_)
      refine lv_iinc (v := nI (j + 1)) (lv' := [(6, .int (nI (j + 1))), (3, .int (nI (cntE X (j + 1)))), (2, .int (nI (sumL X j + (X j).length))), (7, .ref (tx j)), (5, .int (nI 4)), (4, .ref xa), (0, .ref am), (1, .int (nI w9))]) hx hb dX4_houseTold_55 hl (k := 3) rfl (nI_add j 1) (by decide) rfl (fun ls hl => ?_)
      refine lv_goto (tgt := 18) hx hb dX4_houseTold_58 (by decide) ?_
      exact ih (j + 1) (by omega) (by omega) ls (lv_sub hl [0, 4, 5, 1, 2, 6, 7] rfl)
    · refine lv_iconst (v := nI 1) hx hb dX4_houseTold_45 (by decide) ?_
      refine lv_goto (tgt := 50) hx hb dX4_houseTold_46 (by decide) ?_
      refine kS_i (A := A) (As := [.int (bI true)]) (rest := .int (nI (cntE X j)) :: []) ⟨hx, hb, hml, hown, hts⟩ (mX4_one (A := A) ) (va_cwS 1 hts (gS tw_5_26 tw_5_27 tw_1_8 tw_5_28) rfl rfl rfl (by decide +kernel) ⟨Nat.le_of_ble_eq_true rfl, Nat.le_of_ble_eq_true rfl⟩) hC hS hA  trivial rfl rfl hl.1 (Nat.le_of_ble_eq_true rfl) ⟨Nat.zero_le _, Nat.zero_le _⟩ dX4_houseTold_50 (fun r9 h9 => lv_cv h9 ?_)
      refine lv_cv (show bI true = nI 1 from rfl) ?_
      refine lv_iadd hx hb dX4_houseTold_53 ?_
      refine lv_cv (nI_add (cntE X j) 1) ?_
      have ec : cntE X (j + 1) = cntE X j + 1 := if_pos c_8
      rw [← ec]
      refine lv_istore_n (lv' := [(3, .int (nI (cntE X (j + 1)))), (2, .int (nI (sumL X j + (X j).length))), (7, .ref (tx j)), (6, .int (nI j)), (5, .int (nI 4)), (4, .ref xa), (0, .ref am), (1, .int (nI w9))]) hx hb dX4_houseTold_54 rfl hl (by decide) rfl (fun ls hl => ?_)
      refine lv_iinc (v := nI (j + 1)) (lv' := [(6, .int (nI (j + 1))), (3, .int (nI (cntE X (j + 1)))), (2, .int (nI (sumL X j + (X j).length))), (7, .ref (tx j)), (5, .int (nI 4)), (4, .ref xa), (0, .ref am), (1, .int (nI w9))]) hx hb dX4_houseTold_55 hl (k := 3) rfl (nI_add j 1) (by decide) rfl (fun ls hl => ?_)
      refine lv_goto (tgt := 18) hx hb dX4_houseTold_58 (by decide) ?_
      exact ih (j + 1) (by omega) (by omega) ls (lv_sub hl [0, 4, 5, 1, 2, 6, 7] rfl)

abbrev rmX4_house : Room := { frames := 3, cells := 1, slots := 5, locals := 67 }
theorem mX4_house {l : Launch} {G : Cx} {A : Nat → Prop} {am xa : Nat} {X : Nat → List Nat} {P : List (List Nat)} {k : Int32} {x th : Int32} : Met l yX4_house (.code yX4_house cX4_house 2 (some .int) :: GW) rmX4_house (PC G A [.ref am, .int x] (MW G A am xa X P k th)) (qI A (fun r H => ((¬ ∃ w9 : Nat, w9 < 5 ∧ x = nI w9) ∧ r = 0 ∧ MW G A am xa X P k 1 H) ∨ ∃ w9 : Nat, w9 < 5 ∧ x = nI w9 ∧ r = hmV X P k w9 ∧ MW G A am xa X P k 0 H)) 1 5 (A) := by
  refine mstart "SigntextModel" (by decide +kernel) rfl (Nat.le_of_ble_eq_true rfl) ?_
  intro p e s m below meth c ls hx hb hr hts hown hml hlocks hname hC hA hW hl
  have hl : lv_has ls 2 [(0, .ref am), (1, .int x)] := hl
  have hK := hC.1
  have hS : va_S A s.heap s.heap [] := va_S.rf
  obtain ⟨ra, pa, tx, hW⟩ := hW
  have hO := hW.obj
  have hAm := hW.1
  refine lv_aload_n hx hb dX4_house_0 rfl (lv_at hl 0 rfl) ?_
  refine lv_iload_n hx hb dX4_house_1 rfl (lv_at hl 1 rfl) ?_
  refine lv_iconst (v := nI 0) hx hb dX4_house_2 (by decide) ?_
  refine lv_iconst (v := nI 4) hx hb dX4_house_3 (by decide) ?_
  refine kS_i (A := A) (As := [.int x, .int (nI 0), .int (nI 4)]) (rest := .ref am :: []) ⟨hx, hb, hml, hown, hts⟩ (mX4_isIn (A := A) ) (va_cwS 3 hts (gS tw_4_197 tw_4_198 tw_1_8 tw_4_199) rfl rfl rfl (by decide +kernel) ⟨Nat.le_of_ble_eq_true rfl, Nat.le_of_ble_eq_true rfl⟩) hC hS hA  trivial rfl rfl hl.1 (Nat.le_of_ble_eq_true rfl) ⟨Nat.zero_le _, Nat.zero_le _⟩ dX4_house_4 (fun r9 h9 => lv_cv h9 ?_)
  refine f_ne (tgt := 14) hx hb dX4_house_7 (by decide) (fun c_9 => ?_) (fun c_9 => ?_)
  · obtain ⟨w9, hw9, rfl⟩ := (rngI (n := 4) (by omega)).mp (of_decide_eq_true c_9)
    refine lv_iconst (v := nI 0) hx hb dX4_house_14 (by decide) ?_
    refine lv_iconst (v := nI 1) hx hb dX4_house_15 (by decide) ?_
    refine qI_V (A := A) (A1 := A) (b := am) (As := [.int (bI false), .int (nI 1)]) (rest := []) ⟨hx, hb, hml, hown, hts⟩ (mX4_start (A := A) (X := X) (P := P) (k := k) (xa := xa) (b := false) (w9 := 1) (by decide)) (cwV 2 hts (gV tw_4_206 tw_4_208 sel_X4_start tw_1_8 tw_4_209) rfl rfl rfl (by decide +kernel) ⟨Nat.le_of_ble_eq_true rfl, Nat.le_of_ble_eq_true rfl⟩) hC hS (fun _ h => h) (fun q h => hA q (Nat.le_trans hS.1 h)) (hW.recv hK) ⟨ra, pa, tx, hW⟩ rfl rfl hl.1 (Nat.le_of_ble_eq_true rfl) ⟨Nat.zero_le _, Nat.zero_le _⟩ dX4_house_16 (fun rv10 H10 L10 hP10 hk10 hS => ?_)
    have hZ10 := hS.1
    obtain ⟨hr10, hM10⟩ := hP10
    subst hr10
    obtain ⟨ra, pa, tx, hW⟩ := hM10
    have hW : MWx G A am xa ra pa tx X P k (nI 0) H10 := hW
    have hO := hW.obj
    have hAm := hW.1
    refine f_eq (tgt := 26) hx hb dX4_house_19 (by decide) (fun c_11 => ?_) (fun c_11 => ?_)
    · refine lv_aload_n hx hb dX4_house_26 rfl (lv_at hl 0 rfl) ?_
      refine lv_iload_n hx hb dX4_house_27 rfl (lv_at hl 1 rfl) ?_
      refine qI_V (A := A) (A1 := A) (b := am) (As := [.int (nI w9)]) (rest := []) ⟨hx, hb, hml, hown, hts⟩ (mX4_houseTold (A := A) (X := X) (P := P) (k := k) (xa := xa) (w9 := w9) (by omega)) (cwV 1 hts (gV tw_7_14 tw_7_16 sel_X4_houseTold tw_1_8 tw_7_17) rfl rfl rfl (by decide +kernel) ⟨Nat.le_of_ble_eq_true rfl, Nat.le_of_ble_eq_true rfl⟩) hC hS (fun _ h => h) (fun q h => hA q (Nat.le_trans hS.1 h)) (hW.recv hK) ⟨ra, pa, tx, hW⟩ rfl rfl hl.1 (Nat.le_of_ble_eq_true rfl) ⟨Nat.le_trans (show 0 + 1 ≤ 1 by omega) (Nat.le_of_ble_eq_true rfl), Nat.le_trans (show 0 + 5 ≤ 5 by omega) (Nat.le_of_ble_eq_true rfl)⟩ dX4_house_28 (fun rv12 H12 L12 hP12 hk12 hS => ?_)
      have hZ12 := hS.1
      exact q_i hx hb hr hlocks dX4_house_31 hS (by omega) (by omega) (Or.inr (⟨w9, by omega, rfl, hP12.1, hP12.2⟩))
    · exact absurd c_11 (by decide)
  · refine lv_iconst (v := nI 1) hx hb dX4_house_10 (by decide) ?_
    refine lv_goto (tgt := 15) hx hb dX4_house_11 (by decide) ?_
    refine lv_iconst (v := nI 1) hx hb dX4_house_15 (by decide) ?_
    refine qI_V (A := A) (A1 := A) (b := am) (As := [.int (bI true), .int (nI 1)]) (rest := []) ⟨hx, hb, hml, hown, hts⟩ (mX4_start (A := A) (X := X) (P := P) (k := k) (xa := xa) (b := true) (w9 := 1) (by decide)) (cwV 2 hts (gV tw_4_206 tw_4_208 sel_X4_start tw_1_8 tw_4_209) rfl rfl rfl (by decide +kernel) ⟨Nat.le_of_ble_eq_true rfl, Nat.le_of_ble_eq_true rfl⟩) hC hS (fun _ h => h) (fun q h => hA q (Nat.le_trans hS.1 h)) (hW.recv hK) ⟨ra, pa, tx, hW⟩ rfl rfl hl.1 (Nat.le_of_ble_eq_true rfl) ⟨Nat.zero_le _, Nat.zero_le _⟩ dX4_house_16 (fun rv13 H13 L13 hP13 hk13 hS => ?_)
    have hZ13 := hS.1
    obtain ⟨hr13, hM13⟩ := hP13
    subst hr13
    obtain ⟨ra, pa, tx, hW⟩ := hM13
    have hW : MWx G A am xa ra pa tx X P k (nI 1) H13 := hW
    have hO := hW.obj
    have hAm := hW.1
    refine f_eq (tgt := 26) hx hb dX4_house_19 (by decide) (fun c_14 => ?_) (fun c_14 => ?_)
    · exact absurd c_14 (by decide)
    · refine lv_iconst (v := nI 0) hx hb dX4_house_22 (by decide) ?_
      refine lv_goto (tgt := 31) hx hb dX4_house_23 (by decide) ?_
      exact q_i hx hb hr hlocks dX4_house_31 hS (by omega) (by omega) (Or.inl ⟨(fun ⟨w0, h0, h1⟩ => (fun q => absurd ((rngI (n := 4) (by omega)).mpr q) (of_decide_eq_false c_9)) ⟨w0, by omega, h1⟩), rfl, ra, pa, tx, hW⟩)

abbrev rmX4_isTrue : Room := { frames := 3, cells := 0, slots := 0, locals := 66 }
theorem mX4_isTrue {l : Launch} {G : Cx} {A : Nat → Prop} {am xa : Nat} {X : Nat → List Nat} {P : List (List Nat)} {k : Int32} {th : Int32} : Met l yX4_isTrue (.code yX4_isTrue cX4_isTrue 10 (some .boolean) :: GW) rmX4_isTrue (PC G A [.ref am] (MW G A am xa X P k th)) (vp_Si (fun r => r = bI true)) 0 0 (fun _ => False) := by
  refine mstart "SigntextModel" (by decide +kernel) rfl (Nat.le_of_ble_eq_true rfl) ?_
  intro p e s m below meth c ls hx hb hr hts hown hml hlocks hname hC hA hW hl
  have hl : lv_has ls 10 [(0, .ref am)] := hl
  have hK := hC.1
  have hS : va_S A s.heap s.heap [] := va_S.rf
  obtain ⟨ra, pa, tx, hW⟩ := hW
  have hO := hW.obj
  have hAm := hW.1
  have hXa := hW.txs
  refine lv_aload_n hx hb dX4_isTrue_0 rfl (lv_at hl 0 rfl) ?_
  refine va_get (D := G.1) (ci := 8) (C := RX4) (T := TX4) (N := 5) hx hb hts inX4 hown hK (at_P hO) 0 rfl rfl 1 (by decide) (hts _ tw_4_173) (fun _ h9 => h9) rfl dX4_isTrue_1 ?_
  refine lv_astore_n (lv' := [(1, .ref xa), (0, .ref am)]) hx hb dX4_isTrue_4 rfl hl (by decide) rfl (fun ls hl => ?_)
  refine lv_aload_n hx hb dX4_isTrue_5 rfl (lv_at hl 0 rfl) ?_
  refine va_alen hx hb hK (at_P hXa) 0 4 (v := nI 4) rfl rfl rfl dX4_isTrue_6 ?_
  refine lv_istore_n (lv' := [(2, .int (nI 4)), (1, .ref xa), (0, .ref am)]) hx hb dX4_isTrue_7 rfl hl (by decide) rfl (fun ls hl => ?_)
  refine lv_iconst (v := nI 0) hx hb dX4_isTrue_8 (by decide) ?_
  refine lv_istore_n (lv' := [(3, .int (nI 0)), (2, .int (nI 4)), (1, .ref xa), (0, .ref am)]) hx hb dX4_isTrue_9 rfl hl (by decide) rfl (fun ls hl => ?_)
  refine nloop (P := fun j => ∀ (ls : Array Slot) , lv_has ls 10 [(3, .int (nI j)), (2, .int (nI 4)), (1, .ref xa), (0, .ref am)] → W p l e rmX4_isTrue s m [.ref am].toArray below meth c s.heap [] 0 0 (MQ below (vp_Si (fun r => r = bI true)) [.ref am].toArray s 0 0 (fun _ => False)) (F0 m 10 ls [])) 4 ?_ 0 (Nat.zero_le _) ls  hl 
  clear hl
  intro j hj ih ls  hl
  refine lv_iload_n hx hb dX4_isTrue_10 rfl (lv_at hl 0 rfl) ?_
  refine lv_iload_n hx hb dX4_isTrue_11 rfl (lv_at hl 1 rfl) ?_
  refine b_ge (tgt := 148) hx hb dX4_isTrue_12 (by decide) (by omega) (by omega) (fun c_15 => ?_) (fun c_15 => ?_)
  · refine lv_iconst (v := nI 1) hx hb dX4_isTrue_148 (by decide) ?_
    exact p_z (b := true) hx hb hr hlocks dX4_isTrue_149 rfl
  · have hXa := hW.txs
    refine lv_aload_n hx hb dX4_isTrue_15 rfl (lv_at hl 2 rfl) ?_
    refine lv_iload_n hx hb dX4_isTrue_16 rfl (lv_at hl 0 rfl) ?_
    refine h_aaldI (D := G.1) hx hb hK 4 hW.txs rfl (vp_in_nI (n := j) (N := 4) (by omega) (by omega)) dX4_isTrue_17 ?_
    refine v_cv (show va_rf _ = .ref (tx j) from by rw [nI_clamp (n := j) (by omega)]; rfl) ?_
    have hTj := (hW.tx (j := j) (by omega)).ia hC.2.1.2
    have x60j := hW.2.2.1 j (Or.inl (by omega))
    have j60 := x60j.2
    refine lv_astore (lv' := [(4, .ref (tx j)), (3, .int (nI j)), (2, .int (nI 4)), (1, .ref xa), (0, .ref am)]) hx hb dX4_isTrue_18 hl (by decide) rfl (fun ls hl => ?_)
    refine lv_aload_n hx hb dX4_isTrue_20 rfl (lv_at hl 4 rfl) ?_
    refine va_get (D := G.1) (ci := 8) (C := RX4) (T := TX4) (N := 5) hx hb hts inX4 hown hK (at_P hO) 0 rfl rfl 1 (by decide) (hts _ tw_4_173) (fun _ h9 => h9) rfl dX4_isTrue_21 ?_
    refine lv_astore (lv' := [(5, .ref xa), (4, .ref (tx j)), (3, .int (nI j)), (2, .int (nI 4)), (1, .ref xa), (0, .ref am)]) hx hb dX4_isTrue_24 hl (by decide) rfl (fun ls hl => ?_)
    refine lv_aload hx hb dX4_isTrue_26 (lv_at hl 0 rfl) ?_
    refine va_alen hx hb hK (at_P hXa) 0 4 (v := nI 4) rfl rfl rfl dX4_isTrue_28 ?_
    refine lv_istore (lv' := [(6, .int (nI 4)), (5, .ref xa), (4, .ref (tx j)), (3, .int (nI j)), (2, .int (nI 4)), (1, .ref xa), (0, .ref am)]) hx hb dX4_isTrue_29 hl (by decide) rfl (fun ls hl => ?_)
    refine lv_iconst (v := nI 0) hx hb dX4_isTrue_31 (by decide) ?_
    refine lv_istore (lv' := [(7, .int (nI 0)), (6, .int (nI 4)), (5, .ref xa), (4, .ref (tx j)), (3, .int (nI j)), (2, .int (nI 4)), (1, .ref xa), (0, .ref am)]) hx hb dX4_isTrue_32 hl (by decide) rfl (fun ls hl => ?_)
    have hl : lv_has ls 10 [(7, .int (nI 0)), (6, .int (nI 4)), (5, .ref xa), (4, .ref (tx j)), (3, .int (nI j)), (2, .int (nI 4)), (1, .ref xa), (0, .ref am)] := (lv_sub hl [0, 1, 2, 3, 4, 5, 6, 7] rfl)
    have ihj := ih
    clear ih
    refine nloop (P := fun i => ∀ (ls : Array Slot) , lv_has ls 10 [(7, .int (nI i)), (6, .int (nI 4)), (5, .ref xa), (4, .ref (tx j)), (3, .int (nI j)), (2, .int (nI 4)), (1, .ref xa), (0, .ref am)] → W p l e rmX4_isTrue s m [.ref am].toArray below meth c s.heap [] 0 0 (MQ below (vp_Si (fun r => r = bI true)) [.ref am].toArray s 0 0 (fun _ => False)) (F0 m 34 ls [])) 4 ?_ 0 (Nat.zero_le _) ls  hl 
    clear hl
    intro i hi ih ls  hl
    refine lv_iload hx hb dX4_isTrue_34 (lv_at hl 0 rfl) ?_
    refine lv_iload hx hb dX4_isTrue_36 (lv_at hl 1 rfl) ?_
    refine b_ge (tgt := 142) hx hb dX4_isTrue_38 (by decide) (by omega) (by omega) (fun c_16 => ?_) (fun c_16 => ?_)
    · refine lv_iinc (v := nI (j + 1)) (lv' := [(3, .int (nI (j + 1))), (7, .int (nI i)), (6, .int (nI 4)), (5, .ref xa), (4, .ref (tx j)), (2, .int (nI 4)), (1, .ref xa), (0, .ref am)]) hx hb dX4_isTrue_142 hl (k := 4) rfl (nI_add j 1) (by decide) rfl (fun ls hl => ?_)
      refine lv_goto (tgt := 10) hx hb dX4_isTrue_145 (by decide) ?_
      exact ihj (j + 1) (by omega) (by omega) ls (lv_sub hl [0, 5, 6, 7] rfl)
    · refine lv_aload hx hb dX4_isTrue_41 (lv_at hl 2 rfl) ?_
      refine lv_iload hx hb dX4_isTrue_43 (lv_at hl 0 rfl) ?_
      refine h_aaldI (D := G.1) hx hb hK 4 hW.txs rfl (vp_in_nI (n := i) (N := 4) (by omega) (by omega)) dX4_isTrue_45 ?_
      refine v_cv (show va_rf _ = .ref (tx i) from by rw [nI_clamp (n := i) (by omega)]; rfl) ?_
      have hTi := (hW.tx (j := i) (by omega)).ia hC.2.1.2
      have x60i := hW.2.2.1 i (Or.inl (by omega))
      have i60 := x60i.2
      refine lv_astore (lv' := [(8, .ref (tx i)), (7, .int (nI i)), (6, .int (nI 4)), (5, .ref xa), (4, .ref (tx j)), (3, .int (nI j)), (2, .int (nI 4)), (1, .ref xa), (0, .ref am)]) hx hb dX4_isTrue_46 hl (by decide) rfl (fun ls hl => ?_)
      refine lv_aload hx hb dX4_isTrue_48 (lv_at hl 4 rfl) ?_
      refine lv_aload hx hb dX4_isTrue_50 (lv_at hl 0 rfl) ?_
      refine lv_iconst (v := nI 0) hx hb dX4_isTrue_52 (by decide) ?_
      refine kS_i (A := A) (As := [.ref (tx j), .ref (tx i), .int (bI false)]) (rest := []) ⟨hx, hb, hml, hown, hts⟩ (mX4_isSame (A := A) (t := X j) (u := X i) (b0 := false) x60j.1 x60i.1 (by omega) (by omega)) (va_cwS 3 hts (gS tw_6_220 tw_6_221 tw_1_8 tw_6_222) rfl rfl rfl (by decide +kernel) ⟨Nat.le_of_ble_eq_true rfl, Nat.le_of_ble_eq_true rfl⟩) hC hS hA  ⟨hTj, hTi⟩ rfl rfl hl.1 (Nat.le_of_ble_eq_true rfl) ⟨Nat.zero_le _, Nat.zero_le _⟩ dX4_isTrue_53 (fun r_17 hr_17 => ?_)
      obtain ⟨v9, hv9, rfl⟩ := hr_17
      refine lv_istore (lv' := [(9, .int (bI v9)), (8, .ref (tx i)), (7, .int (nI i)), (6, .int (nI 4)), (5, .ref xa), (4, .ref (tx j)), (3, .int (nI j)), (2, .int (nI 4)), (1, .ref xa), (0, .ref am)]) hx hb dX4_isTrue_56 hl (by decide) rfl (fun ls hl => ?_)
      refine lv_iload hx hb dX4_isTrue_58 (lv_at hl 0 rfl) ?_
      refine lv_aload hx hb dX4_isTrue_60 (lv_at hl 5 rfl) ?_
      refine lv_aload hx hb dX4_isTrue_62 (lv_at hl 1 rfl) ?_
      refine lv_iconst (v := nI 0) hx hb dX4_isTrue_64 (by decide) ?_
      refine kS_i (A := A) (As := [.ref (tx j), .ref (tx i), .int (bI false)]) (rest := .int (bI v9) :: []) ⟨hx, hb, hml, hown, hts⟩ (mX4_order (A := A) (t := X j) (u := X i) (b0 := false) x60j.1 x60i.1 (by omega) (by omega)) (va_cwS 3 hts (gS tw_6_227 tw_6_228 tw_1_8 tw_6_229) rfl rfl rfl (by decide +kernel) ⟨Nat.le_of_ble_eq_true rfl, Nat.le_of_ble_eq_true rfl⟩) hC hS hA  ⟨hTj, hTi⟩ rfl rfl hl.1 (Nat.le_of_ble_eq_true rfl) ⟨Nat.zero_le _, Nat.zero_le _⟩ dX4_isTrue_65 (fun r_18 hr_18 => ?_)
      obtain ⟨o9, ho9, hro9⟩ := hr_18
      have ho1 : ordR false (X j) (X i) r_18 := by rw [hro9, if_neg (by decide)]; exact ho9
      have hz1 := ordR_zero x60j.1 x60i.1 (by omega) (by omega) ho1
      refine lv_if_ne (tgt := 75) hx hb dX4_isTrue_68 (by decide) (fun c_19 => ?_) (fun c_19 => ?_)
      · refine lv_iconst (v := nI 0) hx hb dX4_isTrue_75 (by decide) ?_
        have hvv : v9 = false := by cases e9 : v9; rfl; exact absurd (hz1.mpr (hv9.mp e9)) c_19
        subst hvv
        refine lv_icmp_ne (tgt := 134) hx hb dX4_isTrue_76 (by decide) (fun c_20 => ?_) (fun c_20 => ?_)
        · exact absurd rfl c_20
        · refine lv_aload hx hb dX4_isTrue_79 (lv_at hl 5 rfl) ?_
          refine lv_aload hx hb dX4_isTrue_81 (lv_at hl 1 rfl) ?_
          refine lv_iconst (v := nI 0) hx hb dX4_isTrue_83 (by decide) ?_
          refine kS_i (A := A) (As := [.ref (tx j), .ref (tx i), .int (bI false)]) (rest := []) ⟨hx, hb, hml, hown, hts⟩ (mX4_order (A := A) (t := X j) (u := X i) (b0 := false) x60j.1 x60i.1 (by omega) (by omega)) (va_cwS 3 hts (gS tw_6_227 tw_6_228 tw_1_8 tw_6_229) rfl rfl rfl (by decide +kernel) ⟨Nat.le_of_ble_eq_true rfl, Nat.le_of_ble_eq_true rfl⟩) hC hS hA  ⟨hTj, hTi⟩ rfl rfl hl.1 (Nat.le_of_ble_eq_true rfl) ⟨Nat.zero_le _, Nat.zero_le _⟩ dX4_isTrue_84 (fun r_21 hr_21 => ?_)
          obtain ⟨o9, ho9, hro9⟩ := hr_21
          have ho2 : ordR false (X j) (X i) r_21 := by rw [hro9, if_neg (by decide)]; exact ho9
          refine lv_aload hx hb dX4_isTrue_87 (lv_at hl 1 rfl) ?_
          refine lv_aload hx hb dX4_isTrue_89 (lv_at hl 5 rfl) ?_
          refine lv_iconst (v := nI 0) hx hb dX4_isTrue_91 (by decide) ?_
          refine kS_i (A := A) (As := [.ref (tx i), .ref (tx j), .int (bI false)]) (rest := .int r_21 :: []) ⟨hx, hb, hml, hown, hts⟩ (mX4_order (A := A) (t := X i) (u := X j) (b0 := false) x60i.1 x60j.1 (by omega) (by omega)) (va_cwS 3 hts (gS tw_6_227 tw_6_228 tw_1_8 tw_6_229) rfl rfl rfl (by decide +kernel) ⟨Nat.le_of_ble_eq_true rfl, Nat.le_of_ble_eq_true rfl⟩) hC hS hA  ⟨hTi, hTj⟩ rfl rfl hl.1 (Nat.le_of_ble_eq_true rfl) ⟨Nat.zero_le _, Nat.zero_le _⟩ dX4_isTrue_92 (fun r_22 hr_22 => ?_)
          obtain ⟨o9, ho9, hro9⟩ := hr_22
          have ho3 : ordR false (X i) (X j) r_22 := by rw [hro9, if_neg (by decide)]; exact ho9
          refine lv_ineg hx hb dX4_isTrue_95 ?_
          refine lv_icmp_ne (tgt := 134) hx hb dX4_isTrue_96 (by decide) (fun c_23 => ?_) (fun c_23 => ?_)
          · exact absurd (ordR_neg x60j.1 x60i.1 ho2 ho3) c_23
          · refine lv_iload hx hb dX4_isTrue_99 (lv_at hl 0 rfl) ?_
            refine f_eq (tgt := 117) hx hb dX4_isTrue_101 (by decide) (fun c_24 => ?_) (fun c_24 => ?_)
            · refine lv_aload hx hb dX4_isTrue_117 (lv_at hl 5 rfl) ?_
              refine lv_aload hx hb dX4_isTrue_119 (lv_at hl 1 rfl) ?_
              refine kS_i (A := A) (As := [.ref (tx j), .ref (tx i)]) (rest := []) ⟨hx, hb, hml, hown, hts⟩ (mX4_last (A := A) (t := X j) (u := X i) x60j.1 x60i.1 (by omega) (by omega)) (va_cwS 2 hts (gS tw_6_185 tw_6_186 tw_1_8 tw_6_187) rfl rfl rfl (by decide +kernel) ⟨Nat.le_of_ble_eq_true rfl, Nat.le_of_ble_eq_true rfl⟩) hC hS hA  ⟨hTj, hTi⟩ rfl rfl hl.1 (Nat.le_of_ble_eq_true rfl) ⟨Nat.zero_le _, Nat.zero_le _⟩ dX4_isTrue_121 (fun r_25 hr_25 => ?_)
              have hla : lstR (fun k9 => stL false (X j) (X i) k9) r_25 := hr_25
              refine lv_aload hx hb dX4_isTrue_124 (lv_at hl 5 rfl) ?_
              refine lv_aload hx hb dX4_isTrue_126 (lv_at hl 1 rfl) ?_
              refine kS_i (A := A) (As := [.ref (tx j), .ref (tx i)]) (rest := .int r_25 :: []) ⟨hx, hb, hml, hown, hts⟩ (mX4_first (A := A) (t := X j) (u := X i) x60j.1 x60i.1 (by omega) (by omega)) (va_cwS 2 hts (gS tw_6_172 tw_6_173 tw_1_8 tw_6_174) rfl rfl rfl (by decide +kernel) ⟨Nat.le_of_ble_eq_true rfl, Nat.le_of_ble_eq_true rfl⟩) hC hS hA  ⟨hTj, hTi⟩ rfl rfl hl.1 (Nat.le_of_ble_eq_true rfl) ⟨Nat.zero_le _, Nat.zero_le _⟩ dX4_isTrue_128 (fun r_26 hr_26 => ?_)
              have hfi : fstR (fun k9 => stL false (X j) (X i) k9) r_26 := hr_26
              refine lv_icmp_ge (tgt := 136) hx hb dX4_isTrue_131 (by decide) (fun c_27 => ?_) (fun c_27 => ?_)
              · refine lv_iinc (v := nI (i + 1)) (lv' := [(7, .int (nI (i + 1))), (9, .int (bI false)), (8, .ref (tx i)), (6, .int (nI 4)), (5, .ref xa), (4, .ref (tx j)), (3, .int (nI j)), (2, .int (nI 4)), (1, .ref xa), (0, .ref am)]) hx hb dX4_isTrue_136 hl (k := 2) rfl (nI_add i 1) (by decide) rfl (fun ls hl => ?_)
                refine lv_goto (tgt := 34) hx hb dX4_isTrue_139 (by decide) ?_
                exact ih (i + 1) (by omega) (by omega) ls (lv_sub hl [0, 3, 4, 5, 6, 7, 8, 9] rfl)
              · exact absurd (fst_le_lst hfi hla (fun k9 q => by have := q.1; omega)) c_27
            · exact absurd c_24 (by decide)
      · refine lv_iconst (v := nI 1) hx hb dX4_isTrue_71 (by decide) ?_
        refine lv_goto (tgt := 76) hx hb dX4_isTrue_72 (by decide) ?_
        have hvv : v9 = true := hv9.mpr (hz1.mp c_19)
        subst hvv
        refine lv_icmp_ne (tgt := 134) hx hb dX4_isTrue_76 (by decide) (fun c_28 => ?_) (fun c_28 => ?_)
        · exact absurd rfl c_28
        · refine lv_aload hx hb dX4_isTrue_79 (lv_at hl 5 rfl) ?_
          refine lv_aload hx hb dX4_isTrue_81 (lv_at hl 1 rfl) ?_
          refine lv_iconst (v := nI 0) hx hb dX4_isTrue_83 (by decide) ?_
          refine kS_i (A := A) (As := [.ref (tx j), .ref (tx i), .int (bI false)]) (rest := []) ⟨hx, hb, hml, hown, hts⟩ (mX4_order (A := A) (t := X j) (u := X i) (b0 := false) x60j.1 x60i.1 (by omega) (by omega)) (va_cwS 3 hts (gS tw_6_227 tw_6_228 tw_1_8 tw_6_229) rfl rfl rfl (by decide +kernel) ⟨Nat.le_of_ble_eq_true rfl, Nat.le_of_ble_eq_true rfl⟩) hC hS hA  ⟨hTj, hTi⟩ rfl rfl hl.1 (Nat.le_of_ble_eq_true rfl) ⟨Nat.zero_le _, Nat.zero_le _⟩ dX4_isTrue_84 (fun r_29 hr_29 => ?_)
          obtain ⟨o9, ho9, hro9⟩ := hr_29
          have ho2 : ordR false (X j) (X i) r_29 := by rw [hro9, if_neg (by decide)]; exact ho9
          refine lv_aload hx hb dX4_isTrue_87 (lv_at hl 1 rfl) ?_
          refine lv_aload hx hb dX4_isTrue_89 (lv_at hl 5 rfl) ?_
          refine lv_iconst (v := nI 0) hx hb dX4_isTrue_91 (by decide) ?_
          refine kS_i (A := A) (As := [.ref (tx i), .ref (tx j), .int (bI false)]) (rest := .int r_29 :: []) ⟨hx, hb, hml, hown, hts⟩ (mX4_order (A := A) (t := X i) (u := X j) (b0 := false) x60i.1 x60j.1 (by omega) (by omega)) (va_cwS 3 hts (gS tw_6_227 tw_6_228 tw_1_8 tw_6_229) rfl rfl rfl (by decide +kernel) ⟨Nat.le_of_ble_eq_true rfl, Nat.le_of_ble_eq_true rfl⟩) hC hS hA  ⟨hTi, hTj⟩ rfl rfl hl.1 (Nat.le_of_ble_eq_true rfl) ⟨Nat.zero_le _, Nat.zero_le _⟩ dX4_isTrue_92 (fun r_30 hr_30 => ?_)
          obtain ⟨o9, ho9, hro9⟩ := hr_30
          have ho3 : ordR false (X i) (X j) r_30 := by rw [hro9, if_neg (by decide)]; exact ho9
          refine lv_ineg hx hb dX4_isTrue_95 ?_
          refine lv_icmp_ne (tgt := 134) hx hb dX4_isTrue_96 (by decide) (fun c_31 => ?_) (fun c_31 => ?_)
          · exact absurd (ordR_neg x60j.1 x60i.1 ho2 ho3) c_31
          · refine lv_iload hx hb dX4_isTrue_99 (lv_at hl 0 rfl) ?_
            refine f_eq (tgt := 117) hx hb dX4_isTrue_101 (by decide) (fun c_32 => ?_) (fun c_32 => ?_)
            · exact absurd c_32 (by decide)
            · refine lv_aload hx hb dX4_isTrue_104 (lv_at hl 5 rfl) ?_
              refine kS_i (A := A) (As := [.ref (tx j)]) (rest := []) ⟨hx, hb, hml, hown, hts⟩ (mX4_hash (A := A) (t := X j) (by omega)) (va_cwS 1 hts (gS tw_6_165 tw_6_166 tw_1_8 tw_6_167) rfl rfl rfl (by decide +kernel) ⟨Nat.le_of_ble_eq_true rfl, Nat.le_of_ble_eq_true rfl⟩) hC hS hA  hTj rfl rfl hl.1 (Nat.le_of_ble_eq_true rfl) ⟨Nat.zero_le _, Nat.zero_le _⟩ dX4_isTrue_106 (fun r9 h9 => lv_cv h9 ?_)
              refine lv_aload hx hb dX4_isTrue_109 (lv_at hl 1 rfl) ?_
              refine kS_i (A := A) (As := [.ref (tx i)]) (rest := .int (hashL (X j)) :: []) ⟨hx, hb, hml, hown, hts⟩ (mX4_hash (A := A) (t := X i) (by omega)) (va_cwS 1 hts (gS tw_6_165 tw_6_166 tw_1_8 tw_6_167) rfl rfl rfl (by decide +kernel) ⟨Nat.le_of_ble_eq_true rfl, Nat.le_of_ble_eq_true rfl⟩) hC hS hA  hTi rfl rfl hl.1 (Nat.le_of_ble_eq_true rfl) ⟨Nat.zero_le _, Nat.zero_le _⟩ dX4_isTrue_111 (fun r9 h9 => lv_cv h9 ?_)
              refine lv_icmp_ne (tgt := 134) hx hb dX4_isTrue_114 (by decide) (fun c_33 => ?_) (fun c_33 => ?_)
              · exact absurd (by rw [stL_eq (hv9.mp rfl).1 (hv9.mp rfl).2]) c_33
              · refine lv_aload hx hb dX4_isTrue_117 (lv_at hl 5 rfl) ?_
                refine lv_aload hx hb dX4_isTrue_119 (lv_at hl 1 rfl) ?_
                refine kS_i (A := A) (As := [.ref (tx j), .ref (tx i)]) (rest := []) ⟨hx, hb, hml, hown, hts⟩ (mX4_last (A := A) (t := X j) (u := X i) x60j.1 x60i.1 (by omega) (by omega)) (va_cwS 2 hts (gS tw_6_185 tw_6_186 tw_1_8 tw_6_187) rfl rfl rfl (by decide +kernel) ⟨Nat.le_of_ble_eq_true rfl, Nat.le_of_ble_eq_true rfl⟩) hC hS hA  ⟨hTj, hTi⟩ rfl rfl hl.1 (Nat.le_of_ble_eq_true rfl) ⟨Nat.zero_le _, Nat.zero_le _⟩ dX4_isTrue_121 (fun r_34 hr_34 => ?_)
                have hla : lstR (fun k9 => stL false (X j) (X i) k9) r_34 := hr_34
                refine lv_aload hx hb dX4_isTrue_124 (lv_at hl 5 rfl) ?_
                refine lv_aload hx hb dX4_isTrue_126 (lv_at hl 1 rfl) ?_
                refine kS_i (A := A) (As := [.ref (tx j), .ref (tx i)]) (rest := .int r_34 :: []) ⟨hx, hb, hml, hown, hts⟩ (mX4_first (A := A) (t := X j) (u := X i) x60j.1 x60i.1 (by omega) (by omega)) (va_cwS 2 hts (gS tw_6_172 tw_6_173 tw_1_8 tw_6_174) rfl rfl rfl (by decide +kernel) ⟨Nat.le_of_ble_eq_true rfl, Nat.le_of_ble_eq_true rfl⟩) hC hS hA  ⟨hTj, hTi⟩ rfl rfl hl.1 (Nat.le_of_ble_eq_true rfl) ⟨Nat.zero_le _, Nat.zero_le _⟩ dX4_isTrue_128 (fun r_35 hr_35 => ?_)
                have hfi : fstR (fun k9 => stL false (X j) (X i) k9) r_35 := hr_35
                refine lv_icmp_ge (tgt := 136) hx hb dX4_isTrue_131 (by decide) (fun c_36 => ?_) (fun c_36 => ?_)
                · refine lv_iinc (v := nI (i + 1)) (lv' := [(7, .int (nI (i + 1))), (9, .int (bI true)), (8, .ref (tx i)), (6, .int (nI 4)), (5, .ref xa), (4, .ref (tx j)), (3, .int (nI j)), (2, .int (nI 4)), (1, .ref xa), (0, .ref am)]) hx hb dX4_isTrue_136 hl (k := 2) rfl (nI_add i 1) (by decide) rfl (fun ls hl => ?_)
                  refine lv_goto (tgt := 34) hx hb dX4_isTrue_139 (by decide) ?_
                  exact ih (i + 1) (by omega) (by omega) ls (lv_sub hl [0, 3, 4, 5, 6, 7, 8, 9] rfl)
                · exact absurd (fst_le_lst hfi hla (fun k9 q => by have := q.1; omega)) c_36

abbrev rmX4_isSound : Room := { frames := 4, cells := 0, slots := 0, locals := 95 }
theorem mX4_isSound {l : Launch} {G : Cx} {A : Nat → Prop} {am xa : Nat} {X : Nat → List Nat} {P : List (List Nat)} {k : Int32} {th : Int32} : Met l yX4_isSound (.code yX4_isSound cX4_isSound 1 (some .boolean) :: GW) rmX4_isSound (PC G A [.ref am] (MW G A am xa X P k th)) (qI A (fun r H => r = bI true ∧ MW G A am xa X P k 0 H)) 0 0 (A) := by
  refine mstart "SigntextModel" (by decide +kernel) rfl (Nat.le_of_ble_eq_true rfl) ?_
  intro p e s m below meth c ls hx hb hr hts hown hml hlocks hname hC hA hW hl
  have hl : lv_has ls 1 [(0, .ref am)] := hl
  have hK := hC.1
  have hS : va_S A s.heap s.heap [] := va_S.rf
  obtain ⟨ra, pa, tx, hW⟩ := hW
  have hO := hW.obj
  have hAm := hW.1
  refine lv_aload_n hx hb dX4_isSound_0 rfl (lv_at hl 0 rfl) ?_
  refine lv_iconst (v := nI 0) hx hb dX4_isSound_1 (by decide) ?_
  refine h_put (D := G.1) (ci := 8) (C := RX4) (T := TX4) (N := 5) hx hb hts inX4 tyX4 tyX4_ok nmX4 hown hK hO hS hAm rfl 0 (by decide) (hts _ tw_4_172) (fun _ h9 => h9) rfl (tyX4_ok 0 (by decide)) rfl rfl (Nat.le_of_ble_eq_true rfl) dX4_isSound_2 (fun H37 L37 hO z37 o37 hS => ?_)
  have hO : va_at G.1 vwCl (am, .inr (8, [.int (nI 0), .ref xa, .ref ra, .ref pa, .int k])) H37 := hO
  have hZ37 := hS.1
  have hW := hW.nums hK hO o37
  have hO := hW.obj
  have hAm := hW.1
  refine lv_aload_n hx hb dX4_isSound_5 rfl (lv_at hl 0 rfl) ?_
  refine kV_i (A := A) (b := am) (As := []) (rest := []) ⟨hx, hb, hml, hown, hts⟩ (mX4_isTrue (A := A) (X := X) (P := P) (k := k) (xa := xa)) (cwV 0 hts (gV tw_7_22 tw_7_24 sel_X4_isTrue tw_1_8 tw_7_25) rfl rfl rfl (by decide +kernel) ⟨Nat.le_of_ble_eq_true rfl, Nat.le_of_ble_eq_true rfl⟩) hC hS hA (hW.recv hK) ⟨ra, pa, tx, hW⟩ rfl rfl hl.1 (Nat.le_of_ble_eq_true rfl) ⟨Nat.zero_le _, Nat.zero_le _⟩ dX4_isSound_6 (fun r9 h9 => lv_cv h9 ?_)
  exact q_z (b9 := true) hx hb hr hlocks dX4_isSound_9 hS (Nat.le_refl _) (Nat.le_refl _) ⟨rfl, ra, pa, tx, hW⟩
end
