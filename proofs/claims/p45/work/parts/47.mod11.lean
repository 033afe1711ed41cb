/-! The model, 11: the row's signs, known texts, a sign ahead -/
theorem h_aaTI {p : Program} {l : Launch} {e : Env} {R : Room} {s : State} {m : MethodId} {args : Array Value} {below : List Frame} {meth : Method} {c : Code} {H : Heap} {locs : List Loc} {cells slots : Nat} {Q : State → Prop} {cc : ByteArray} {pc : Nat} {ls : Array Slot} {rest : List Value} {A : Nat → Prop} {t N : Nat} {f : Nat → Value}
    (hx : p.tables.exec = Jvm.exec) (hb : c.code = cc) (hT : va_T (.array .int) t N f A s s.heap) (hS : va_S A s.heap H locs) {i : Int32} (hin : vp_in i N) {v : Value} (hv : f i.toNatClampNeg = v) (hdg : decode cc pc = .ok (.aaload, 1))
    (kk : W p l e R s m args below meth c H locs cells slots Q (F0 m (pc + 1) ls (v :: rest))) : W p l e R s m args below meth c H locs cells slots Q (F0 m pc ls (.int i :: .ref t :: rest)) := by
  obtain ⟨cell, h1, h2, h3, h4, h5, h6, h7⟩ := hT
  have hlt : i.toNatClampNeg < N := Nat.not_le.mp fun q => hin (Or.inr q)
  have hin' : ¬ (i < 0 ∨ cell.slots.size ≤ i.toNatClampNeg) := by
    intro q
    rcases q with q | q
    · exact hin (Or.inl q)
    · omega
  exact W.aald (v := v) (ty := .array .int) hx hb (by rw [hS.2.1 t (Array.getElem?_eq_some_iff.mp h1).1 h7]; exact h1) h2 rfl h3 hin' (by rw [h6 _ hlt, hv]) rfl rfl hdg kk
theorem set_getD_s {t : List Nat} {i c : Nat} (h : i < t.length) : (t.set i c).getD i 0 = c := by
  rw [List.getD_eq_getElem?_getD, List.getElem?_set_self h]; rfl
theorem set_getD_n {t : List Nat} {i j c : Nat} (h : j ≠ i) : (t.set i c).getD j 0 = t.getD j 0 := by
  rw [List.getD_eq_getElem?_getD, List.getElem?_set_ne (Ne.symm h), ← List.getD_eq_getElem?_getD]
theorem kp_new1 {H H1 H2 : Heap} {na : Nat} (hna : na = H.size) (z : H1.size = H.size + 1) (o : ∀ q : Nat, q < H.size → H1[q]? = H[q]?) (z2 : H2.size = H1.size) (o2 : ∀ q : Nat, q ≠ na → H2[q]? = H1[q]?) : kp (nw H.size) H H2 :=
  ⟨by rw [z2, z]; exact Nat.le_succ _, fun q hq _ => (o2 q (by omega)).trans (o q hq)⟩
section MWS3
variable {G : Cx} {A : Nat → Prop} {am xa : Nat} {X : Nat → List Nat} {P : List (List Nat)} {k th : Int32} {H H1 : Heap} {s : State}
/-- the row is written -/
theorem MWx.set {ra pa : Nat} {tx : Nat → Nat} (hK : va_K G.1 vwCl (tyL G.2.1) s) (h : MWx G A am xa ra pa tx X P k th H) {t : List Nat} (ht : okc t) (ht2 : t.length ≤ 60) (hR : IA0 G ra t H1) (oq : ∀ q : Nat, q ≠ ra → H1[q]? = H[q]?) : MWx G A am xa ra pa tx (updT X 11 t) P k th H1 := by
  obtain ⟨a1, a2, a3, a4, b1, b2, b3, b4, b5, b6, b7, b8⟩ := h
  obtain ⟨f7, b7a, -⟩ := b7
  have hI : ∀ {q : Nat} {t : List Nat}, IA0 G q t H → q ≠ ra → IA0 G q t H1 := fun {q t} hz hn => hz.o oq hn
  refine ⟨a1, a2, fun i hi => ?_, a4, b1, b2, b3, at_o b4 oq (at_ne_oa hK b4 (r := (RX4, TX4, 5)) rfl b7a 0 rfl), at_o b5 oq (at_ne_aa hK b5 b7a 4 0 rfl rfl (by decide)), fun j hj => ?_, ?_, ?_⟩
  · unfold updT; split
    · exact ⟨ht, ht2⟩
    · exact a3 i hi
  · rw [updT_n (by omega)]; exact ⟨hI (b6 j hj).1 (b6 j hj).2, (b6 j hj).2⟩
  · rw [updT_s]; exact hR
  · obtain ⟨h0, h | ⟨md, ed, cap, f, pe, h1, h2, h3, h4, h5, h6⟩⟩ := b8
    · obtain ⟨e, md, h⟩ := h
      exact ⟨h0, Or.inl ⟨e, md, at_o h oq (at_ne_oa hK h (r := (RJx4a65c, TJx4a65c, 3)) rfl b7a 0 rfl)⟩⟩
    · exact ⟨h0, Or.inr ⟨md, ed, cap, f, pe, at_o h1 oq (at_ne_oa hK h1 (r := (RJx4a65c, TJx4a65c, 3)) rfl b7a 0 rfl), at_o h2 oq (at_ne_aa hK h2 b7a 5 0 rfl rfl (by decide)), h3, h4, h5, fun i hi => ⟨(h6 i hi).1, hI (h6 i hi).2.1 (h6 i hi).2.2, (h6 i hi).2.2⟩⟩⟩
end MWS3
theorem dX4_ahead_0 : decode cX4_ahead 0 = .ok (.aload_n 0, 1) := by decide +kernel
theorem dX4_ahead_1 : decode cX4_ahead 1 = .ok (.iload_n 1, 1) := by decide +kernel
theorem dX4_ahead_2 : decode cX4_ahead 2 = .ok (.invokestatic 107, 3) := by decide +kernel
theorem dX4_ahead_5 : decode cX4_ahead 5 = .ok (.iconst 1, 1) := by decide +kernel
theorem dX4_ahead_6 : decode cX4_ahead 6 = .ok (.invokevirtual 110, 3) := by decide +kernel
theorem dX4_ahead_9 : decode cX4_ahead 9 = .ok (.ifCond .ne 40, 3) := by decide +kernel
theorem dX4_ahead_12 : decode cX4_ahead 12 = .ok (.aload_n 0, 1) := by decide +kernel
theorem dX4_ahead_13 : decode cX4_ahead 13 = .ok (.iload_n 2, 1) := by decide +kernel
theorem dX4_ahead_14 : decode cX4_ahead 14 = .ok (.invokestatic 100, 3) := by decide +kernel
theorem dX4_ahead_17 : decode cX4_ahead 17 = .ok (.iconst 2, 1) := by decide +kernel
theorem dX4_ahead_18 : decode cX4_ahead 18 = .ok (.invokevirtual 86, 3) := by decide +kernel
theorem dX4_ahead_21 : decode cX4_ahead 21 = .ok (.ifCond .ne 28, 3) := by decide +kernel
theorem dX4_ahead_24 : decode cX4_ahead 24 = .ok (.aload_n 0, 1) := by decide +kernel
theorem dX4_ahead_25 : decode cX4_ahead 25 = .ok (.aload_n 0, 1) := by decide +kernel
theorem dX4_ahead_26 : decode cX4_ahead 26 = .ok (.getfield 72, 3) := by decide +kernel
theorem dX4_ahead_29 : decode cX4_ahead 29 = .ok (.iload_n 1, 1) := by decide +kernel
theorem dX4_ahead_30 : decode cX4_ahead 30 = .ok (.aaload, 1) := by decide +kernel
theorem dX4_ahead_31 : decode cX4_ahead 31 = .ok (.arraylength, 1) := by decide +kernel
theorem dX4_ahead_32 : decode cX4_ahead 32 = .ok (.bipush 60, 2) := by decide +kernel
theorem dX4_ahead_34 : decode cX4_ahead 34 = .ok (.if_icmp .ne 7, 3) := by decide +kernel
theorem dX4_ahead_37 : decode cX4_ahead 37 = .ok (.iconst 1, 1) := by decide +kernel
theorem dX4_ahead_38 : decode cX4_ahead 38 = .ok (.goto 4, 3) := by decide +kernel
theorem dX4_ahead_41 : decode cX4_ahead 41 = .ok (.iconst 0, 1) := by decide +kernel
theorem dX4_ahead_42 : decode cX4_ahead 42 = .ok (.iconst 3, 1) := by decide +kernel
theorem dX4_ahead_43 : decode cX4_ahead 43 = .ok (.invokevirtual 86, 3) := by decide +kernel
theorem dX4_ahead_46 : decode cX4_ahead 46 = .ok (.ifCond .eq 5, 3) := by decide +kernel
theorem dX4_ahead_49 : decode cX4_ahead 49 = .ok (.iconst 0, 1) := by decide +kernel
theorem dX4_ahead_50 : decode cX4_ahead 50 = .ok (.ireturn, 1) := by decide +kernel
theorem dX4_ahead_51 : decode cX4_ahead 51 = .ok (.aload_n 0, 1) := by decide +kernel
theorem dX4_ahead_52 : decode cX4_ahead 52 = .ok (.iload_n 1, 1) := by decide +kernel
theorem dX4_ahead_53 : decode cX4_ahead 53 = .ok (.iconst 1, 1) := by decide +kernel
theorem dX4_ahead_54 : decode cX4_ahead 54 = .ok (.newarray .int, 2) := by decide +kernel
theorem dX4_ahead_56 : decode cX4_ahead 56 = .ok (.dup, 1) := by decide +kernel
theorem dX4_ahead_57 : decode cX4_ahead 57 = .ok (.iconst 0, 1) := by decide +kernel
theorem dX4_ahead_58 : decode cX4_ahead 58 = .ok (.getstatic 94, 3) := by decide +kernel
theorem dX4_ahead_61 : decode cX4_ahead 61 = .ok (.iload_n 2, 1) := by decide +kernel
theorem dX4_ahead_62 : decode cX4_ahead 62 = .ok (.iaload, 1) := by decide +kernel
theorem dX4_ahead_63 : decode cX4_ahead 63 = .ok (.iastore, 1) := by decide +kernel
theorem dX4_ahead_64 : decode cX4_ahead 64 = .ok (.aload_n 0, 1) := by decide +kernel
theorem dX4_ahead_65 : decode cX4_ahead 65 = .ok (.getfield 72, 3) := by decide +kernel
theorem dX4_ahead_68 : decode cX4_ahead 68 = .ok (.iload_n 1, 1) := by decide +kernel
theorem dX4_ahead_69 : decode cX4_ahead 69 = .ok (.aaload, 1) := by decide +kernel
theorem dX4_ahead_70 : decode cX4_ahead 70 = .ok (.invokestatic 103, 3) := by decide +kernel
theorem dX4_ahead_73 : decode cX4_ahead 73 = .ok (.invokevirtual 113, 3) := by decide +kernel
theorem dX4_ahead_76 : decode cX4_ahead 76 = .ok (.ireturn, 1) := by decide +kernel
theorem dX4_known_0 : decode cX4_known 0 = .ok (.aload_n 0, 1) := by decide +kernel
theorem dX4_known_1 : decode cX4_known 1 = .ok (.iload_n 1, 1) := by decide +kernel
theorem dX4_known_2 : decode cX4_known 2 = .ok (.invokestatic 107, 3) := by decide +kernel
theorem dX4_known_5 : decode cX4_known 5 = .ok (.iconst 1, 1) := by decide +kernel
theorem dX4_known_6 : decode cX4_known 6 = .ok (.invokevirtual 110, 3) := by decide +kernel
theorem dX4_known_9 : decode cX4_known 9 = .ok (.ifCond .ne 47, 3) := by decide +kernel
theorem dX4_known_12 : decode cX4_known 12 = .ok (.aload_n 0, 1) := by decide +kernel
theorem dX4_known_13 : decode cX4_known 13 = .ok (.iload_n 2, 1) := by decide +kernel
theorem dX4_known_14 : decode cX4_known 14 = .ok (.invokestatic 135, 3) := by decide +kernel
theorem dX4_known_17 : decode cX4_known 17 = .ok (.iconst 2, 1) := by decide +kernel
theorem dX4_known_18 : decode cX4_known 18 = .ok (.invokevirtual 86, 3) := by decide +kernel
theorem dX4_known_21 : decode cX4_known 21 = .ok (.ifCond .ne 35, 3) := by decide +kernel
theorem dX4_known_24 : decode cX4_known 24 = .ok (.aload_n 0, 1) := by decide +kernel
theorem dX4_known_25 : decode cX4_known 25 = .ok (.aload_n 0, 1) := by decide +kernel
theorem dX4_known_26 : decode cX4_known 26 = .ok (.getfield 72, 3) := by decide +kernel
theorem dX4_known_29 : decode cX4_known 29 = .ok (.iload_n 1, 1) := by decide +kernel
theorem dX4_known_30 : decode cX4_known 30 = .ok (.aaload, 1) := by decide +kernel
theorem dX4_known_31 : decode cX4_known 31 = .ok (.arraylength, 1) := by decide +kernel
theorem dX4_known_32 : decode cX4_known 32 = .ok (.getstatic 97, 3) := by decide +kernel
theorem dX4_known_35 : decode cX4_known 35 = .ok (.iload_n 2, 1) := by decide +kernel
theorem dX4_known_36 : decode cX4_known 36 = .ok (.aaload, 1) := by decide +kernel
theorem dX4_known_37 : decode cX4_known 37 = .ok (.arraylength, 1) := by decide +kernel
theorem dX4_known_38 : decode cX4_known 38 = .ok (.iadd, 1) := by decide +kernel
theorem dX4_known_39 : decode cX4_known 39 = .ok (.bipush 60, 2) := by decide +kernel
theorem dX4_known_41 : decode cX4_known 41 = .ok (.if_icmp .le 7, 3) := by decide +kernel
theorem dX4_known_44 : decode cX4_known 44 = .ok (.iconst 1, 1) := by decide +kernel
theorem dX4_known_45 : decode cX4_known 45 = .ok (.goto 4, 3) := by decide +kernel
theorem dX4_known_48 : decode cX4_known 48 = .ok (.iconst 0, 1) := by decide +kernel
theorem dX4_known_49 : decode cX4_known 49 = .ok (.iconst 3, 1) := by decide +kernel
theorem dX4_known_50 : decode cX4_known 50 = .ok (.invokevirtual 86, 3) := by decide +kernel
theorem dX4_known_53 : decode cX4_known 53 = .ok (.ifCond .eq 5, 3) := by decide +kernel
theorem dX4_known_56 : decode cX4_known 56 = .ok (.iconst 0, 1) := by decide +kernel
theorem dX4_known_57 : decode cX4_known 57 = .ok (.ireturn, 1) := by decide +kernel
theorem dX4_known_58 : decode cX4_known 58 = .ok (.aload_n 0, 1) := by decide +kernel
theorem dX4_known_59 : decode cX4_known 59 = .ok (.iload_n 1, 1) := by decide +kernel
theorem dX4_known_60 : decode cX4_known 60 = .ok (.aload_n 0, 1) := by decide +kernel
theorem dX4_known_61 : decode cX4_known 61 = .ok (.getfield 72, 3) := by decide +kernel
theorem dX4_known_64 : decode cX4_known 64 = .ok (.iload_n 1, 1) := by decide +kernel
theorem dX4_known_65 : decode cX4_known 65 = .ok (.aaload, 1) := by decide +kernel
theorem dX4_known_66 : decode cX4_known 66 = .ok (.getstatic 97, 3) := by decide +kernel
theorem dX4_known_69 : decode cX4_known 69 = .ok (.iload_n 2, 1) := by decide +kernel
theorem dX4_known_70 : decode cX4_known 70 = .ok (.aaload, 1) := by decide +kernel
theorem dX4_known_71 : decode cX4_known 71 = .ok (.invokestatic 103, 3) := by decide +kernel
theorem dX4_known_74 : decode cX4_known 74 = .ok (.invokevirtual 113, 3) := by decide +kernel
theorem dX4_known_77 : decode cX4_known 77 = .ok (.ireturn, 1) := by decide +kernel
theorem dX4_set_0 : decode cX4_set 0 = .ok (.aload_n 0, 1) := by decide +kernel
theorem dX4_set_1 : decode cX4_set 1 = .ok (.aload_n 0, 1) := by decide +kernel
theorem dX4_set_2 : decode cX4_set 2 = .ok (.iload_n 1, 1) := by decide +kernel
theorem dX4_set_3 : decode cX4_set 3 = .ok (.invokevirtual 138, 3) := by decide +kernel
theorem dX4_set_6 : decode cX4_set 6 = .ok (.iconst 1, 1) := by decide +kernel
theorem dX4_set_7 : decode cX4_set 7 = .ok (.invokevirtual 110, 3) := by decide +kernel
theorem dX4_set_10 : decode cX4_set 10 = .ok (.ifCond .ne 15, 3) := by decide +kernel
theorem dX4_set_13 : decode cX4_set 13 = .ok (.aload_n 0, 1) := by decide +kernel
theorem dX4_set_14 : decode cX4_set 14 = .ok (.iload_n 2, 1) := by decide +kernel
theorem dX4_set_15 : decode cX4_set 15 = .ok (.invokestatic 100, 3) := by decide +kernel
theorem dX4_set_18 : decode cX4_set 18 = .ok (.iconst 2, 1) := by decide +kernel
theorem dX4_set_19 : decode cX4_set 19 = .ok (.invokevirtual 86, 3) := by decide +kernel
theorem dX4_set_22 : decode cX4_set 22 = .ok (.ifCond .eq 5, 3) := by decide +kernel
theorem dX4_set_25 : decode cX4_set 25 = .ok (.iconst 0, 1) := by decide +kernel
theorem dX4_set_26 : decode cX4_set 26 = .ok (.ireturn, 1) := by decide +kernel
theorem dX4_set_27 : decode cX4_set 27 = .ok (.aload_n 0, 1) := by decide +kernel
theorem dX4_set_28 : decode cX4_set 28 = .ok (.getfield 75, 3) := by decide +kernel
theorem dX4_set_31 : decode cX4_set 31 = .ok (.iload_n 1, 1) := by decide +kernel
theorem dX4_set_32 : decode cX4_set 32 = .ok (.iaload, 1) := by decide +kernel
theorem dX4_set_33 : decode cX4_set 33 = .ok (.istore_n 3, 1) := by decide +kernel
theorem dX4_set_34 : decode cX4_set 34 = .ok (.aload_n 0, 1) := by decide +kernel
theorem dX4_set_35 : decode cX4_set 35 = .ok (.getfield 75, 3) := by decide +kernel
theorem dX4_set_38 : decode cX4_set 38 = .ok (.iload_n 1, 1) := by decide +kernel
theorem dX4_set_39 : decode cX4_set 39 = .ok (.getstatic 94, 3) := by decide +kernel
theorem dX4_set_42 : decode cX4_set 42 = .ok (.iload_n 2, 1) := by decide +kernel
theorem dX4_set_43 : decode cX4_set 43 = .ok (.iaload, 1) := by decide +kernel
theorem dX4_set_44 : decode cX4_set 44 = .ok (.iastore, 1) := by decide +kernel
theorem dX4_set_45 : decode cX4_set 45 = .ok (.iload_n 3, 1) := by decide +kernel
theorem dX4_set_46 : decode cX4_set 46 = .ok (.ireturn, 1) := by decide +kernel
theorem dX4_rowAt_0 : decode cX4_rowAt 0 = .ok (.aload_n 0, 1) := by decide +kernel
theorem dX4_rowAt_1 : decode cX4_rowAt 1 = .ok (.aload_n 0, 1) := by decide +kernel
theorem dX4_rowAt_2 : decode cX4_rowAt 2 = .ok (.iload_n 1, 1) := by decide +kernel
theorem dX4_rowAt_3 : decode cX4_rowAt 3 = .ok (.invokevirtual 138, 3) := by decide +kernel
theorem dX4_rowAt_6 : decode cX4_rowAt 6 = .ok (.iconst 1, 1) := by decide +kernel
theorem dX4_rowAt_7 : decode cX4_rowAt 7 = .ok (.invokevirtual 110, 3) := by decide +kernel
theorem dX4_rowAt_10 : decode cX4_rowAt 10 = .ok (.ifCond .eq 7, 3) := by decide +kernel
theorem dX4_rowAt_13 : decode cX4_rowAt 13 = .ok (.iconst 0, 1) := by decide +kernel
theorem dX4_rowAt_14 : decode cX4_rowAt 14 = .ok (.goto 9, 3) := by decide +kernel
theorem dX4_rowAt_17 : decode cX4_rowAt 17 = .ok (.aload_n 0, 1) := by decide +kernel
theorem dX4_rowAt_18 : decode cX4_rowAt 18 = .ok (.getfield 75, 3) := by decide +kernel
theorem dX4_rowAt_21 : decode cX4_rowAt 21 = .ok (.iload_n 1, 1) := by decide +kernel
theorem dX4_rowAt_22 : decode cX4_rowAt 22 = .ok (.iaload, 1) := by decide +kernel
theorem dX4_rowAt_23 : decode cX4_rowAt 23 = .ok (.ireturn, 1) := by decide +kernel
abbrev rmX4_set : Room := { frames := 3, cells := 0, slots := 0, locals := 64 }
theorem mX4_set {l : Launch} {G : Cx} {A : Nat → Prop} {am xa : Nat} {X : Nat → List Nat} {P : List (List Nat)} {k : Int32} {x y th : Int32} : Met l yX4_set (.code yX4_set cX4_set 4 (some .int) :: GW) rmX4_set (PC G A [.ref am, .int x, .int y] (MW G A am xa X P k th)) (qI A (fun r H => ((¬ ∃ a9 : Nat, a9 < (X 11).length ∧ x = nI a9) ∧ r = 0 ∧ MW G A am xa X P k 1 H) ∨ (((∃ a9 : Nat, a9 < (X 11).length ∧ x = nI a9) ∧ NS y) ∧ r = 0 ∧ MW G A am xa X P k 2 H) ∨ ∃ a9 j : Nat, a9 < (X 11).length ∧ x = nI a9 ∧ j < 24 ∧ y = nI j ∧ r = nI ((X 11).getD a9 0) ∧ MW G A am xa (updT X 11 ((X 11).set a9 (codeT.getD j 0))) P k 0 H)) 0 0 (A) := by
  refine mstart "SigntextModel" (by decide +kernel) rfl (Nat.le_of_ble_eq_true rfl) ?_
  intro p e s m below meth c ls hx hb hr hts hown hml hlocks hname hC hA hW hl
  have hl : lv_has ls 4 [(0, .ref am), (1, .int x), (2, .int y)] := hl
  have hK := hC.1
  have hS : va_S A s.heap s.heap [] := va_S.rf
  obtain ⟨ra, pa, tx, hW⟩ := hW
  have hO := hW.obj
  have hAm := hW.1
  obtain ⟨-, -, zc3, zc4, zc5, zc6, zc7, -⟩ := hC.2.2.1
  refine lv_aload_n hx hb dX4_set_0 rfl (lv_at hl 0 rfl) ?_
  refine lv_aload_n hx hb dX4_set_1 rfl (lv_at hl 0 rfl) ?_
  refine lv_iload_n hx hb dX4_set_2 rfl (lv_at hl 1 rfl) ?_
  refine kV_i (A := A) (b := am) (As := [.int x]) (rest := .ref am :: []) ⟨hx, hb, hml, hown, hts⟩ (mX4_isNoPlace (A := A) (xa := xa) (X := X) (P := P) (k := k)) (cwV 1 hts (gV tw_5_66 tw_5_68 sel_X4_isNoPlace tw_1_8 tw_5_69) rfl rfl rfl (by decide +kernel) ⟨Nat.le_of_ble_eq_true rfl, Nat.le_of_ble_eq_true rfl⟩) hC hS hA (hW.recv hK) ⟨ra, pa, tx, hW⟩ rfl rfl hl.1 (Nat.le_of_ble_eq_true rfl) ⟨Nat.zero_le _, Nat.zero_le _⟩ dX4_set_3 (fun r_1 hr_1 => ?_)
  obtain ⟨r_1v, hr_1v, rfl⟩ := hr_1
  refine lv_iconst (v := nI 1) hx hb dX4_set_6 (by decide) ?_
  cases r_1v
  · obtain ⟨a9, ha9, rfl⟩ : ∃ a9 : Nat, a9 < (X 11).length ∧ x = nI a9 := Classical.byContradiction (fun q => Bool.noConfusion (hr_1v.mpr q))
    refine qI_V (A := A) (A1 := A) (b := am) (As := [.int (bI false), .int (nI 1)]) (rest := []) ⟨hx, hb, hml, hown, hts⟩ (mX4_start (A := A) (X := X) (P := P) (k := k) (xa := xa) (b := false) (w9 := 1) (by decide)) (cwV 2 hts (gV tw_4_206 tw_4_208 sel_X4_start tw_1_8 tw_4_209) rfl rfl rfl (by decide +kernel) ⟨Nat.le_of_ble_eq_true rfl, Nat.le_of_ble_eq_true rfl⟩) hC hS (fun _ h => h) (fun q h => hA q (Nat.le_trans hS.1 h)) (hW.recv hK) ⟨ra, pa, tx, hW⟩ rfl rfl hl.1 (Nat.le_of_ble_eq_true rfl) ⟨Nat.zero_le _, Nat.zero_le _⟩ dX4_set_7 (fun rv2 H2 L2 hP2 hk2 hS => ?_)
    have hZ2 := hS.1
    obtain ⟨hr2, hM2⟩ := hP2
    subst hr2
    obtain ⟨ra, pa, tx, hW⟩ := hM2
    have hW : MWx G A am xa ra pa tx X P k (nI 0) H2 := hW
    have hO := hW.obj
    have hAm := hW.1
    refine f_ne (tgt := 25) hx hb dX4_set_10 (by decide) (fun c_3 => ?_) (fun c_3 => ?_)
    · exact absurd c_3 (by decide)
    · refine lv_aload_n hx hb dX4_set_13 rfl (lv_at hl 0 rfl) ?_
      refine lv_iload_n hx hb dX4_set_14 rfl (lv_at hl 2 rfl) ?_
      have x11 := hW.2.2.1 11 (Or.inr rfl)
      have r60 := x11.2
      refine kS_i (A := A) (As := [.int y]) (rest := .ref am :: []) ⟨hx, hb, hml, hown, hts⟩ (mX4_isNoSign (A := A) ) (va_cwS 1 hts (gS tw_4_192 tw_4_193 tw_1_8 tw_4_194) rfl rfl rfl (by decide +kernel) ⟨Nat.le_of_ble_eq_true rfl, Nat.le_of_ble_eq_true rfl⟩) hC hS hA  trivial rfl rfl hl.1 (Nat.le_of_ble_eq_true rfl) ⟨Nat.zero_le _, Nat.zero_le _⟩ dX4_set_15 (fun r_4 hr_4 => ?_)
      obtain ⟨r_4v, hr_4v, rfl⟩ := hr_4
      refine lv_iconst (v := nI 2) hx hb dX4_set_18 (by decide) ?_
      cases r_4v
      · obtain ⟨j, hj, rfl⟩ : ∃ j : Nat, j < 24 ∧ y = nI j := Classical.byContradiction (fun q => Bool.noConfusion (hr_4v.mpr q))
        refine qI_V (A := A) (A1 := A) (b := am) (As := [.int (bI false), .int (nI 2)]) (rest := []) ⟨hx, hb, hml, hown, hts⟩ (mX4_refuse (A := A) (X := X) (P := P) (k := k) (xa := xa) (b := false) (th := 0) (w9 := 2) (by decide) (by decide)) (cwV 2 hts (gV tw_4_210 tw_4_212 sel_X4_refuse tw_1_8 tw_4_213) rfl rfl rfl (by decide +kernel) ⟨Nat.le_of_ble_eq_true rfl, Nat.le_of_ble_eq_true rfl⟩) hC hS (fun _ h => h) (fun q h => hA q (Nat.le_trans hS.1 h)) (hW.recv hK) ⟨ra, pa, tx, hW⟩ rfl rfl hl.1 (Nat.le_of_ble_eq_true rfl) ⟨Nat.zero_le _, Nat.zero_le _⟩ dX4_set_19 (fun rv5 H5 L5 hP5 hk5 hS => ?_)
        have hZ5 := hS.1
        obtain ⟨hr5, hM5⟩ := hP5
        subst hr5
        obtain ⟨ra, pa, tx, hW⟩ := hM5
        have hW : MWx G A am xa ra pa tx X P k (nI 0) H5 := hW
        have hO := hW.obj
        have hAm := hW.1
        refine f_eq (tgt := 27) hx hb dX4_set_22 (by decide) (fun c_6 => ?_) (fun c_6 => ?_)
        · obtain ⟨f0, hRf, hf0⟩ := hW.row
          refine lv_aload_n hx hb dX4_set_27 rfl (lv_at hl 0 rfl) ?_
          refine va_get (D := G.1) (ci := 8) (C := RX4) (T := TX4) (N := 5) hx hb hts inX4 hown hK (at_P hO) 0 rfl rfl 2 (by decide) (hts _ tw_4_174) (fun _ h9 => h9) rfl dX4_set_28 ?_
          refine lv_iload_n hx hb dX4_set_31 rfl (lv_at hl 1 rfl) ?_
          refine va_iald hx hb hK (at_P hRf) 0 0 rfl rfl (vp_in_nI (n := a9) (N := (X 11).length) (by omega) (by omega)) dX4_set_32 ?_
          refine lv_cv (show _ = nI ((X 11).getD a9 0) from by rw [nI_clamp (by omega)]; exact hf0 _ (by omega)) ?_
          refine lv_istore_n (lv' := [(3, .int (nI ((X 11).getD a9 0))), (0, .ref am), (1, .int (nI a9)), (2, .int (nI j))]) hx hb dX4_set_33 rfl hl (by decide) rfl (fun ls hl => ?_)
          refine lv_aload_n hx hb dX4_set_34 rfl (lv_at hl 1 rfl) ?_
          refine va_get (D := G.1) (ci := 8) (C := RX4) (T := TX4) (N := 5) hx hb hts inX4 hown hK (at_P hO) 0 rfl rfl 2 (by decide) (hts _ tw_4_174) (fun _ h9 => h9) rfl dX4_set_35 ?_
          refine lv_iload_n hx hb dX4_set_38 rfl (lv_at hl 2 rfl) ?_
          refine va_gets (v := .ref (G.2.2 1)) hx hb zc3 hS hown (hts _ tw_4_195) (fun _ h9 => h9) dX4_set_39 ?_
          refine lv_iload_n hx hb dX4_set_42 rfl (lv_at hl 3 rfl) ?_
          refine va_ti (v := .int (nI (codeT.getD j 0))) hx hb zc4 hS (vp_in_nI (n := j) (N := 24) (by omega) (by omega)) (by rw [nI_clamp (n := j) (by omega)]) dX4_set_43 ?_
          refine h_ist (D := G.1) hx hb hK 0 hRf rfl hS hW.2.2.2.2.1 (vp_in_nI (n := a9) (N := (X 11).length) (by omega) (by omega)) dX4_set_44 (fun H7 L7 hRf z7 o7 hS => ?_)
          rw [nI_clamp (n := a9) (by omega)] at hRf
          have hZ7 := hS.1
          have hR2 : IA0 G ra ((X 11).set a9 (codeT.getD j 0)) H7 := IA0.mk hRf (by rw [List.length_set]) (fun q hq => by by_cases e9 : q = a9; rw [e9, pk_us, set_getD_s ha9]; rw [pk_un e9, set_getD_n e9]; exact hf0 q hq)
          have hW := hW.set hK (okc_set x11.1 (codeT_lt j)) (by rw [List.length_set]; exact x11.2) hR2 o7
          refine lv_iload_n hx hb dX4_set_45 rfl (lv_at hl 0 rfl) ?_
          exact q_i hx hb hr hlocks dX4_set_46 hS (Nat.le_refl _) (Nat.le_refl _) (Or.inr (Or.inr (⟨a9, j, ha9, rfl, hj, rfl, rfl, ra, pa, tx, hW⟩)))
        · exact absurd c_6 (by decide)
      · refine qI_V (A := A) (A1 := A) (b := am) (As := [.int (bI true), .int (nI 2)]) (rest := []) ⟨hx, hb, hml, hown, hts⟩ (mX4_refuse (A := A) (X := X) (P := P) (k := k) (xa := xa) (b := true) (th := 0) (w9 := 2) (by decide) (by decide)) (cwV 2 hts (gV tw_4_210 tw_4_212 sel_X4_refuse tw_1_8 tw_4_213) rfl rfl rfl (by decide +kernel) ⟨Nat.le_of_ble_eq_true rfl, Nat.le_of_ble_eq_true rfl⟩) hC hS (fun _ h => h) (fun q h => hA q (Nat.le_trans hS.1 h)) (hW.recv hK) ⟨ra, pa, tx, hW⟩ rfl rfl hl.1 (Nat.le_of_ble_eq_true rfl) ⟨Nat.zero_le _, Nat.zero_le _⟩ dX4_set_19 (fun rv8 H8 L8 hP8 hk8 hS => ?_)
        have hZ8 := hS.1
        obtain ⟨hr8, hM8⟩ := hP8
        subst hr8
        obtain ⟨ra, pa, tx, hW⟩ := hM8
        have hW : MWx G A am xa ra pa tx X P k (nI 2) H8 := hW
        have hO := hW.obj
        have hAm := hW.1
        refine f_eq (tgt := 27) hx hb dX4_set_22 (by decide) (fun c_9 => ?_) (fun c_9 => ?_)
        · exact absurd c_9 (by decide)
        · refine lv_iconst (v := nI 0) hx hb dX4_set_25 (by decide) ?_
          exact q_i hx hb hr hlocks dX4_set_26 hS (Nat.le_refl _) (Nat.le_refl _) (Or.inr (Or.inl ⟨⟨⟨a9, ha9, rfl⟩, (hr_4v.mp rfl)⟩, rfl, ra, pa, tx, hW⟩))
  · refine qI_V (A := A) (A1 := A) (b := am) (As := [.int (bI true), .int (nI 1)]) (rest := []) ⟨hx, hb, hml, hown, hts⟩ (mX4_start (A := A) (X := X) (P := P) (k := k) (xa := xa) (b := true) (w9 := 1) (by decide)) (cwV 2 hts (gV tw_4_206 tw_4_208 sel_X4_start tw_1_8 tw_4_209) rfl rfl rfl (by decide +kernel) ⟨Nat.le_of_ble_eq_true rfl, Nat.le_of_ble_eq_true rfl⟩) hC hS (fun _ h => h) (fun q h => hA q (Nat.le_trans hS.1 h)) (hW.recv hK) ⟨ra, pa, tx, hW⟩ rfl rfl hl.1 (Nat.le_of_ble_eq_true rfl) ⟨Nat.zero_le _, Nat.zero_le _⟩ dX4_set_7 (fun rv10 H10 L10 hP10 hk10 hS => ?_)
    have hZ10 := hS.1
    obtain ⟨hr10, hM10⟩ := hP10
    subst hr10
    obtain ⟨ra, pa, tx, hW⟩ := hM10
    have hW : MWx G A am xa ra pa tx X P k (nI 1) H10 := hW
    have hO := hW.obj
    have hAm := hW.1
    refine f_ne (tgt := 25) hx hb dX4_set_10 (by decide) (fun c_11 => ?_) (fun c_11 => ?_)
    · refine lv_iconst (v := nI 0) hx hb dX4_set_25 (by decide) ?_
      exact q_i hx hb hr hlocks dX4_set_26 hS (Nat.le_refl _) (Nat.le_refl _) (Or.inl ⟨(hr_1v.mp rfl), rfl, ra, pa, tx, hW⟩)
    · exact absurd c_11 (by decide)

abbrev rmX4_rowAt : Room := { frames := 3, cells := 0, slots := 0, locals := 64 }
theorem mX4_rowAt {l : Launch} {G : Cx} {A : Nat → Prop} {am xa : Nat} {X : Nat → List Nat} {P : List (List Nat)} {k : Int32} {x th : Int32} : Met l yX4_rowAt (.code yX4_rowAt cX4_rowAt 2 (some .int) :: GW) rmX4_rowAt (PC G A [.ref am, .int x] (MW G A am xa X P k th)) (qI A (fun r H => ((¬ ∃ a9 : Nat, a9 < (X 11).length ∧ x = nI a9) ∧ r = 0 ∧ MW G A am xa X P k 1 H) ∨ ∃ a9 : Nat, a9 < (X 11).length ∧ x = nI a9 ∧ r = nI ((X 11).getD a9 0) ∧ MW G A am xa X P k 0 H)) 0 0 (A) := by
  refine mstart "SigntextModel" (by decide +kernel) rfl (Nat.le_of_ble_eq_true rfl) ?_
  intro p e s m below meth c ls hx hb hr hts hown hml hlocks hname hC hA hW hl
  have hl : lv_has ls 2 [(0, .ref am), (1, .int x)] := hl
  have hK := hC.1
  have hS : va_S A s.heap s.heap [] := va_S.rf
  obtain ⟨ra, pa, tx, hW⟩ := hW
  have hO := hW.obj
  have hAm := hW.1
  refine lv_aload_n hx hb dX4_rowAt_0 rfl (lv_at hl 0 rfl) ?_
  refine lv_aload_n hx hb dX4_rowAt_1 rfl (lv_at hl 0 rfl) ?_
  refine lv_iload_n hx hb dX4_rowAt_2 rfl (lv_at hl 1 rfl) ?_
  refine kV_i (A := A) (b := am) (As := [.int x]) (rest := .ref am :: []) ⟨hx, hb, hml, hown, hts⟩ (mX4_isNoPlace (A := A) (xa := xa) (X := X) (P := P) (k := k)) (cwV 1 hts (gV tw_5_66 tw_5_68 sel_X4_isNoPlace tw_1_8 tw_5_69) rfl rfl rfl (by decide +kernel) ⟨Nat.le_of_ble_eq_true rfl, Nat.le_of_ble_eq_true rfl⟩) hC hS hA (hW.recv hK) ⟨ra, pa, tx, hW⟩ rfl rfl hl.1 (Nat.le_of_ble_eq_true rfl) ⟨Nat.zero_le _, Nat.zero_le _⟩ dX4_rowAt_3 (fun r_12 hr_12 => ?_)
  obtain ⟨r_12v, hr_12v, rfl⟩ := hr_12
  refine lv_iconst (v := nI 1) hx hb dX4_rowAt_6 (by decide) ?_
  cases r_12v
  · obtain ⟨a9, ha9, rfl⟩ : ∃ a9 : Nat, a9 < (X 11).length ∧ x = nI a9 := Classical.byContradiction (fun q => Bool.noConfusion (hr_12v.mpr q))
    refine qI_V (A := A) (A1 := A) (b := am) (As := [.int (bI false), .int (nI 1)]) (rest := []) ⟨hx, hb, hml, hown, hts⟩ (mX4_start (A := A) (X := X) (P := P) (k := k) (xa := xa) (b := false) (w9 := 1) (by decide)) (cwV 2 hts (gV tw_4_206 tw_4_208 sel_X4_start tw_1_8 tw_4_209) rfl rfl rfl (by decide +kernel) ⟨Nat.le_of_ble_eq_true rfl, Nat.le_of_ble_eq_true rfl⟩) hC hS (fun _ h => h) (fun q h => hA q (Nat.le_trans hS.1 h)) (hW.recv hK) ⟨ra, pa, tx, hW⟩ rfl rfl hl.1 (Nat.le_of_ble_eq_true rfl) ⟨Nat.zero_le _, Nat.zero_le _⟩ dX4_rowAt_7 (fun rv13 H13 L13 hP13 hk13 hS => ?_)
    have hZ13 := hS.1
    obtain ⟨hr13, hM13⟩ := hP13
    subst hr13
    obtain ⟨ra, pa, tx, hW⟩ := hM13
    have hW : MWx G A am xa ra pa tx X P k (nI 0) H13 := hW
    have hO := hW.obj
    have hAm := hW.1
    refine f_eq (tgt := 17) hx hb dX4_rowAt_10 (by decide) (fun c_14 => ?_) (fun c_14 => ?_)
    · have hR1 := hW.row.ia hC.2.1.2
      have x11 := hW.2.2.1 11 (Or.inr rfl)
      have r60 := x11.2
      refine lv_aload_n hx hb dX4_rowAt_17 rfl (lv_at hl 0 rfl) ?_
      refine va_get (D := G.1) (ci := 8) (C := RX4) (T := TX4) (N := 5) hx hb hts inX4 hown hK (at_P hO) 0 rfl rfl 2 (by decide) (hts _ tw_4_174) (fun _ h9 => h9) rfl dX4_rowAt_18 ?_
      refine lv_iload_n hx hb dX4_rowAt_21 rfl (lv_at hl 1 rfl) ?_
      refine h_ild hx hb hC.2.1 hR1 (i := a9) (by omega) (by omega) dX4_rowAt_22 ?_
      exact q_i hx hb hr hlocks dX4_rowAt_23 hS (Nat.le_refl _) (Nat.le_refl _) (Or.inr (⟨a9, ha9, rfl, rfl, ra, pa, tx, hW⟩))
    · exact absurd c_14 (by decide)
  · refine qI_V (A := A) (A1 := A) (b := am) (As := [.int (bI true), .int (nI 1)]) (rest := []) ⟨hx, hb, hml, hown, hts⟩ (mX4_start (A := A) (X := X) (P := P) (k := k) (xa := xa) (b := true) (w9 := 1) (by decide)) (cwV 2 hts (gV tw_4_206 tw_4_208 sel_X4_start tw_1_8 tw_4_209) rfl rfl rfl (by decide +kernel) ⟨Nat.le_of_ble_eq_true rfl, Nat.le_of_ble_eq_true rfl⟩) hC hS (fun _ h => h) (fun q h => hA q (Nat.le_trans hS.1 h)) (hW.recv hK) ⟨ra, pa, tx, hW⟩ rfl rfl hl.1 (Nat.le_of_ble_eq_true rfl) ⟨Nat.zero_le _, Nat.zero_le _⟩ dX4_rowAt_7 (fun rv15 H15 L15 hP15 hk15 hS => ?_)
    have hZ15 := hS.1
    obtain ⟨hr15, hM15⟩ := hP15
    subst hr15
    obtain ⟨ra, pa, tx, hW⟩ := hM15
    have hW : MWx G A am xa ra pa tx X P k (nI 1) H15 := hW
    have hO := hW.obj
    have hAm := hW.1
    refine f_eq (tgt := 17) hx hb dX4_rowAt_10 (by decide) (fun c_16 => ?_) (fun c_16 => ?_)
    · exact absurd c_16 (by decide)
    · refine lv_iconst (v := nI 0) hx hb dX4_rowAt_13 (by decide) ?_
      refine lv_goto (tgt := 23) hx hb dX4_rowAt_14 (by decide) ?_
      exact q_i hx hb hr hlocks dX4_rowAt_23 hS (Nat.le_refl _) (Nat.le_refl _) (Or.inl ⟨(hr_12v.mp rfl), rfl, ra, pa, tx, hW⟩)

abbrev rmX4_known : Room := { frames := 3, cells := 1, slots := 61, locals := 64 }
theorem mX4_known {l : Launch} {G : Cx} {A : Nat → Prop} {am xa : Nat} {X : Nat → List Nat} {P : List (List Nat)} {k : Int32} {x y th : Int32} : Met l yX4_known (.code yX4_known cX4_known 3 (some .int) :: GW) rmX4_known (PC G A [.ref am, .int x, .int y] (MW G A am xa X P k th)) (qI A (fun r H => ((NT x) ∧ r = 0 ∧ MW G A am xa X P k 1 H) ∨ (((∃ i : Nat, i < 4 ∧ x = nI i) ∧ NK y) ∧ r = 0 ∧ MW G A am xa X P k 2 H) ∨ ((∃ i j : Nat, i < 4 ∧ x = nI i ∧ j < 7 ∧ y = nI j ∧ 60 < (X i ++ knT j).length) ∧ r = 0 ∧ MW G A am xa X P k 3 H) ∨ ∃ i j : Nat, i < 4 ∧ x = nI i ∧ j < 7 ∧ y = nI j ∧ (X i ++ knT j).length ≤ 60 ∧ r = nI (X i ++ knT j).length ∧ MW G A am xa (updT X i (X i ++ knT j)) P k 0 H)) 1 61 (A) := by
  refine mstart "SigntextModel" (by decide +kernel) rfl (Nat.le_of_ble_eq_true rfl) ?_
  intro p e s m below meth c ls hx hb hr hts hown hml hlocks hname hC hA hW hl
  have hl : lv_has ls 3 [(0, .ref am), (1, .int x), (2, .int y)] := hl
  have hK := hC.1
  have hS : va_S A s.heap s.heap [] := va_S.rf
  obtain ⟨ra, pa, tx, hW⟩ := hW
  have hO := hW.obj
  have hAm := hW.1
  obtain ⟨-, -, zc3, zc4, zc5, zc6, zc7, -⟩ := hC.2.2.1
  refine lv_aload_n hx hb dX4_known_0 rfl (lv_at hl 0 rfl) ?_
  refine lv_iload_n hx hb dX4_known_1 rfl (lv_at hl 1 rfl) ?_
  refine kS_i (A := A) (As := [.int x]) (rest := .ref am :: []) ⟨hx, hb, hml, hown, hts⟩ (mX4_isNone (A := A) ) (va_cwS 1 hts (gS tw_4_203 tw_4_204 tw_1_8 tw_4_205) rfl rfl rfl (by decide +kernel) ⟨Nat.le_of_ble_eq_true rfl, Nat.le_of_ble_eq_true rfl⟩) hC hS hA  trivial rfl rfl hl.1 (Nat.le_of_ble_eq_true rfl) ⟨Nat.zero_le _, Nat.zero_le _⟩ dX4_known_2 (fun r_17 hr_17 => ?_)
  obtain ⟨r_17v, hr_17v, rfl⟩ := hr_17
  refine lv_iconst (v := nI 1) hx hb dX4_known_5 (by decide) ?_
  cases r_17v
  · obtain ⟨i, hi, rfl⟩ : ∃ i : Nat, i < 4 ∧ x = nI i := Classical.byContradiction (fun q => Bool.noConfusion (hr_17v.mpr q))
    refine qI_V (A := A) (A1 := A) (b := am) (As := [.int (bI false), .int (nI 1)]) (rest := []) ⟨hx, hb, hml, hown, hts⟩ (mX4_start (A := A) (X := X) (P := P) (k := k) (xa := xa) (b := false) (w9 := 1) (by decide)) (cwV 2 hts (gV tw_4_206 tw_4_208 sel_X4_start tw_1_8 tw_4_209) rfl rfl rfl (by decide +kernel) ⟨Nat.le_of_ble_eq_true rfl, Nat.le_of_ble_eq_true rfl⟩) hC hS (fun _ h => h) (fun q h => hA q (Nat.le_trans hS.1 h)) (hW.recv hK) ⟨ra, pa, tx, hW⟩ rfl rfl hl.1 (Nat.le_of_ble_eq_true rfl) ⟨Nat.zero_le _, Nat.zero_le _⟩ dX4_known_6 (fun rv18 H18 L18 hP18 hk18 hS => ?_)
    have hZ18 := hS.1
    obtain ⟨hr18, hM18⟩ := hP18
    subst hr18
    obtain ⟨ra, pa, tx, hW⟩ := hM18
    have hW : MWx G A am xa ra pa tx X P k (nI 0) H18 := hW
    have hO := hW.obj
    have hAm := hW.1
    refine f_ne (tgt := 56) hx hb dX4_known_9 (by decide) (fun c_19 => ?_) (fun c_19 => ?_)
    · exact absurd c_19 (by decide)
    · refine lv_aload_n hx hb dX4_known_12 rfl (lv_at hl 0 rfl) ?_
      refine lv_iload_n hx hb dX4_known_13 rfl (lv_at hl 2 rfl) ?_
      refine kS_i (A := A) (As := [.int y]) (rest := .ref am :: []) ⟨hx, hb, hml, hown, hts⟩ (mX4_isNoKnown (A := A) ) (va_cwS 1 hts (gS tw_5_53 tw_5_54 tw_1_8 tw_5_55) rfl rfl rfl (by decide +kernel) ⟨Nat.le_of_ble_eq_true rfl, Nat.le_of_ble_eq_true rfl⟩) hC hS hA  trivial rfl rfl hl.1 (Nat.le_of_ble_eq_true rfl) ⟨Nat.zero_le _, Nat.zero_le _⟩ dX4_known_14 (fun r_20 hr_20 => ?_)
      obtain ⟨r_20v, hr_20v, rfl⟩ := hr_20
      refine lv_iconst (v := nI 2) hx hb dX4_known_17 (by decide) ?_
      cases r_20v
      · obtain ⟨j, hj, rfl⟩ : ∃ j : Nat, j < 7 ∧ y = nI j := Classical.byContradiction (fun q => Bool.noConfusion (hr_20v.mpr q))
        refine qI_V (A := A) (A1 := A) (b := am) (As := [.int (bI false), .int (nI 2)]) (rest := []) ⟨hx, hb, hml, hown, hts⟩ (mX4_refuse (A := A) (X := X) (P := P) (k := k) (xa := xa) (b := false) (th := 0) (w9 := 2) (by decide) (by decide)) (cwV 2 hts (gV tw_4_210 tw_4_212 sel_X4_refuse tw_1_8 tw_4_213) rfl rfl rfl (by decide +kernel) ⟨Nat.le_of_ble_eq_true rfl, Nat.le_of_ble_eq_true rfl⟩) hC hS (fun _ h => h) (fun q h => hA q (Nat.le_trans hS.1 h)) (hW.recv hK) ⟨ra, pa, tx, hW⟩ rfl rfl hl.1 (Nat.le_of_ble_eq_true rfl) ⟨Nat.zero_le _, Nat.zero_le _⟩ dX4_known_18 (fun rv21 H21 L21 hP21 hk21 hS => ?_)
        have hZ21 := hS.1
        obtain ⟨hr21, hM21⟩ := hP21
        subst hr21
        obtain ⟨ra, pa, tx, hW⟩ := hM21
        have hW : MWx G A am xa ra pa tx X P k (nI 0) H21 := hW
        have hO := hW.obj
        have hAm := hW.1
        refine f_ne (tgt := 56) hx hb dX4_known_21 (by decide) (fun c_22 => ?_) (fun c_22 => ?_)
        · exact absurd c_22 (by decide)
        · refine lv_aload_n hx hb dX4_known_24 rfl (lv_at hl 0 rfl) ?_
          refine lv_aload_n hx hb dX4_known_25 rfl (lv_at hl 0 rfl) ?_
          refine va_get (D := G.1) (ci := 8) (C := RX4) (T := TX4) (N := 5) hx hb hts inX4 hown hK (at_P hO) 0 rfl rfl 1 (by decide) (hts _ tw_4_173) (fun _ h9 => h9) rfl dX4_known_26 ?_
          refine lv_iload_n hx hb dX4_known_29 rfl (lv_at hl 1 rfl) ?_
          refine h_aaldI (D := G.1) hx hb hK 4 hW.txs rfl (vp_in_nI (n := i) (N := 4) (by omega) (by omega)) dX4_known_30 ?_
          refine v_cv (show va_rf _ = .ref (tx i) from by rw [nI_clamp (n := i) (by omega)]; rfl) ?_
          have hTi := (hW.tx (j := i) (by omega)).ia hC.2.1.2
          have x60i := hW.2.2.1 i (Or.inl (by omega))
          have hKnj := (zc7 j hj).1.at' (hS.2.1 _ (zc7 j hj).1.lt (zc7 j hj).2)
          have k4j := knT_le (i := j) hj
          have i60 := x60i.2
          have la := List.length_append (as := X i) (bs := knT j)
          refine h_ilen hx hb hC.2.1 hTi dX4_known_31 ?_
          refine va_gets (v := .ref (G.2.2 2)) hx hb zc5 hS hown (hts _ tw_5_56) (fun _ h9 => h9) dX4_known_32 ?_
          refine lv_iload_n hx hb dX4_known_35 rfl (lv_at hl 2 rfl) ?_
          refine h_aaTI (v := .ref (G.2.2 (3 + j))) hx hb zc6 hS (vp_in_nI (n := j) (N := 7) (by omega) (by omega)) (by rw [nI_clamp (n := j) (by omega)]) dX4_known_36 ?_
          refine h_ilen hx hb hC.2.1 hKnj dX4_known_37 ?_
          refine lv_iadd hx hb dX4_known_38 ?_
          refine lv_cv (nI_add ((X i).length) ((knT j).length)) ?_
          refine lv_bipush (v := nI 60) hx hb dX4_known_39 (by decide) ?_
          refine b_le (tgt := 48) hx hb dX4_known_41 (by decide) (by omega) (by omega) (fun c_23 => ?_) (fun c_23 => ?_)
          · refine lv_iconst (v := nI 0) hx hb dX4_known_48 (by decide) ?_
            refine lv_iconst (v := nI 3) hx hb dX4_known_49 (by decide) ?_
            refine qI_V (A := A) (A1 := A) (b := am) (As := [.int (bI false), .int (nI 3)]) (rest := []) ⟨hx, hb, hml, hown, hts⟩ (mX4_refuse (A := A) (X := X) (P := P) (k := k) (xa := xa) (b := false) (th := 0) (w9 := 3) (by decide) (by decide)) (cwV 2 hts (gV tw_4_210 tw_4_212 sel_X4_refuse tw_1_8 tw_4_213) rfl rfl rfl (by decide +kernel) ⟨Nat.le_of_ble_eq_true rfl, Nat.le_of_ble_eq_true rfl⟩) hC hS (fun _ h => h) (fun q h => hA q (Nat.le_trans hS.1 h)) (hW.recv hK) ⟨ra, pa, tx, hW⟩ rfl rfl hl.1 (Nat.le_of_ble_eq_true rfl) ⟨Nat.zero_le _, Nat.zero_le _⟩ dX4_known_50 (fun rv24 H24 L24 hP24 hk24 hS => ?_)
            have hZ24 := hS.1
            obtain ⟨hr24, hM24⟩ := hP24
            subst hr24
            obtain ⟨ra, pa, tx, hW⟩ := hM24
            have hW : MWx G A am xa ra pa tx X P k (nI 0) H24 := hW
            have hO := hW.obj
            have hAm := hW.1
            refine f_eq (tgt := 58) hx hb dX4_known_53 (by decide) (fun c_25 => ?_) (fun c_25 => ?_)
            · refine lv_aload_n hx hb dX4_known_58 rfl (lv_at hl 0 rfl) ?_
              refine lv_iload_n hx hb dX4_known_59 rfl (lv_at hl 1 rfl) ?_
              refine lv_aload_n hx hb dX4_known_60 rfl (lv_at hl 0 rfl) ?_
              refine va_get (D := G.1) (ci := 8) (C := RX4) (T := TX4) (N := 5) hx hb hts inX4 hown hK (at_P hO) 0 rfl rfl 1 (by decide) (hts _ tw_4_173) (fun _ h9 => h9) rfl dX4_known_61 ?_
              refine lv_iload_n hx hb dX4_known_64 rfl (lv_at hl 1 rfl) ?_
              refine h_aaldI (D := G.1) hx hb hK 4 hW.txs rfl (vp_in_nI (n := i) (N := 4) (by omega) (by omega)) dX4_known_65 ?_
              refine v_cv (show va_rf _ = .ref (tx i) from by rw [nI_clamp (n := i) (by omega)]; rfl) ?_
              refine va_gets (v := .ref (G.2.2 2)) hx hb zc5 hS hown (hts _ tw_5_56) (fun _ h9 => h9) dX4_known_66 ?_
              refine lv_iload_n hx hb dX4_known_69 rfl (lv_at hl 2 rfl) ?_
              refine h_aaTI (v := .ref (G.2.2 (3 + j))) hx hb zc6 hS (vp_in_nI (n := j) (N := 7) (by omega) (by omega)) (by rw [nI_clamp (n := j) (by omega)]) dX4_known_70 ?_
              have hTi := (hW.tx (j := i) (by omega)).ia hC.2.1.2
              have x60i := hW.2.2.1 i (Or.inl (by omega))
              have hKnj := (zc7 j hj).1.at' (hS.2.1 _ (zc7 j hj).1.lt (zc7 j hj).2)
              have k4j := knT_le (i := j) hj
              have hra := hW.row.lt
              refine qR_S (A := A) (A1 := nw H24.size)  (As := [.ref (tx i), .ref (G.2.2 (3 + j))]) (rest := .int (nI i) :: .ref am :: []) ⟨hx, hb, hml, hown, hts⟩ (mX4_joined (A := nw H24.size) (sz := H24.size) (t := X i) (u := knT j) (by omega)) (va_cwS 2 hts (gS tw_4_200 tw_4_201 tw_1_8 tw_4_202) rfl rfl rfl (by decide +kernel) ⟨Nat.le_of_ble_eq_true rfl, Nat.le_of_ble_eq_true rfl⟩) hC hS (nw_in hA hS.1) nw_n  ⟨rfl, hTi, hKnj⟩ rfl rfl hl.1 (Nat.le_of_ble_eq_true rfl) ⟨Nat.le_trans (show 0 + 1 ≤ 1 by omega) (Nat.le_of_ble_eq_true rfl), Nat.le_trans (show 0 + 61 ≤ 61 by omega) (Nat.le_of_ble_eq_true rfl)⟩ dX4_known_71 (fun rv26 H26 L26 hP26 hk26 hS => ?_)
              have hZ26 := hS.1
              have hW := hW.nw hk26
              refine qI_V (A := A) (A1 := A) (b := am) (As := [.int (nI i), .ref rv26]) (rest := []) ⟨hx, hb, hml, hown, hts⟩ (mX4_become (A := A) (X := X) (P := P) (k := k) (xa := xa) (t := X i ++ knT j) hi ⟨okc_app x60i.1 k4j.2, by omega⟩) (cwV 2 hts (gV tw_4_214 tw_4_216 sel_X4_become tw_1_8 tw_4_217) rfl rfl rfl (by decide +kernel) ⟨Nat.le_of_ble_eq_true rfl, Nat.le_of_ble_eq_true rfl⟩) hC hS (fun _ h => h) (fun q h => hA q (Nat.le_trans hS.1 h)) (hW.recv hK) ⟨ra, pa, tx, hW, hP26.2, (by have := hP26.1; omega)⟩ rfl rfl hl.1 (Nat.le_of_ble_eq_true rfl) ⟨Nat.le_trans (show (0 + 1) ≤ 1 by omega) (Nat.le_of_ble_eq_true rfl), Nat.le_trans (show (0 + 61) ≤ 61 by omega) (Nat.le_of_ble_eq_true rfl)⟩ dX4_known_74 (fun rv27 H27 L27 hP27 hk27 hS => ?_)
              have hZ27 := hS.1
              exact q_i hx hb hr hlocks dX4_known_77 hS (by omega) (by omega) (Or.inr (Or.inr (Or.inr (⟨i, j, hi, rfl, hj, rfl, by omega, hP27.1, hP27.2⟩))))
            · exact absurd c_25 (by decide)
          · refine lv_iconst (v := nI 1) hx hb dX4_known_44 (by decide) ?_
            refine lv_goto (tgt := 49) hx hb dX4_known_45 (by decide) ?_
            refine lv_iconst (v := nI 3) hx hb dX4_known_49 (by decide) ?_
            refine qI_V (A := A) (A1 := A) (b := am) (As := [.int (bI true), .int (nI 3)]) (rest := []) ⟨hx, hb, hml, hown, hts⟩ (mX4_refuse (A := A) (X := X) (P := P) (k := k) (xa := xa) (b := true) (th := 0) (w9 := 3) (by decide) (by decide)) (cwV 2 hts (gV tw_4_210 tw_4_212 sel_X4_refuse tw_1_8 tw_4_213) rfl rfl rfl (by decide +kernel) ⟨Nat.le_of_ble_eq_true rfl, Nat.le_of_ble_eq_true rfl⟩) hC hS (fun _ h => h) (fun q h => hA q (Nat.le_trans hS.1 h)) (hW.recv hK) ⟨ra, pa, tx, hW⟩ rfl rfl hl.1 (Nat.le_of_ble_eq_true rfl) ⟨Nat.zero_le _, Nat.zero_le _⟩ dX4_known_50 (fun rv28 H28 L28 hP28 hk28 hS => ?_)
            have hZ28 := hS.1
            obtain ⟨hr28, hM28⟩ := hP28
            subst hr28
            obtain ⟨ra, pa, tx, hW⟩ := hM28
            have hW : MWx G A am xa ra pa tx X P k (nI 3) H28 := hW
            have hO := hW.obj
            have hAm := hW.1
            refine f_eq (tgt := 58) hx hb dX4_known_53 (by decide) (fun c_29 => ?_) (fun c_29 => ?_)
            · exact absurd c_29 (by decide)
            · refine lv_iconst (v := nI 0) hx hb dX4_known_56 (by decide) ?_
              exact q_i hx hb hr hlocks dX4_known_57 hS (by omega) (by omega) (Or.inr (Or.inr (Or.inl ⟨⟨i, j, hi, rfl, hj, rfl, by omega⟩, rfl, ra, pa, tx, hW⟩)))
      · refine qI_V (A := A) (A1 := A) (b := am) (As := [.int (bI true), .int (nI 2)]) (rest := []) ⟨hx, hb, hml, hown, hts⟩ (mX4_refuse (A := A) (X := X) (P := P) (k := k) (xa := xa) (b := true) (th := 0) (w9 := 2) (by decide) (by decide)) (cwV 2 hts (gV tw_4_210 tw_4_212 sel_X4_refuse tw_1_8 tw_4_213) rfl rfl rfl (by decide +kernel) ⟨Nat.le_of_ble_eq_true rfl, Nat.le_of_ble_eq_true rfl⟩) hC hS (fun _ h => h) (fun q h => hA q (Nat.le_trans hS.1 h)) (hW.recv hK) ⟨ra, pa, tx, hW⟩ rfl rfl hl.1 (Nat.le_of_ble_eq_true rfl) ⟨Nat.zero_le _, Nat.zero_le _⟩ dX4_known_18 (fun rv30 H30 L30 hP30 hk30 hS => ?_)
        have hZ30 := hS.1
        obtain ⟨hr30, hM30⟩ := hP30
        subst hr30
        obtain ⟨ra, pa, tx, hW⟩ := hM30
        have hW : MWx G A am xa ra pa tx X P k (nI 2) H30 := hW
        have hO := hW.obj
        have hAm := hW.1
        refine f_ne (tgt := 56) hx hb dX4_known_21 (by decide) (fun c_31 => ?_) (fun c_31 => ?_)
        · refine lv_iconst (v := nI 0) hx hb dX4_known_56 (by decide) ?_
          exact q_i hx hb hr hlocks dX4_known_57 hS (by omega) (by omega) (Or.inr (Or.inl ⟨⟨⟨i, hi, rfl⟩, (hr_20v.mp rfl)⟩, rfl, ra, pa, tx, hW⟩))
        · exact absurd c_31 (by decide)
  · refine qI_V (A := A) (A1 := A) (b := am) (As := [.int (bI true), .int (nI 1)]) (rest := []) ⟨hx, hb, hml, hown, hts⟩ (mX4_start (A := A) (X := X) (P := P) (k := k) (xa := xa) (b := true) (w9 := 1) (by decide)) (cwV 2 hts (gV tw_4_206 tw_4_208 sel_X4_start tw_1_8 tw_4_209) rfl rfl rfl (by decide +kernel) ⟨Nat.le_of_ble_eq_true rfl, Nat.le_of_ble_eq_true rfl⟩) hC hS (fun _ h => h) (fun q h => hA q (Nat.le_trans hS.1 h)) (hW.recv hK) ⟨ra, pa, tx, hW⟩ rfl rfl hl.1 (Nat.le_of_ble_eq_true rfl) ⟨Nat.zero_le _, Nat.zero_le _⟩ dX4_known_6 (fun rv32 H32 L32 hP32 hk32 hS => ?_)
    have hZ32 := hS.1
    obtain ⟨hr32, hM32⟩ := hP32
    subst hr32
    obtain ⟨ra, pa, tx, hW⟩ := hM32
    have hW : MWx G A am xa ra pa tx X P k (nI 1) H32 := hW
    have hO := hW.obj
    have hAm := hW.1
    refine f_ne (tgt := 56) hx hb dX4_known_9 (by decide) (fun c_33 => ?_) (fun c_33 => ?_)
    · refine lv_iconst (v := nI 0) hx hb dX4_known_56 (by decide) ?_
      exact q_i hx hb hr hlocks dX4_known_57 hS (by omega) (by omega) (Or.inl ⟨(hr_17v.mp rfl), rfl, ra, pa, tx, hW⟩)
    · exact absurd c_33 (by decide)

abbrev rmX4_ahead : Room := { frames := 3, cells := 2, slots := 62, locals := 64 }
theorem mX4_ahead {l : Launch} {G : Cx} {A : Nat → Prop} {am xa : Nat} {X : Nat → List Nat} {P : List (List Nat)} {k : Int32} {x y th : Int32} : Met l yX4_ahead (.code yX4_ahead cX4_ahead 3 (some .int) :: GW) rmX4_ahead (PC G A [.ref am, .int x, .int y] (MW G A am xa X P k th)) (qI A (fun r H => ((NT x) ∧ r = 0 ∧ MW G A am xa X P k 1 H) ∨ (((∃ i : Nat, i < 4 ∧ x = nI i) ∧ NS y) ∧ r = 0 ∧ MW G A am xa X P k 2 H) ∨ ((∃ i j : Nat, i < 4 ∧ x = nI i ∧ j < 24 ∧ y = nI j ∧ 60 < ([codeT.getD j 0] ++ X i).length) ∧ r = 0 ∧ MW G A am xa X P k 3 H) ∨ ∃ i j : Nat, i < 4 ∧ x = nI i ∧ j < 24 ∧ y = nI j ∧ ([codeT.getD j 0] ++ X i).length ≤ 60 ∧ r = nI ([codeT.getD j 0] ++ X i).length ∧ MW G A am xa (updT X i ([codeT.getD j 0] ++ X i)) P k 0 H)) 2 62 (A) := by
  refine mstart "SigntextModel" (by decide +kernel) rfl (Nat.le_of_ble_eq_true rfl) ?_
  intro p e s m below meth c ls hx hb hr hts hown hml hlocks hname hC hA hW hl
  have hl : lv_has ls 3 [(0, .ref am), (1, .int x), (2, .int y)] := hl
  have hK := hC.1
  have hS : va_S A s.heap s.heap [] := va_S.rf
  obtain ⟨ra, pa, tx, hW⟩ := hW
  have hO := hW.obj
  have hAm := hW.1
  obtain ⟨-, -, zc3, zc4, zc5, zc6, zc7, -⟩ := hC.2.2.1
  refine lv_aload_n hx hb dX4_ahead_0 rfl (lv_at hl 0 rfl) ?_
  refine lv_iload_n hx hb dX4_ahead_1 rfl (lv_at hl 1 rfl) ?_
  refine kS_i (A := A) (As := [.int x]) (rest := .ref am :: []) ⟨hx, hb, hml, hown, hts⟩ (mX4_isNone (A := A) ) (va_cwS 1 hts (gS tw_4_203 tw_4_204 tw_1_8 tw_4_205) rfl rfl rfl (by decide +kernel) ⟨Nat.le_of_ble_eq_true rfl, Nat.le_of_ble_eq_true rfl⟩) hC hS hA  trivial rfl rfl hl.1 (Nat.le_of_ble_eq_true rfl) ⟨Nat.zero_le _, Nat.zero_le _⟩ dX4_ahead_2 (fun r_34 hr_34 => ?_)
  obtain ⟨r_34v, hr_34v, rfl⟩ := hr_34
  refine lv_iconst (v := nI 1) hx hb dX4_ahead_5 (by decide) ?_
  cases r_34v
  · obtain ⟨i, hi, rfl⟩ : ∃ i : Nat, i < 4 ∧ x = nI i := Classical.byContradiction (fun q => Bool.noConfusion (hr_34v.mpr q))
    refine qI_V (A := A) (A1 := A) (b := am) (As := [.int (bI false), .int (nI 1)]) (rest := []) ⟨hx, hb, hml, hown, hts⟩ (mX4_start (A := A) (X := X) (P := P) (k := k) (xa := xa) (b := false) (w9 := 1) (by decide)) (cwV 2 hts (gV tw_4_206 tw_4_208 sel_X4_start tw_1_8 tw_4_209) rfl rfl rfl (by decide +kernel) ⟨Nat.le_of_ble_eq_true rfl, Nat.le_of_ble_eq_true rfl⟩) hC hS (fun _ h => h) (fun q h => hA q (Nat.le_trans hS.1 h)) (hW.recv hK) ⟨ra, pa, tx, hW⟩ rfl rfl hl.1 (Nat.le_of_ble_eq_true rfl) ⟨Nat.zero_le _, Nat.zero_le _⟩ dX4_ahead_6 (fun rv35 H35 L35 hP35 hk35 hS => ?_)
    have hZ35 := hS.1
    obtain ⟨hr35, hM35⟩ := hP35
    subst hr35
    obtain ⟨ra, pa, tx, hW⟩ := hM35
    have hW : MWx G A am xa ra pa tx X P k (nI 0) H35 := hW
    have hO := hW.obj
    have hAm := hW.1
    refine f_ne (tgt := 49) hx hb dX4_ahead_9 (by decide) (fun c_36 => ?_) (fun c_36 => ?_)
    · exact absurd c_36 (by decide)
    · refine lv_aload_n hx hb dX4_ahead_12 rfl (lv_at hl 0 rfl) ?_
      refine lv_iload_n hx hb dX4_ahead_13 rfl (lv_at hl 2 rfl) ?_
      refine kS_i (A := A) (As := [.int y]) (rest := .ref am :: []) ⟨hx, hb, hml, hown, hts⟩ (mX4_isNoSign (A := A) ) (va_cwS 1 hts (gS tw_4_192 tw_4_193 tw_1_8 tw_4_194) rfl rfl rfl (by decide +kernel) ⟨Nat.le_of_ble_eq_true rfl, Nat.le_of_ble_eq_true rfl⟩) hC hS hA  trivial rfl rfl hl.1 (Nat.le_of_ble_eq_true rfl) ⟨Nat.zero_le _, Nat.zero_le _⟩ dX4_ahead_14 (fun r_37 hr_37 => ?_)
      obtain ⟨r_37v, hr_37v, rfl⟩ := hr_37
      refine lv_iconst (v := nI 2) hx hb dX4_ahead_17 (by decide) ?_
      cases r_37v
      · obtain ⟨j, hj, rfl⟩ : ∃ j : Nat, j < 24 ∧ y = nI j := Classical.byContradiction (fun q => Bool.noConfusion (hr_37v.mpr q))
        refine qI_V (A := A) (A1 := A) (b := am) (As := [.int (bI false), .int (nI 2)]) (rest := []) ⟨hx, hb, hml, hown, hts⟩ (mX4_refuse (A := A) (X := X) (P := P) (k := k) (xa := xa) (b := false) (th := 0) (w9 := 2) (by decide) (by decide)) (cwV 2 hts (gV tw_4_210 tw_4_212 sel_X4_refuse tw_1_8 tw_4_213) rfl rfl rfl (by decide +kernel) ⟨Nat.le_of_ble_eq_true rfl, Nat.le_of_ble_eq_true rfl⟩) hC hS (fun _ h => h) (fun q h => hA q (Nat.le_trans hS.1 h)) (hW.recv hK) ⟨ra, pa, tx, hW⟩ rfl rfl hl.1 (Nat.le_of_ble_eq_true rfl) ⟨Nat.zero_le _, Nat.zero_le _⟩ dX4_ahead_18 (fun rv38 H38 L38 hP38 hk38 hS => ?_)
        have hZ38 := hS.1
        obtain ⟨hr38, hM38⟩ := hP38
        subst hr38
        obtain ⟨ra, pa, tx, hW⟩ := hM38
        have hW : MWx G A am xa ra pa tx X P k (nI 0) H38 := hW
        have hO := hW.obj
        have hAm := hW.1
        refine f_ne (tgt := 49) hx hb dX4_ahead_21 (by decide) (fun c_39 => ?_) (fun c_39 => ?_)
        · exact absurd c_39 (by decide)
        · refine lv_aload_n hx hb dX4_ahead_24 rfl (lv_at hl 0 rfl) ?_
          refine lv_aload_n hx hb dX4_ahead_25 rfl (lv_at hl 0 rfl) ?_
          refine va_get (D := G.1) (ci := 8) (C := RX4) (T := TX4) (N := 5) hx hb hts inX4 hown hK (at_P hO) 0 rfl rfl 1 (by decide) (hts _ tw_4_173) (fun _ h9 => h9) rfl dX4_ahead_26 ?_
          refine lv_iload_n hx hb dX4_ahead_29 rfl (lv_at hl 1 rfl) ?_
          refine h_aaldI (D := G.1) hx hb hK 4 hW.txs rfl (vp_in_nI (n := i) (N := 4) (by omega) (by omega)) dX4_ahead_30 ?_
          refine v_cv (show va_rf _ = .ref (tx i) from by rw [nI_clamp (n := i) (by omega)]; rfl) ?_
          have hTi := (hW.tx (j := i) (by omega)).ia hC.2.1.2
          have x60i := hW.2.2.1 i (Or.inl (by omega))
          have i60 := x60i.2
          have la : ([codeT.getD j 0] ++ X i).length = 1 + (X i).length := List.length_append
          refine h_ilen hx hb hC.2.1 hTi dX4_ahead_31 ?_
          refine lv_bipush (v := nI 60) hx hb dX4_ahead_32 (by decide) ?_
          refine b_ne (tgt := 41) hx hb dX4_ahead_34 (by decide) (by omega) (by omega) (fun c_40 => ?_) (fun c_40 => ?_)
          · refine lv_iconst (v := nI 0) hx hb dX4_ahead_41 (by decide) ?_
            refine lv_iconst (v := nI 3) hx hb dX4_ahead_42 (by decide) ?_
            refine qI_V (A := A) (A1 := A) (b := am) (As := [.int (bI false), .int (nI 3)]) (rest := []) ⟨hx, hb, hml, hown, hts⟩ (mX4_refuse (A := A) (X := X) (P := P) (k := k) (xa := xa) (b := false) (th := 0) (w9 := 3) (by decide) (by decide)) (cwV 2 hts (gV tw_4_210 tw_4_212 sel_X4_refuse tw_1_8 tw_4_213) rfl rfl rfl (by decide +kernel) ⟨Nat.le_of_ble_eq_true rfl, Nat.le_of_ble_eq_true rfl⟩) hC hS (fun _ h => h) (fun q h => hA q (Nat.le_trans hS.1 h)) (hW.recv hK) ⟨ra, pa, tx, hW⟩ rfl rfl hl.1 (Nat.le_of_ble_eq_true rfl) ⟨Nat.zero_le _, Nat.zero_le _⟩ dX4_ahead_43 (fun rv41 H41 L41 hP41 hk41 hS => ?_)
            have hZ41 := hS.1
            obtain ⟨hr41, hM41⟩ := hP41
            subst hr41
            obtain ⟨ra, pa, tx, hW⟩ := hM41
            have hW : MWx G A am xa ra pa tx X P k (nI 0) H41 := hW
            have hO := hW.obj
            have hAm := hW.1
            refine f_eq (tgt := 51) hx hb dX4_ahead_46 (by decide) (fun c_42 => ?_) (fun c_42 => ?_)
            · refine lv_aload_n hx hb dX4_ahead_51 rfl (lv_at hl 0 rfl) ?_
              refine lv_iload_n hx hb dX4_ahead_52 rfl (lv_at hl 1 rfl) ?_
              refine lv_iconst (v := nI 1) hx hb dX4_ahead_53 (by decide) ?_
              have hW0 := hW
              refine h_newa (D := G.1) (atype := .int) (N := 1) (z := (1, .inl (fun _ => 0))) hx hb (hts _ tw_1_70) rfl (fun h => h) hK 0 rfl hS rfl (nI_pos (by omega)) (nI_clamp (by omega)) (show 1 * _ ≤ _ from by show 1 * 4 ≤ 536870912; omega) (Nat.le_trans (show 0 + 1 ≤ 2 by omega) (Nat.le_of_ble_eq_true rfl)) (Nat.le_trans (show 0 + 1 ≤ 62 by omega) (Nat.le_of_ble_eq_true rfl)) dX4_ahead_54 (fun na H43 hna hFna z43 o43 hS => ?_)
              have hZ43 := hS.1
              have hMna : A na := hA na (by omega)
              refine lv_dup hx hb dX4_ahead_56 rfl ?_
              refine lv_iconst (v := nI 0) hx hb dX4_ahead_57 (by decide) ?_
              refine va_gets (v := .ref (G.2.2 1)) hx hb zc3 hS hown (hts _ tw_4_195) (fun _ h9 => h9) dX4_ahead_58 ?_
              refine lv_iload_n hx hb dX4_ahead_61 rfl (lv_at hl 2 rfl) ?_
              refine va_ti (v := .int (nI (codeT.getD j 0))) hx hb zc4 hS (vp_in_nI (n := j) (N := 24) (by omega) (by omega)) (by rw [nI_clamp (n := j) (by omega)]) dX4_ahead_62 ?_
              refine h_ist (D := G.1) hx hb hK 0 hFna rfl hS hMna (vp_in_nI (n := 0) (N := 1) (by omega) (by omega)) dX4_ahead_63 (fun H44 L44 hFna z44 o44 hS => ?_)
              rw [nI_clamp (n := 0) (by omega)] at hFna
              have hZ44 := hS.1
              have hk9 : kp (nw H41.size) H41 H44 := kp_new1 hna z43 o43 z44 o44
              have hN1 : IA0 G na [codeT.getD j 0] H44 := IA0.mk hFna rfl (fun q hq => by obtain rfl : q = 0 := (by omega); exact pk_us)
              have hW := hW0.nw hk9
              have hO := hW.obj
              have hAm := hW.1
              refine lv_aload_n hx hb dX4_ahead_64 rfl (lv_at hl 0 rfl) ?_
              refine va_get (D := G.1) (ci := 8) (C := RX4) (T := TX4) (N := 5) hx hb hts inX4 hown hK (at_P hO) 0 rfl rfl 1 (by decide) (hts _ tw_4_173) (fun _ h9 => h9) rfl dX4_ahead_65 ?_
              refine lv_iload_n hx hb dX4_ahead_68 rfl (lv_at hl 1 rfl) ?_
              refine h_aaldI (D := G.1) hx hb hK 4 hW.txs rfl (vp_in_nI (n := i) (N := 4) (by omega) (by omega)) dX4_ahead_69 ?_
              refine v_cv (show va_rf _ = .ref (tx i) from by rw [nI_clamp (n := i) (by omega)]; rfl) ?_
              have hTi := (hW.tx (j := i) (by omega)).ia hC.2.1.2
              have x60i := hW.2.2.1 i (Or.inl (by omega))
              have hra := hW.row.lt
              refine qR_S (A := A) (A1 := nw H44.size)  (As := [.ref na, .ref (tx i)]) (rest := .int (nI i) :: .ref am :: []) ⟨hx, hb, hml, hown, hts⟩ (mX4_joined (A := nw H44.size) (sz := H44.size) (t := [codeT.getD j 0]) (u := X i) (by show 1 + _ ≤ 61; omega)) (va_cwS 2 hts (gS tw_4_200 tw_4_201 tw_1_8 tw_4_202) rfl rfl rfl (by decide +kernel) ⟨Nat.le_of_ble_eq_true rfl, Nat.le_of_ble_eq_true rfl⟩) hC hS (nw_in hA hS.1) nw_n  ⟨rfl, (hN1.ia hC.2.1.2), hTi⟩ rfl rfl hl.1 (Nat.le_of_ble_eq_true rfl) ⟨Nat.le_trans (show (0 + 1) + 1 ≤ 2 by omega) (Nat.le_of_ble_eq_true rfl), Nat.le_trans (show (0 + 1) + 61 ≤ 62 by omega) (Nat.le_of_ble_eq_true rfl)⟩ dX4_ahead_70 (fun rv45 H45 L45 hP45 hk45 hS => ?_)
              have hZ45 := hS.1
              have hW := hW.nw hk45
              refine qI_V (A := A) (A1 := A) (b := am) (As := [.int (nI i), .ref rv45]) (rest := []) ⟨hx, hb, hml, hown, hts⟩ (mX4_become (A := A) (X := X) (P := P) (k := k) (xa := xa) (t := [codeT.getD j 0] ++ X i) hi ⟨okc_app (okc_one (codeT_lt j)) x60i.1, by omega⟩) (cwV 2 hts (gV tw_4_214 tw_4_216 sel_X4_become tw_1_8 tw_4_217) rfl rfl rfl (by decide +kernel) ⟨Nat.le_of_ble_eq_true rfl, Nat.le_of_ble_eq_true rfl⟩) hC hS (fun _ h => h) (fun q h => hA q (Nat.le_trans hS.1 h)) (hW.recv hK) ⟨ra, pa, tx, hW, hP45.2, (by have := hP45.1; omega)⟩ rfl rfl hl.1 (Nat.le_of_ble_eq_true rfl) ⟨Nat.le_trans (show ((0 + 1) + 1) ≤ 2 by omega) (Nat.le_of_ble_eq_true rfl), Nat.le_trans (show ((0 + 1) + 61) ≤ 62 by omega) (Nat.le_of_ble_eq_true rfl)⟩ dX4_ahead_73 (fun rv46 H46 L46 hP46 hk46 hS => ?_)
              have hZ46 := hS.1
              exact q_i hx hb hr hlocks dX4_ahead_76 hS (by omega) (by omega) (Or.inr (Or.inr (Or.inr (⟨i, j, hi, rfl, hj, rfl, by omega, hP46.1, hP46.2⟩))))
            · exact absurd c_42 (by decide)
          · refine lv_iconst (v := nI 1) hx hb dX4_ahead_37 (by decide) ?_
            refine lv_goto (tgt := 42) hx hb dX4_ahead_38 (by decide) ?_
            refine lv_iconst (v := nI 3) hx hb dX4_ahead_42 (by decide) ?_
            refine qI_V (A := A) (A1 := A) (b := am) (As := [.int (bI true), .int (nI 3)]) (rest := []) ⟨hx, hb, hml, hown, hts⟩ (mX4_refuse (A := A) (X := X) (P := P) (k := k) (xa := xa) (b := true) (th := 0) (w9 := 3) (by decide) (by decide)) (cwV 2 hts (gV tw_4_210 tw_4_212 sel_X4_refuse tw_1_8 tw_4_213) rfl rfl rfl (by decide +kernel) ⟨Nat.le_of_ble_eq_true rfl, Nat.le_of_ble_eq_true rfl⟩) hC hS (fun _ h => h) (fun q h => hA q (Nat.le_trans hS.1 h)) (hW.recv hK) ⟨ra, pa, tx, hW⟩ rfl rfl hl.1 (Nat.le_of_ble_eq_true rfl) ⟨Nat.zero_le _, Nat.zero_le _⟩ dX4_ahead_43 (fun rv47 H47 L47 hP47 hk47 hS => ?_)
            have hZ47 := hS.1
            obtain ⟨hr47, hM47⟩ := hP47
            subst hr47
            obtain ⟨ra, pa, tx, hW⟩ := hM47
            have hW : MWx G A am xa ra pa tx X P k (nI 3) H47 := hW
            have hO := hW.obj
            have hAm := hW.1
            refine f_eq (tgt := 51) hx hb dX4_ahead_46 (by decide) (fun c_48 => ?_) (fun c_48 => ?_)
            · exact absurd c_48 (by decide)
            · refine lv_iconst (v := nI 0) hx hb dX4_ahead_49 (by decide) ?_
              exact q_i hx hb hr hlocks dX4_ahead_50 hS (by omega) (by omega) (Or.inr (Or.inr (Or.inl ⟨⟨i, j, hi, rfl, hj, rfl, by omega⟩, rfl, ra, pa, tx, hW⟩)))
      · refine qI_V (A := A) (A1 := A) (b := am) (As := [.int (bI true), .int (nI 2)]) (rest := []) ⟨hx, hb, hml, hown, hts⟩ (mX4_refuse (A := A) (X := X) (P := P) (k := k) (xa := xa) (b := true) (th := 0) (w9 := 2) (by decide) (by decide)) (cwV 2 hts (gV tw_4_210 tw_4_212 sel_X4_refuse tw_1_8 tw_4_213) rfl rfl rfl (by decide +kernel) ⟨Nat.le_of_ble_eq_true rfl, Nat.le_of_ble_eq_true rfl⟩) hC hS (fun _ h => h) (fun q h => hA q (Nat.le_trans hS.1 h)) (hW.recv hK) ⟨ra, pa, tx, hW⟩ rfl rfl hl.1 (Nat.le_of_ble_eq_true rfl) ⟨Nat.zero_le _, Nat.zero_le _⟩ dX4_ahead_18 (fun rv49 H49 L49 hP49 hk49 hS => ?_)
        have hZ49 := hS.1
        obtain ⟨hr49, hM49⟩ := hP49
        subst hr49
        obtain ⟨ra, pa, tx, hW⟩ := hM49
        have hW : MWx G A am xa ra pa tx X P k (nI 2) H49 := hW
        have hO := hW.obj
        have hAm := hW.1
        refine f_ne (tgt := 49) hx hb dX4_ahead_21 (by decide) (fun c_50 => ?_) (fun c_50 => ?_)
        · refine lv_iconst (v := nI 0) hx hb dX4_ahead_49 (by decide) ?_
          exact q_i hx hb hr hlocks dX4_ahead_50 hS (by omega) (by omega) (Or.inr (Or.inl ⟨⟨⟨i, hi, rfl⟩, (hr_37v.mp rfl)⟩, rfl, ra, pa, tx, hW⟩))
        · exact absurd c_50 (by decide)
  · refine qI_V (A := A) (A1 := A) (b := am) (As := [.int (bI true), .int (nI 1)]) (rest := []) ⟨hx, hb, hml, hown, hts⟩ (mX4_start (A := A) (X := X) (P := P) (k := k) (xa := xa) (b := true) (w9 := 1) (by decide)) (cwV 2 hts (gV tw_4_206 tw_4_208 sel_X4_start tw_1_8 tw_4_209) rfl rfl rfl (by decide +kernel) ⟨Nat.le_of_ble_eq_true rfl, Nat.le_of_ble_eq_true rfl⟩) hC hS (fun _ h => h) (fun q h => hA q (Nat.le_trans hS.1 h)) (hW.recv hK) ⟨ra, pa, tx, hW⟩ rfl rfl hl.1 (Nat.le_of_ble_eq_true rfl) ⟨Nat.zero_le _, Nat.zero_le _⟩ dX4_ahead_6 (fun rv51 H51 L51 hP51 hk51 hS => ?_)
    have hZ51 := hS.1
    obtain ⟨hr51, hM51⟩ := hP51
    subst hr51
    obtain ⟨ra, pa, tx, hW⟩ := hM51
    have hW : MWx G A am xa ra pa tx X P k (nI 1) H51 := hW
    have hO := hW.obj
    have hAm := hW.1
    refine f_ne (tgt := 49) hx hb dX4_ahead_9 (by decide) (fun c_52 => ?_) (fun c_52 => ?_)
    · refine lv_iconst (v := nI 0) hx hb dX4_ahead_49 (by decide) ?_
      exact q_i hx hb hr hlocks dX4_ahead_50 hS (by omega) (by omega) (Or.inl ⟨(hr_34v.mp rfl), rfl, ra, pa, tx, hW⟩)
    · exact absurd c_52 (by decide)
