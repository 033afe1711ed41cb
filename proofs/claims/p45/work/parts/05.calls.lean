/-! OWN LAYER, 2: what is known of classes, statics and constants all along (cx); a method's start; calls -/
def stx : Nat → List Nat
  | 0 => [97]
  | 1 => [97, 98]
  | 2 => [65]
  | 3 => [44]
  | 4 => [120, 46, 120]
  | 5 => [97, 66, 45, 49]
  | 6 => []
  | 7 => [116, 114, 117, 101]
  | _ => [102, 97, 108, 115, 101]
def codeT : List Nat := [97, 98, 99, 120, 65, 66, 67, 88, 48, 49, 55, 57, 44, 46, 45, 95, 32, 9, 10, 1, 28, 160, 233, 201]
def knT : Nat → List Nat
  | 0 => []
  | 1 => [97]
  | 2 => [97, 98]
  | 3 => [65]
  | 4 => [44]
  | 5 => [120, 46, 120]
  | _ => [97, 66, 45, 49]
/-- an array of ints that holds t -/
def IA (G : Cx) (a : Nat) (t : List Nat) (H : Heap) : Prop := ∃ (cell : Cell) (i : Nat), H[a]? = some cell ∧ cell.cls = G.2.1 (6 + i) ∧ cell.vm ≠ .unknown ∧ (∀ k, cell.vm ≠ .statics k) ∧ (t.length ≤ cell.slots.size ∧ cell.slots.size.toInt32 = Int32.ofNat t.length) ∧ ∀ j : Nat, j < t.length → cell.slots[j]? = some (.int (nI (t.getD j 0)))
theorem IA.lt {G : Cx} {a : Nat} {t : List Nat} {H : Heap} (h : IA G a t H) : a < H.size := by
  obtain ⟨cell, i, h1, -⟩ := h
  exact (Array.getElem?_eq_some_iff.mp h1).1
theorem IA.at' {G : Cx} {a : Nat} {t : List Nat} {H H1 : Heap} (h : IA G a t H) (hq : H1[a]? = H[a]?) : IA G a t H1 := by
  obtain ⟨cell, i, h1, h2⟩ := h
  exact ⟨cell, i, by rw [hq]; exact h1, h2⟩
theorem IA.kp {G : Cx} {a : Nat} {t : List Nat} {X : Nat → Prop} {H H1 : Heap} (h : IA G a t H) (hk : kp X H H1) (hX : ¬ X a) : IA G a t H1 := h.at' (hk.2 a h.lt hX)
theorem IA.n {G : Cx} {a : Nat} {t : List Nat} {H H1 : Heap} (h : IA G a t H) (oq : ∀ q : Nat, q < H.size → H1[q]? = H[q]?) : IA G a t H1 := h.at' (oq a h.lt)
theorem IA.o {G : Cx} {a b : Nat} {t : List Nat} {H H1 : Heap} (h : IA G a t H) (oq : ∀ q : Nat, q ≠ b → H1[q]? = H[q]?) (n : a ≠ b) : IA G a t H1 := h.at' (oq a n)
theorem IA.mk {G : Cx} {a n : Nat} {t : List Nat} {f : Nat → Int32} {H : Heap} (h6 : G.2.1 6 = G.2.1 0) (h : va_at G.1 vwCl (a, .inl (G.2.1 0, n, .inl f)) H) (hn : n = t.length) (hf : ∀ j, j < n → f j = nI (t.getD j 0)) : IA G a t H := by
  subst hn
  refine ⟨vp_cell (G.2.1 0) (t.length, .inl f), 0, h, ?_, ?_, ?_, ?_, ?_⟩
  · rw [Nat.add_zero, h6]; rfl
  · intro h; cases h
  · intro k h; cases h
  · have e := arrV_size (G.2.1 0) t.length (fun j => Value.int (f j))
    rw [vp_cell_i]
    exact ⟨Nat.le_of_eq e.symm, congrArg Nat.toInt32 e⟩
  · intro j hj
    rw [vp_cell_i, arrV_read _ _ hj, hf j hj]
/-- the text constants: 0 to 8 -/
def sC (G : Cx) (A : Nat → Prop) (U : State) (H : Heap) : Prop := ∀ i : Nat, i < 9 → va_O "java/lang/String" (G.2.2 (20 + i)) A U H ∧ va_OF "java/lang/String" "coder" "B" (.int 0) (G.2.2 (20 + i)) A U H ∧ va_OF "java/lang/String" "value" "[B" (.ref (G.2.2 (40 + i))) (G.2.2 (20 + i)) A U H ∧ va_T .byte (G.2.2 (40 + i)) (stx i).length (fun j => .int (nI ((stx i).getD j 0))) A U H
def sRl : List (String × Nat × String × Nat) := [("Signtext", 243, "a", 0), ("Signtext", 245, "ab", 1), ("Signtext", 247, "A", 2), ("Signtext", 249, ",", 3), ("Signtext", 251, "x.x", 4), ("Signtext", 253, "aB-1", 5), ("Signtext", 255, "", 6), ("Signtext", 111, "true", 7), ("Signtext", 113, "false", 8), ("java/lang/String", 7, "", 6), ("SigntextModel", 150, "", 6)]
def sR (G : Cx) (U : State) : Prop := ∀ q ∈ sRl, vk_R q.1 q.2.1 q.2.2.1 (G.2.2 (20 + q.2.2.2)) U
def zS (G : Cx) (A : Nat → Prop) (U : State) (H : Heap) : Prop :=
  va_Z "Signtext" "CODES" "[I" (.ref (G.2.2 0)) A U H ∧ va_T .int (G.2.2 0) 24 (fun j => .int (nI (codeT.getD j 0))) A U H ∧
  va_Z "SigntextModel" "CODES" "[I" (.ref (G.2.2 1)) A U H ∧ va_T .int (G.2.2 1) 24 (fun j => .int (nI (codeT.getD j 0))) A U H ∧
  va_Z "SigntextModel" "KNOWN" "[[I" (.ref (G.2.2 2)) A U H ∧ va_T (.array .int) (G.2.2 2) 7 (fun j => .ref (G.2.2 (3 + j))) A U H ∧
  (∀ i : Nat, i < 7 → IA G (G.2.2 (3 + i)) (knT i) H ∧ ¬ A (G.2.2 (3 + i))) ∧
  va_Z "java/lang/String" "COMPACT_STRINGS" "Z" (.int 1) A U H ∧
  va_Z "java/util/ArrayList" "DEFAULTCAPACITY_EMPTY_ELEMENTDATA" "[Ljava/lang/Object;" (.ref (G.2.2 10)) A U H ∧ va_T (.object "java/lang/Object") (G.2.2 10) 0 (fun _ => .null) A U H ∧
  va_Zq "jdk/internal/util/Preconditions" "SIOOBE_FORMATTER" "Ljava/util/function/BiFunction;" A U H ∧
  vx_Zq Bundle.tN "UNASSIGNED_STACK" Bundle.steD A U H ∧ vx_Zq Bundle.tN "SUPPRESSED_SENTINEL" Bundle.listD A U H
/-- casts and declarations of the tables, and what is not a cast: they go on as the machine goes on -/
def isX : Cond → Bool
  | .castable _ _ => true
  | .declares _ => true
  | _ => false
def XW : List Cond := lw_tbl.filter isX
theorem xw_at {w : Cond} {L : List Cond} (hL : ∀ x ∈ L, x ∈ lw_tbl) (k : Nat) (h : L[k]? = some w) (g : isX w = true) : w ∈ XW := List.mem_filter.mpr ⟨hL w (List.mem_of_getElem? h), g⟩
theorem x_moved {w : Cond} {a b : Array Value} {u U : State} (hg : isX w = true) (hvm : u.vm.Alike U.vm) (h : w.before a u = true) : w.before b U = true := by
  cases w with
  | castable C T =>
    obtain ⟨c, t, h1, h2, h3⟩ := Cond.castable_spec h
    show Cond.holds b U none U [] (Cond.castable C T) = true
    simp only [Cond.holds, Cond.value]
    rw [hvm.findClass, hvm.findClass, h1, h2]
    show (some (U.vm.assignable c t) == some true) = true
    rw [hvm.assignable, h3]
    rfl
  | declares x =>
    have h0 : (Cond.declares x).before #[] u = true := va_any rfl h
    have h1 : (Cond.declares x).before #[] (u.setVm U.vm) = true := by
      rw [Cond.declares_setVm hvm]
      exact h0
    have e := Cond.onTables_vm (A := #[]) (A' := b) (U := u) (U' := U) U.vm (Cond.declares x) rfl
    have hU : U.setVm U.vm = U := rfl
    rw [hU] at e
    rw [← e]
    exact h1
  | _ => cases hg
def xN : List (String × String) := [("java/lang/IllegalArgumentException", "java/lang/IndexOutOfBoundsException"), ("java/lang/IllegalStateException", "java/lang/IndexOutOfBoundsException"), ("java/lang/IllegalStateException", "java/lang/IllegalArgumentException")]
def xWs (U : State) : Prop := (∀ w ∈ XW, w.before #[] U = true) ∧ ∀ q ∈ xN, va_Nc q.1 q.2 U
theorem xWs.moved {u U : State} (hvm : u.vm.Alike U.vm) (h : xWs u) : xWs U := ⟨fun w hw => x_moved (List.mem_filter.mp hw).2 hvm (h.1 w hw), fun q hq => (h.2 q hq).moved hvm⟩
theorem xWs.use {u : State} {w : Cond} {a : Array Value} (h : xWs u) (hw : w ∈ XW) : w.before a u = true := x_moved (List.mem_filter.mp hw).2 (Vm.Alike.refl _) (h.1 w hw)
def xHN : MethodName := ⟨"java/util/Iterator", "hasNext", "()Z"⟩
def xNX : MethodName := ⟨"java/util/Iterator", "next", "()Ljava/lang/Object;"⟩
/-- links between nest mates; the mirror of Object[]; the iterator behind its interface -/
def nWs (G : Cx) (U : State) : Prop := va_Nw (.fieldLinkNest "java/util/ArrayList$Itr" 28 "java/util/ArrayList" "size" "I" "java/util/ArrayList") U ∧ va_Nw (.fieldLinkNest "SigntextLaw" 13 "SigntextLaw$Out" "n" "J" "SigntextLaw") U ∧ va_Nw (.fieldLinkNest "SigntextLaw" 90 "SigntextLaw$Out" "s" "Ljava/lang/String;" "SigntextLaw") U ∧ va_Nw (.methodLinkNest "SigntextLaw" 162 yX3_init "SigntextLaw") U ∧ va_Mi "[Ljava/lang/Object;" (G.2.2 11) U ∧ va_Fw "java/util/ArrayList$Itr" xHN yJx35411_hasNext_aae02 U ∧ va_Fw "java/util/ArrayList$Itr" xNX yJx35411_next_0502b U
theorem nWs.warm {G : Cx} {s U : State} (hW : s.WarmedH U.vm) (h : nWs G s) : nWs G U := ⟨h.1.warmF hW, h.2.1.warmF hW, h.2.2.1.warmF hW, h.2.2.2.1.warmM hW, h.2.2.2.2.1.moved hW.alike, h.2.2.2.2.2.1.moved (by decide +kernel) hW.alike, h.2.2.2.2.2.2.moved (by decide +kernel) hW.alike⟩
theorem nWs.same {G : Cx} {s U : State} (hv : s.vm = U.vm) (h : nWs G s) : nWs G U := ⟨h.1.same rfl hv, h.2.1.same rfl hv, h.2.2.1.same rfl hv, h.2.2.2.1.same rfl hv, h.2.2.2.2.1.moved (by rw [hv]; exact Vm.Alike.refl _), h.2.2.2.2.2.1.moved (by decide +kernel) (by rw [hv]; exact Vm.Alike.refl _), h.2.2.2.2.2.2.moved (by decide +kernel) (by rw [hv]; exact Vm.Alike.refl _)⟩
/-- words that go on as they are -/
def wN (G : Cx) (U : State) : Prop := va_Nw (.methodLinkNest "Signtext" 18 yX0_init "Signtext") U ∧ va_Nw (.methodLinkNest "Signtext" 25 yX1_init "Signtext") U ∧ va_Nw (.methodLinkNest "Signtext$Pieces" 11 yX0_init "Signtext") U ∧ va_AO "Signtext$Line" U ∧ va_AO "java/lang/Object" U ∧ (Cond.arrayOver (.array .int)).before #[] U = true ∧ xWs U ∧ nWs G U
def iC (G : Cx) (U : State) : Prop := (∀ i : Nat, ∃ (k : Class) (comp : ClassId), U.vm.classes[G.2.1 (6 + i)]? = some k ∧ k.kind = .array comp .int) ∧ G.2.1 6 = G.2.1 0
def cx (G : Cx) (A : Nat → Prop) (U : State) : Prop := va_K G.1 vwCl (tyL G.2.1) U ∧ iC G U ∧ zS G A U U.heap ∧ sC G A U U.heap ∧ sR G U ∧ wN G U
theorem iC.moved {G : Cx} {u U : State} (hvm : u.vm.Alike U.vm) (h : iC G u) : iC G U := ⟨fun i => by
  obtain ⟨k, comp, h1, h2⟩ := h.1 i
  obtain ⟨k', hk', he⟩ := hvm.2.2 _ _ h1
  exact ⟨k', comp, hk', by rw [he]; exact h2⟩, h.2⟩
theorem wN.warm {G : Cx} {s U : State} (hW : s.WarmedH U.vm) (h : wN G s) : wN G U :=
  ⟨h.1.warmM hW, h.2.1.warmM hW, h.2.2.1.warmM hW, h.2.2.2.1.moved hW.alike, h.2.2.2.2.1.moved hW.alike, over_moved hW.alike h.2.2.2.2.2.1, h.2.2.2.2.2.2.1.moved hW.alike, h.2.2.2.2.2.2.2.warm hW⟩
theorem wN.same {G : Cx} {s U : State} (hv : s.vm = U.vm) (h : wN G s) : wN G U :=
  ⟨h.1.same rfl hv, h.2.1.same rfl hv, h.2.2.1.same rfl hv, h.2.2.2.1.moved (by rw [hv]; exact Vm.Alike.refl _), h.2.2.2.2.1.moved (by rw [hv]; exact Vm.Alike.refl _), over_moved (by rw [hv]; exact Vm.Alike.refl _) h.2.2.2.2.2.1, h.2.2.2.2.2.2.1.moved (by rw [hv]; exact Vm.Alike.refl _), h.2.2.2.2.2.2.2.same hv⟩
theorem zS.go {G : Cx} {A B : Nat → Prop} {u U : State} {H H1 : Heap} (hvm : u.vm.Alike U.vm) (hq : ∀ a : Nat, a < H.size → ¬ A a → H1[a]? = H[a]?) (hAB : ∀ q, B q → A q) (h : zS G A u H) : zS G B U H1 := by
  obtain ⟨h1, h2, h3, h4, h5, h6, h7, h8, h9, h10, h11, h12, h13⟩ := h
  exact ⟨((h1.moved hvm).kept hq).narrow hAB, ((h2.moved hvm).kept hq).narrow hAB, ((h3.moved hvm).kept hq).narrow hAB, ((h4.moved hvm).kept hq).narrow hAB, ((h5.moved hvm).kept hq).narrow hAB, ((h6.moved hvm).kept hq).narrow hAB,
    fun i hi => ⟨(h7 i hi).1.at' (hq _ (h7 i hi).1.lt (h7 i hi).2), fun z => (h7 i hi).2 (hAB _ z)⟩,
    ((h8.moved hvm).kept hq).narrow hAB, ((h9.moved hvm).kept hq).narrow hAB, ((h10.moved hvm).kept hq).narrow hAB, ((h11.moved hvm).kept hq).narrow hAB, ((h12.moved hvm).kept hq).narrow hAB, ((h13.moved hvm).kept hq).narrow hAB⟩
theorem sC.go {G : Cx} {A B : Nat → Prop} {u U : State} {H H1 : Heap} (hvm : u.vm.Alike U.vm) (hq : ∀ a : Nat, a < H.size → ¬ A a → H1[a]? = H[a]?) (hAB : ∀ q, B q → A q) (h : sC G A u H) : sC G B U H1 := fun i hi => by
  obtain ⟨h1, h2, h3, h4⟩ := h i hi
  exact ⟨((h1.moved hvm).kept hq).narrow hAB, ((h2.moved hvm).kept hq).narrow hAB, ((h3.moved hvm).kept hq).narrow hAB, ((h4.moved hvm).kept hq).narrow hAB⟩
theorem cx.go {G : Cx} {A B : Nat → Prop} {s U : State} {H : Heap} {locs : List Loc} (h : cx G A s) (hS : va_S A s.heap H locs) (hAB : ∀ q, B q → A q) (hU : U.heap = H) (hW : s.WarmedH U.vm) : cx G B U := by
  obtain ⟨h1, h2, h3, h4, h5, h6⟩ := h
  subst hU
  exact ⟨h1.moved hW.alike, h2.moved hW.alike, h3.go hW.alike hS.2.1 hAB, h4.go hW.alike hS.2.1 hAB, fun q hq => (h5 q hq).warm hW, h6.warm hW⟩
theorem cx.same {G : Cx} {A : Nat → Prop} {s U : State} (h : cx G A s) (hU : U.heap = s.heap) (hv : U.vm = s.vm) : cx G A U := by
  obtain ⟨h1, h2, h3, h4, h5, h6⟩ := h
  have ha : s.vm.Alike U.vm := by rw [hv]; exact Vm.Alike.refl _
  refine ⟨h1.moved ha, h2.moved ha, ?_, ?_, fun q hq => (h5 q hq).same hv, h6.same hv.symm⟩
  · rw [hU]; exact h3.go ha (fun _ _ _ => rfl) (fun _ z => z)
  · rw [hU]; exact h4.go ha (fun _ _ _ => rfl) (fun _ z => z)
/-- a method's start -/
def PC (G : Cx) (A : Nat → Prop) (av : List Value) (Wd : Heap → Prop) : Array Value → State → Prop := fun v U => v = av.toArray ∧ cx G A U ∧ (∀ q : Nat, U.heap.size ≤ q → A q) ∧ Wd U.heap
theorem PC.blind {G : Cx} {A : Nat → Prop} {av : List Value} {Wd : Heap → Prop} : FrameBlind (PC G A av Wd) := fun a U g mk h => ⟨h.1, h.2.1.same rfl rfl, h.2.2.1, h.2.2.2⟩
theorem PC.go {G : Cx} {A B : Nat → Prop} {av : List Value} {Wd : Heap → Prop} {s : State} {H : Heap} {locs : List Loc} (h : cx G A s) (hS : va_S A s.heap H locs) (hAB : ∀ q, B q → A q) (hB : ∀ q : Nat, H.size ≤ q → B q) (hW : Wd H) : ∀ U : State, U.heap = H → s.WarmedH U.vm → PC G B av Wd av.toArray U :=
  fun U hU hw => ⟨rfl, h.go hS hAB hU hw, by rw [hU]; exact hB, by rw [hU]; exact hW⟩
/-- what a body has at its entry -/
theorem mstart {l : Launch} {y : MethodName} {rm : Room} {G : Cx} {A : Nat → Prop} {av : List Value} {Wd : Heap → Prop} {Qc : Array Value → State → Outcome → State → Prop} {mc ms : Nat} {free : Addr → Prop} {cc : ByteArray} {maxL : Nat} {ret : Option FieldType} (own : String) (hy : plainName y.cls = true) (hown : y.cls = own) (hn : (lg_sl av).length ≤ maxL)
    (body : ∀ (p : Program) (e : Env) (s : State) (m : MethodId) (below : List Frame) (meth : Method) (c : Code) (ls : Array Slot), p.tables.exec = Jvm.exec → c.code = cc → meth.sig.returnType = ret → (∀ w ∈ GW, w.before av.toArray s = true) → s.vm.findClass own = some m.cls → c.maxLocals = maxL → meth.locks = false → meth.name = y.name → cx G A s → (∀ q : Nat, s.heap.size ≤ q → A q) → Wd s.heap → lv_has ls maxL (lv_args 0 av) →
      W p l e rm s m av.toArray below meth c s.heap [] 0 0 (MQ below Qc av.toArray s mc ms free) (F0 m 0 ls [])) : Met l y (.code y cc maxL ret :: GW) rm (PC G A av Wd) Qc mc ms free := by
  refine Met.ofW (cc := cc) (maxL := maxL) (ret := ret) hy rfl ?_
  intro p e s m args below meth c s₁ B hml hv
  obtain ⟨rfl, hC, hA, hW⟩ := hv
  have hts := atoms_spec (ws := .code y cc maxL ret :: GW) B.pre
  have hl := lv_entry av (n := maxL) hn
  have hne : entryFrame m av.toArray maxL = F0 m 0 ((lg_sl av ++ List.replicate (maxL - (lg_sl av).length) Slot.unset).toArray) [] := by rw [lg_entry_eq]
  rw [hne]
  exact body p e s m below meth c _ B.exec B.bytes B.returns (fun w h => hts w (List.mem_cons_of_mem _ h)) (by rw [← hown]; exact findClass_of_methodNamed B.named) hml B.notSynchronized (name_of_methodNamed B.named B.method).1 hC hA hW hl
/-- ends: int, boolean, nothing; heap as it was, or changed inside A -/
theorem good_gw {w : Cond} (h : w ∈ GW) : w ∈ GW ∧ ((w.onTables && w.keeps) = true ∨ ∃ ty, w = .arrayClass ty) := ⟨h, good_of_word (gw_good h)⟩
theorem gV {own C : String} {index n : Nat} {y : MethodName} {cc : ByteArray} {r : Option FieldType} (h1 : Cond.methodLink own index y ∈ GW) (h2 : Cond.instanceMethod y ∈ GW) (h3 : Cond.selects C y y ∈ GW) (h4 : Cond.initialized C ∈ GW) (h5 : Cond.code y cc n r ∈ GW) : GoodIn GW (wsV own index C y (.code y cc n r :: GW)) := by
  intro w hw
  unfold wsV at hw
  rcases List.mem_append.mp hw with h | h
  · simp only [List.mem_cons, List.not_mem_nil, or_false] at h
    rcases h with rfl | rfl | rfl | rfl
    · exact good_gw h1
    · exact good_gw h2
    · exact good_gw h3
    · exact good_gw h4
  · rcases List.mem_cons.mp h with rfl | h
    · exact good_gw h5
    · exact good_gw h
theorem gS {own : String} {index n : Nat} {y : MethodName} {cc : ByteArray} {r : Option FieldType} (h1 : Cond.methodLink own index y ∈ GW) (h2 : Cond.static y ∈ GW) (h4 : Cond.initialized y.cls ∈ GW) (h5 : Cond.code y cc n r ∈ GW) : GoodIn GW (va_wsS own index y (.code y cc n r :: GW)) := by
  intro w hw
  unfold va_wsS at hw
  rcases List.mem_append.mp hw with h | h
  · simp only [List.mem_cons, List.not_mem_nil, or_false] at h
    rcases h with rfl | rfl | rfl
    · exact good_gw h1
    · exact good_gw h2
    · exact good_gw h4
  · rcases List.mem_cons.mp h with rfl | h
    · exact good_gw h5
    · exact good_gw h
theorem gI {n : Nat} {y : MethodName} {cc : ByteArray} {r : Option FieldType} (h5 : Cond.code y cc n r ∈ GW) : GoodIn GW (.code y cc n r :: GW) := by
  intro w hw
  rcases List.mem_cons.mp hw with rfl | h
  · exact good_gw h5
  · exact good_gw h
section KC
variable {p : Program} {l : Launch} {e : Env} {R : Room} {s : State} {m : MethodId} {args : Array Value} {below : List Frame} {meth : Method} {c : Code} {H : Heap} {locs : List Loc} {cells slots : Nat} {Q : State → Prop}
variable {cc bytes : ByteArray} {pc nL maxL index n mc ms : Nat} {ls : Array Slot} {rest st0 : List Value} {G : Cx} {A A1 : Nat → Prop} {own C : String} {y : MethodName} {ret : Option FieldType} {ws : List Cond} {rm : Room} {b : Nat} {As : List Value} {Wd : Heap → Prop}
/-- a virtual call that changes nothing, with an int -/
theorem kV_i {post : Int32 → Prop} (S : CallFix p m c cc nL s args GW own) (hM : Met l y ws rm (PC G A (.ref b :: As) Wd) (vp_Si post) 0 0 (fun _ => False)) (cw : CallW R s args own C index y bytes maxL ret ws rm 0 0 n) (hC : cx G A s) (hS : va_S A s.heap H locs) (hA : ∀ q : Nat, s.heap.size ≤ q → A q)
    (hr : ∃ cell : Cell, H[b]? = some cell ∧ cell.vm.isStatics = false ∧ s.vm.findClass C = some cell.cls) (hW : Wd H) (hst : st0 = As.reverse ++ .ref b :: rest) (hn : As.length = n) (hl : ls.size = nL) (hrm : (rest.map fun v => v.category).sum ≤ 8) (hf : cells ≤ R.cells ∧ slots ≤ R.slots) (hdg : decode cc pc = .ok (.invokevirtual index, 3))
    (kk : ∀ r : Int32, post r → W p l e R s m args below meth c H locs cells slots Q (F0 m (pc + 3) ls (.int r :: rest))) : W p l e R s m args below meth c H locs cells slots Q (F0 m pc ls st0) := by
  subst hst
  exact vp_callSi (W.runV (As := As) (rest := rest) (g := F0 m pc ls (As.reverse ++ .ref b :: rest)) S hM cw ⟨PC.blind, hr, PC.go hC hS (fun _ z => z) (fun q h => hA q (Nat.le_trans hS.1 h)) hW⟩ rfl hn hl rfl (lv_room hrm) hdg hf) kk
theorem kS_i {post : Int32 → Prop} (S : CallFix p m c cc nL s args GW own) (hM : Met l y ws rm (PC G A As Wd) (vp_Si post) 0 0 (fun _ => False)) (cw : CallB R s args own index y bytes maxL ret ws rm 0 0 n ∧ (Cond.static y).before args s = true) (hC : cx G A s) (hS : va_S A s.heap H locs) (hA : ∀ q : Nat, s.heap.size ≤ q → A q)
    (hW : Wd H) (hst : st0 = As.reverse ++ rest) (hn : As.length = n) (hl : ls.size = nL) (hrm : (rest.map fun v => v.category).sum ≤ 8) (hf : cells ≤ R.cells ∧ slots ≤ R.slots) (hdg : decode cc pc = .ok (.invokestatic index, 3))
    (kk : ∀ r : Int32, post r → W p l e R s m args below meth c H locs cells slots Q (F0 m (pc + 3) ls (.int r :: rest))) : W p l e R s m args below meth c H locs cells slots Q (F0 m pc ls st0) := by
  subst hst
  exact vp_callSi (W.runS (As := As) (rest := rest) (g := F0 m pc ls (As.reverse ++ rest)) S hM cw ⟨PC.blind, PC.go hC hS (fun _ z => z) (fun q h => hA q (Nat.le_trans hS.1 h)) hW⟩ rfl hn hl rfl (lv_room hrm) hdg hf) kk
/-- calls that change cells of A1 -/
theorem eV_i {S9 : Type} {post : Int32 → S9 → Prop} {B : S9 → Heap → Prop} (S : CallFix p m c cc nL s args GW own) (hM : Met l y ws rm (PC G A1 (.ref b :: As) Wd) (va_Qi post (fun u t => B u t.heap) A1) mc ms A1) (cw : CallW R s args own C index y bytes maxL ret ws rm mc ms n) (hC : cx G A s) (hS : va_S A s.heap H locs) (hAA : ∀ q, A1 q → A q) (hA1 : ∀ q : Nat, H.size ≤ q → A1 q)
    (hr : ∃ cell : Cell, H[b]? = some cell ∧ cell.vm.isStatics = false ∧ s.vm.findClass C = some cell.cls) (hW : Wd H) (hst : st0 = As.reverse ++ .ref b :: rest) (hn : As.length = n) (hl : ls.size = nL) (hrm : (rest.map fun v => v.category).sum ≤ 8) (hf : cells + mc ≤ R.cells ∧ slots + ms ≤ R.slots) (hdg : decode cc pc = .ok (.invokevirtual index, 3))
    (kk : ∀ (r : Int32) (u : S9) (H1 : Heap) (locs1 : List Loc), post r u → B u H1 → kp A1 H H1 → va_S A s.heap H1 locs1 → W p l e R s m args below meth c H1 locs1 (cells + mc) (slots + ms) Q (F0 m (pc + 3) ls (.int r :: rest))) : W p l e R s m args below meth c H locs cells slots Q (F0 m pc ls st0) := by
  subst hst
  exact va_calli (va_runV (As := As) (rest := rest) (g := F0 m pc ls (As.reverse ++ .ref b :: rest)) S hM cw ⟨PC.blind, hr, PC.go hC hS hAA hA1 hW⟩ rfl hn hl rfl (lv_room hrm) hdg hf) hS (fun q _ h => hAA q h) hAA (fun r u t H1 locs1 ht _ hp hB hz hk hS1 => kk r u H1 locs1 hp (by rw [← ht]; exact hB) ⟨hz, hk⟩ hS1)
theorem eV_v {S9 : Type} {post : S9 → Prop} {B : S9 → Heap → Prop} (S : CallFix p m c cc nL s args GW own) (hM : Met l y ws rm (PC G A1 (.ref b :: As) Wd) (va_Qv post (fun u t => B u t.heap) A1) mc ms A1) (cw : CallW R s args own C index y bytes maxL ret ws rm mc ms n) (hC : cx G A s) (hS : va_S A s.heap H locs) (hAA : ∀ q, A1 q → A q) (hA1 : ∀ q : Nat, H.size ≤ q → A1 q)
    (hr : ∃ cell : Cell, H[b]? = some cell ∧ cell.vm.isStatics = false ∧ s.vm.findClass C = some cell.cls) (hW : Wd H) (hst : st0 = As.reverse ++ .ref b :: rest) (hn : As.length = n) (hl : ls.size = nL) (hrm : (rest.map fun v => v.category).sum ≤ 8) (hf : cells + mc ≤ R.cells ∧ slots + ms ≤ R.slots) (hdg : decode cc pc = .ok (.invokevirtual index, 3))
    (kk : ∀ (u : S9) (H1 : Heap) (locs1 : List Loc), post u → B u H1 → kp A1 H H1 → va_S A s.heap H1 locs1 → W p l e R s m args below meth c H1 locs1 (cells + mc) (slots + ms) Q (F0 m (pc + 3) ls rest)) : W p l e R s m args below meth c H locs cells slots Q (F0 m pc ls st0) := by
  subst hst
  exact va_callv (va_runV (As := As) (rest := rest) (g := F0 m pc ls (As.reverse ++ .ref b :: rest)) S hM cw ⟨PC.blind, hr, PC.go hC hS hAA hA1 hW⟩ rfl hn hl rfl (lv_room hrm) hdg hf) hS (fun q _ h => hAA q h) hAA (fun u t H1 locs1 ht _ hp hB hz hk hS1 => kk u H1 locs1 hp (by rw [← ht]; exact hB) ⟨hz, hk⟩ hS1)
theorem eI_v {S9 : Type} {post : S9 → Prop} {B : S9 → Heap → Prop} (S : CallFix p m c cc nL s args GW own) (hM : Met l y ws rm (PC G A1 (.ref b :: As) Wd) (va_Qv post (fun u t => B u t.heap) A1) mc ms A1) (cw : CallB R s args own index y bytes maxL none ws rm mc ms n ∧ y.name = "<init>" ∧ (Cond.instanceMethod y).before args s = true) (hC : cx G A s) (hS : va_S A s.heap H locs) (hAA : ∀ q, A1 q → A q) (hA1 : ∀ q : Nat, H.size ≤ q → A1 q)
    (hW : Wd H) (hst : st0 = As.reverse ++ .ref b :: rest) (hn : As.length = n) (hl : ls.size = nL) (hrm : (rest.map fun v => v.category).sum ≤ 8) (hf : cells + mc ≤ R.cells ∧ slots + ms ≤ R.slots) (hdg : decode cc pc = .ok (.invokespecial index, 3))
    (kk : ∀ (u : S9) (H1 : Heap) (locs1 : List Loc), post u → B u H1 → kp A1 H H1 → va_S A s.heap H1 locs1 → W p l e R s m args below meth c H1 locs1 (cells + mc) (slots + ms) Q (F0 m (pc + 3) ls rest)) : W p l e R s m args below meth c H locs cells slots Q (F0 m pc ls st0) := by
  subst hst
  exact va_callv (va_runI (As := As) (rest := rest) (g := F0 m pc ls (As.reverse ++ .ref b :: rest)) S hM cw ⟨PC.blind, PC.go hC hS hAA hA1 hW⟩ rfl hn hl rfl (lv_room hrm) hdg hf) hS (fun q _ h => hAA q h) hAA (fun u t H1 locs1 ht _ hp hB hz hk hS1 => kk u H1 locs1 hp (by rw [← ht]; exact hB) ⟨hz, hk⟩ hS1)
theorem eS_r {S9 : Type} {post : S9 → Prop} {B : S9 → Nat → Heap → Prop} (S : CallFix p m c cc nL s args GW own) (hM : Met l y ws rm (PC G A1 As Wd) (va_Qr post (fun u a t => B u a t.heap) A1) mc ms A1) (cw : CallB R s args own index y bytes maxL ret ws rm mc ms n ∧ (Cond.static y).before args s = true) (hC : cx G A s) (hS : va_S A s.heap H locs) (hAA : ∀ q, A1 q → A q) (hA1 : ∀ q : Nat, H.size ≤ q → A1 q)
    (hW : Wd H) (hst : st0 = As.reverse ++ rest) (hn : As.length = n) (hl : ls.size = nL) (hrm : (rest.map fun v => v.category).sum ≤ 8) (hf : cells + mc ≤ R.cells ∧ slots + ms ≤ R.slots) (hdg : decode cc pc = .ok (.invokestatic index, 3))
    (kk : ∀ (u : S9) (a : Nat) (H1 : Heap) (locs1 : List Loc), post u → B u a H1 → kp A1 H H1 → va_S A s.heap H1 locs1 → W p l e R s m args below meth c H1 locs1 (cells + mc) (slots + ms) Q (F0 m (pc + 3) ls (.ref a :: rest))) : W p l e R s m args below meth c H locs cells slots Q (F0 m pc ls st0) := by
  subst hst
  exact va_callr (va_runS (As := As) (rest := rest) (g := F0 m pc ls (As.reverse ++ rest)) S hM cw ⟨PC.blind, PC.go hC hS hAA hA1 hW⟩ rfl hn hl rfl (lv_room hrm) hdg hf) hS (fun q _ h => hAA q h) hAA (fun u a t H1 locs1 ht _ hp hB hz hk hS1 => kk u a H1 locs1 hp (by rw [← ht]; exact hB) ⟨hz, hk⟩ hS1)
theorem eV_r {S9 : Type} {post : S9 → Prop} {B : S9 → Nat → Heap → Prop} (S : CallFix p m c cc nL s args GW own) (hM : Met l y ws rm (PC G A1 (.ref b :: As) Wd) (va_Qr post (fun u a t => B u a t.heap) A1) mc ms A1) (cw : CallW R s args own C index y bytes maxL ret ws rm mc ms n) (hC : cx G A s) (hS : va_S A s.heap H locs) (hAA : ∀ q, A1 q → A q) (hA1 : ∀ q : Nat, H.size ≤ q → A1 q)
    (hr : ∃ cell : Cell, H[b]? = some cell ∧ cell.vm.isStatics = false ∧ s.vm.findClass C = some cell.cls) (hW : Wd H) (hst : st0 = As.reverse ++ .ref b :: rest) (hn : As.length = n) (hl : ls.size = nL) (hrm : (rest.map fun v => v.category).sum ≤ 8) (hf : cells + mc ≤ R.cells ∧ slots + ms ≤ R.slots) (hdg : decode cc pc = .ok (.invokevirtual index, 3))
    (kk : ∀ (u : S9) (a : Nat) (H1 : Heap) (locs1 : List Loc), post u → B u a H1 → kp A1 H H1 → va_S A s.heap H1 locs1 → W p l e R s m args below meth c H1 locs1 (cells + mc) (slots + ms) Q (F0 m (pc + 3) ls (.ref a :: rest))) : W p l e R s m args below meth c H locs cells slots Q (F0 m pc ls st0) := by
  subst hst
  exact va_callr (va_runV (As := As) (rest := rest) (g := F0 m pc ls (As.reverse ++ .ref b :: rest)) S hM cw ⟨PC.blind, hr, PC.go hC hS hAA hA1 hW⟩ rfl hn hl rfl (lv_room hrm) hdg hf) hS (fun q _ h => hAA q h) hAA (fun u a t H1 locs1 ht _ hp hB hz hk hS1 => kk u a H1 locs1 hp (by rw [← ht]; exact hB) ⟨hz, hk⟩ hS1)
/-- reading arrays of ints -/
theorem h_ild {a : Nat} {t : List Nat} (hexec : p.tables.exec = Jvm.exec) (hb : c.code = cc) (hC : iC G s) (h : IA G a t H) {i : Nat} (hi : i < t.length) (hi2 : i < 2 ^ 31) (hdg : decode cc pc = .ok (.iaload, 1))
    (kk : W p l e R s m args below meth c H locs cells slots Q (F0 m (pc + 1) ls (.int (nI (t.getD i 0)) :: rest))) : W p l e R s m args below meth c H locs cells slots Q (F0 m pc ls (.int (nI i) :: .ref a :: rest)) := by
  obtain ⟨cell, k, h1, h2, h3, h4, h5, h6⟩ := h
  have hk := hC.1 k
  rw [← h2] at hk
  obtain ⟨kA, comp, q1, q2⟩ := hk
  exact W.iald (v := .int (nI (t.getD i 0))) hexec hb h1 ⟨h4, kA, q1, comp, q2⟩ h3 (by rw [nI_clamp hi2]; rintro (q | q); exact nI_pos hi2 q; have := h5.1; omega) (by rw [nI_clamp hi2]; exact h6 i hi) rfl rfl hdg kk
theorem h_ilen {a : Nat} {t : List Nat} (hexec : p.tables.exec = Jvm.exec) (hb : c.code = cc) (hC : iC G s) (h : IA G a t H) (hdg : decode cc pc = .ok (.arraylength, 1))
    (kk : W p l e R s m args below meth c H locs cells slots Q (F0 m (pc + 1) ls (.int (nI t.length) :: rest))) : W p l e R s m args below meth c H locs cells slots Q (F0 m pc ls (.ref a :: rest)) := by
  obtain ⟨cell, k, h1, h2, h3, h4, h5, h6⟩ := h
  have hk := hC.1 k
  rw [← h2] at hk
  obtain ⟨kA, comp, q1, q2⟩ := hk
  exact W.alen (n := nI t.length) hexec hb h1 ⟨h4, kA, q1, comp, q2⟩ (by first | exact h5.2 | exact h5.2.symm | (rw [h5.2]; rfl)) rfl rfl hdg kk
end KC
