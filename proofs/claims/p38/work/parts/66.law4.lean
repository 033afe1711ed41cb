/-! THE LAW, 4: each of its cases -/
def A0f (n : Nat) : Nat → Prop := fun q => n ≤ q
def A1f (SA : Nat → Nat) (out n : Nat) : Nat → Prop := fun q => (∃ i : Nat, i < 39 ∧ q = SA i) ∨ q = out ∨ n ≤ q
def A2f (n : Nat) (SA : Nat → Nat) (out : Nat) : Nat → Prop := fun q => n ≤ q ∧ (∀ i : Nat, i < 39 → q ≠ SA i) ∧ q ≠ out
section LAW4
variable {G : Cx} {SA : Nat → Nat} {out am xa n0 : Nat} {X Y : Nat → List Nat} {P : List (List Nat)} {es es2 : List Nat} {k k2 th : Int32} {H H1 : Heap} {s : State}
theorem A1f_in {n : Nat} (hSA : ∀ i : Nat, i < 39 → n0 ≤ SA i) (hout : n0 ≤ out) (hn : n0 ≤ n) : ∀ q, A1f SA out n q → A0f n0 q := fun q h => by
  rcases h with ⟨i, hi, rfl⟩ | rfl | h
  · exact hSA i hi
  · exact hout
  · exact Nat.le_trans hn h
theorem A2f_new (hSS : SS G SA X es k H) (hO : OA G out H) (hn : n0 ≤ H.size) : ∀ q : Nat, H.size ≤ q → A2f n0 SA out q := fun q h => by
  obtain ⟨T, e2, hW, -⟩ := hSS
  refine ⟨Nat.le_trans hn h, fun i hi e => ?_, fun e => ?_⟩
  · have := hW.lt i hi; omega
  · have := hO.lt; omega
theorem va_at_len {D : va_G} {cl : List vw_C} {a n1 n2 : Nat} {c : ClassId} {f1 f2 : Nat → Int32} (h1 : va_at D cl (a, .inl (c, n1, .inl f1)) H) (h2 : va_at D cl (a, .inl (c, n2, .inl f2)) H) : n1 = n2 := by
  have e1 : H[a]? = some (vp_cell c (n1, .inl f1)) := h1
  have e2 : H[a]? = some (vp_cell c (n2, .inl f2)) := h2
  have e := Option.some.inj (e1.symm.trans e2)
  rw [vp_cell_i, vp_cell_i] at e
  have e' := congrArg (fun c : Cell => c.slots.size) e
  simpa [arrV_size] using e'
/-- a short row of ints is none of the class's cells -/
theorem IA0.na {T : Nat → List Nat} {q : Nat} {t : List Nat} (hK : va_K G.1 vwCl (tyL G.2.1) s) (hW : SW G SA T es es2 k H) (hO : OA G out H) (h : IA0 G q t H) (ht : t.length ≤ 60) : ¬ A1f SA out H.size q := by
  obtain ⟨f, hf, -⟩ := h
  have hlt := hf.lt
  rintro (⟨i, hi, e⟩ | e | e)
  · subst e
    rcases Nat.lt_or_ge i 7 with q | q
    · match i, q with
      | 0, _ => exact at_ne_oa hK hW.2.1 (r := (RX2, TX2, 8)) rfl hf 0 rfl rfl
      | 1, _ => exact at_ne_aa hK hf hW.2.2.1 0 3 rfl rfl (by decide) rfl
      | 2, _ => exact at_ne_aa hK hf hW.2.2.2.1 0 3 rfl rfl (by decide) rfl
      | 3, _ => exact at_ne_oa hK hW.pcs.1.2.1 (r := (RX1, TX1, 3)) rfl hf 0 rfl rfl
      | 4, _ =>
        obtain ⟨-, -, f2, hf2, -⟩ := hW.pcs.1
        have := va_at_len hf hf2
        omega
      | 5, _ => exact at_ne_oa hK hW.trd.1.2.1 (r := (RX1, TX1, 3)) rfl hf 0 rfl rfl
      | 6, _ =>
        obtain ⟨-, -, f2, hf2, -⟩ := hW.trd.1
        have := va_at_len hf hf2
        omega
    · have e : i = 7 + 2 * ((i - 7) / 2) ∨ i = 8 + 2 * ((i - 7) / 2) := by omega
      obtain ⟨-, -, -, h1, f3, h2, -⟩ := hW.line (i := (i - 7) / 2) (by omega)
      rcases e with e | e
      · rw [← e] at h1
        exact at_ne_oa hK h1 (r := (RX0, TX0, 2)) rfl hf 0 rfl rfl
      · rw [← e] at h2
        exact at_ne_aa hK hf h2 0 1 rfl rfl (by decide) rfl
  · subst e
    obtain ⟨n, v, hO⟩ := hO
    exact at_ne_oa hK hO (r := (RX3, TX3, 2)) rfl hf 0 rfl rfl
  · omega
theorem A2f_na {n q : Nat} (h : A2f n0 SA out q) (hq : q < n) : ¬ A1f SA out n q := by
  rintro (⟨i, hi, e⟩ | e | e)
  · exact h.2.1 i hi e
  · exact h.2.2 e
  · omega
/-- a call of the class keeps the model's world -/
theorem MW.kc (hK : va_K G.1 vwCl (tyL G.2.1) s) (hSS : SS G SA X es k H) (hM : MW G (A2f n0 SA out) am xa Y P k2 th H) (hO : OA G out H) (hk : kp (A1f SA out H.size) H H1) : MW G (A2f n0 SA out) am xa Y P k2 th H1 := by
  obtain ⟨T, e2, hW, -⟩ := hSS
  obtain ⟨ra, pa, tx, a1, a2, a3, a4, b1, b2, b3, b4, b5, b6, b7, b8⟩ := hM
  refine ⟨ra, pa, tx, a1, a2, a3, a4, b1, b2, b3, at_kp b4 hk (A2f_na a1 b4.lt), at_kp b5 hk (A2f_na a2 b5.lt), fun j hj => ⟨(b6 j hj).1.kp hk ((b6 j hj).1.na hK hW hO (a3 j (Or.inl hj)).2), (b6 j hj).2⟩, b7.kp hk (b7.na hK hW hO (a3 11 (Or.inr rfl)).2), ?_⟩
  obtain ⟨h0, h | ⟨md, ed, cap, f, pe, h1, h2, h3, h4, h5, h6⟩⟩ := b8
  · obtain ⟨e, md, h⟩ := h
    exact ⟨h0, Or.inl ⟨e, md, at_kp h hk (A2f_na b2 h.lt)⟩⟩
  · exact ⟨h0, Or.inr ⟨md, ed, cap, f, pe, at_kp h1 hk (A2f_na b2 h1.lt), at_kp h2 hk (A2f_na h3 h2.lt), h3, h4, h5, fun i hi => ⟨(h6 i hi).1, (h6 i hi).2.1.kp hk ((h6 i hi).2.1.na hK hW hO (a4 i).2), (h6 i hi).2.2⟩⟩⟩
end LAW4
def Inv (G : Cx) (s : State) (SA : Nat → Nat) (am xa out : Nat) (k : Int32) (H : Heap) : Prop := ∃ (X : Nat → List Nat) (es : List Nat), SS G SA X es k H ∧ (∃ th, MW G (A2f s.heap.size SA out) am xa X (pcL (X 14) es) k th H) ∧ OA G out H
theorem MW.cg {G : Cx} {A : Nat → Prop} {am xa : Nat} {X Y : Nat → List Nat} {P : List (List Nat)} {k th : Int32} {H : Heap} (h : ∀ i : Nat, i < 4 ∨ i = 11 → X i = Y i) (hM : MW G A am xa X P k th H) : MW G A am xa Y P k th H := by
  obtain ⟨ra, pa, tx, a1, a2, a3, a4, b1, b2, b3, b4, b5, b6, b7, b8⟩ := hM
  exact ⟨ra, pa, tx, a1, a2, fun i hi => by rw [← h i hi]; exact a3 i hi, a4, b1, b2, b3, b4, b5, fun j hj => by rw [← h j (Or.inl hj)]; exact b6 j hj, by rw [← h 11 (Or.inr rfl)]; exact b7, b8⟩
theorem MW.h60 {G : Cx} {A : Nat → Prop} {am xa : Nat} {X : Nat → List Nat} {P : List (List Nat)} {k th : Int32} {H : Heap} (hM : MW G A am xa X P k th H) : ∀ i : Nat, i < 4 ∨ i = 11 → (X i).length ≤ 60 := by
  obtain ⟨ra, pa, tx, a1, a2, a3, -⟩ := hM
  exact fun i hi => (a3 i hi).2
theorem MW.he {G : Cx} {A : Nat → Prop} {am xa : Nat} {X : Nat → List Nat} {t es : List Nat} {k th : Int32} {H : Heap} (hM : MW G A am xa X (pcL t es) k th H) : es.length ≤ 61 := by
  obtain ⟨ra, pa, tx, a1, a2, a3, a4, b1, b2, b3, b4, b5, b6, b7, b8⟩ := hM
  have := b8.1
  rwa [pcL_len] at this
theorem lg_cmp_self (x : Int64) : lg_cmp x x = 0 := by
  unfold lg_cmp
  simp
def LX (p : Program) (l : Launch) (_ : Env) (s : State) (m : MethodId) (_ : Method) (c : Code) (b L : Nat) (xs : Nat → Int32) (G : Cx) (SA : Nat → Nat) (out : Nat) : Prop :=
  p.tables.exec = Jvm.exec ∧ c.code = cL_law ∧ c.maxLocals = 7 ∧ s.vm.findClass "SigntextLaw" = some m.cls ∧ (∀ w ∈ GW, w.before #[Value.ref b] s = true) ∧ cx G (A0f s.heap.size) s ∧ va_X b L xs s s.heap ∧ b < s.heap.size ∧ L ≤ 3584 ∧ l.stackTraces = false ∧ (∀ i : Nat, i < 39 → s.heap.size ≤ SA i) ∧ (∀ i : Nat, i < 39 → SA i ≠ out) ∧ s.heap.size ≤ out
def LStep (p : Program) (l : Launch) (e : Env) (s : State) (m : MethodId) (below : List Frame) (meth : Method) (c : Code) (b L : Nat) (G : Cx) (SA : Nat → Nat) (am xa out : Nat) (pc : Nat) : Prop :=
  ∀ (k : Int32) (H : Heap) (locs : List Loc) (cells slots i : Nat) (ls : Array Slot) (Q : State → Prop), Inv G s SA am xa out k H → va_S (A0f s.heap.size) s.heap H locs → i + 6 < L → cells + 140 ≤ room_1.cells → slots + 9600 ≤ room_1.slots → lv_has ls 7 [(0, .ref b), (1, .ref (SA 0)), (2, .ref am), (3, .ref out), (4, .int (nI i))] →
    (∀ (k' : Int32) (H' : Heap) (locs' : List Loc) (ls' : Array Slot), Inv G s SA am xa out k' H' → va_S (A0f s.heap.size) s.heap H' locs' → lv_has ls' 7 [(0, .ref b), (1, .ref (SA 0)), (2, .ref am), (3, .ref out), (4, .int (nI i))] → W p l e room_1 s m #[Value.ref b] below meth c H' locs' (cells + 140) (slots + 9600) Q (F0 m 2115 ls' [])) →
    W p l e room_1 s m #[Value.ref b] below meth c H locs cells slots Q (F0 m pc ls [])
section CLV
variable {p : Program} {l : Launch} {e : Env} {R : Room} {s : State} {m : MethodId} {args : Array Value} {below : List Frame} {meth : Method} {c : Code} {H H0 : Heap} {locs : List Loc} {cells slots : Nat} {Q : State → Prop}
variable {cc bytes : ByteArray} {pc nL maxL index n mc ms mc1 ms1 : Nat} {ls : Array Slot} {rest st0 : List Value} {G : Cx} {A A1 : Nat → Prop} {own C : String} {y : MethodName} {ret : Option FieldType} {ws : List Cond} {rm : Room} {a b : Nat} {As : List Value} {Wd : Heap → Prop} {PX1 : String → Heap → Prop}
theorem cL_V {P : Int64 → Heap → Prop} (S : CallFix p m c cc nL s args GW own) (hM : vx_Met l y ws rm (PC G A1 (.ref b :: As) Wd) (qL A1 P) (xE A1 PX1) mc1 ms1 A1) (cw : CallW R s args own C index y bytes maxL ret ws rm mc1 ms1 n) (hC : cx G A s) (hS : va_S A s.heap H locs) (hAA : ∀ q, A1 q → A q) (hA1 : ∀ q : Nat, H.size ≤ q → A1 q)
    (hr : ∃ cell : Cell, H[b]? = some cell ∧ cell.vm.isStatics = false ∧ s.vm.findClass C = some cell.cls) (hW : Wd H) (hst : st0 = As.reverse ++ .ref b :: rest) (hn : As.length = n) (hl : ls.size = nL) (hrm : (rest.map fun v => v.category).sum ≤ 8) (hf : cells + mc1 ≤ R.cells ∧ slots + ms1 ≤ R.slots) (hdg : decode cc pc = .ok (.invokevirtual index, 3))
    (kx : ∀ (E : String) (ce : Cell) (q9 : Addr) (H1 : Heap) (locs1 : List Loc), PX1 E H1 → kp A1 H H1 → va_S A s.heap H1 locs1 → H1[q9]? = some ce → ce.vm = .none → s.vm.findClass E = some ce.cls → vx_W p l e R s m args below meth c H1 locs1 (cells + mc1) (slots + ms1) Q (F0 m pc ls rest) q9)
    (kk : ∀ (r : Int64) (H1 : Heap) (locs1 : List Loc), P r H1 → kp A1 H H1 → va_S A s.heap H1 locs1 → W p l e R s m args below meth c H1 locs1 (cells + mc1) (slots + ms1) Q (F0 m (pc + 3) ls (.long r :: rest))) : W p l e R s m args below meth c H locs cells slots Q (F0 m pc ls st0) := by
  subst hst
  exact vx_calll (vx_runV (As := As) (rest := rest) (g := F0 m pc ls (As.reverse ++ .ref b :: rest)) S hM cw ⟨PC.blind, hr, PC.go hC hS hAA hA1 hW⟩ rfl hn hl rfl (lv_room hrm) hdg hf) hS (fun q _ h => hAA q h) hAA (fun q _ h => hAA q h)
    (fun E ce q9 u t H1 locs1 ht hvm _ hB hz hk hS1 h1 h2 h3 => kx E ce q9 H1 locs1 (show PX1 E H1 from ht ▸ hB) ⟨hz, hk⟩ hS1 h1 h2 h3)
    (fun r u t H1 locs1 ht _ hp hB hz hk hS1 => by subst hp; exact kk r H1 locs1 (show P r H1 from ht ▸ hB) ⟨hz, hk⟩ hS1)
end CLV
abbrev rmX4_thrown : Room := { frames := 1, cells := 0, slots := 0, locals := 20 }
theorem dX4_thrown_0 : decode cX4_thrown 0 = .ok (.aload_n 0, 1) := by decide +kernel
theorem dX4_thrown_1 : decode cX4_thrown 1 = .ok (.getfield 82, 3) := by decide +kernel
theorem dX4_thrown_4 : decode cX4_thrown 4 = .ok (.ireturn, 1) := by decide +kernel
theorem mX4_thrown {l : Launch} {G : Cx} {A A2 : Nat → Prop} {am xa : Nat} {th : Int32} : Met l yX4_thrown (.code yX4_thrown cX4_thrown 1 (some .int) :: GW) rmX4_thrown (PC G A [.ref am] (fun H => ∃ X P k, MW G A2 am xa X P k th H)) (vp_Si (fun r => r = th)) 0 0 (fun _ => False) := by
  refine mstart "SigntextModel" (by decide +kernel) rfl (Nat.le_of_ble_eq_true rfl) ?_
  intro p e s m below meth c ls hx hb hr hts hown hml hlocks hname hC hA hW hl
  have hl : lv_has ls 1 [(0, .ref am)] := hl
  have hK := hC.1
  have hS : va_S A s.heap s.heap [] := va_S.rf
  obtain ⟨X, P, k, ra, pa, tx, hW⟩ := hW
  have hO := hW.obj
  refine lv_aload_n hx hb dX4_thrown_0 rfl (lv_at hl 0 rfl) ?_
  refine va_get (D := G.1) (ci := 8) (C := RX4) (T := TX4) (N := 5) hx hb hts inX4 hown hK (at_P hO) 0 rfl rfl 0 (by decide) (hts _ tw_4_172) (fun _ h9 => h9) rfl dX4_thrown_1 ?_
  exact p_i hx hb hr hlocks dX4_thrown_4 rfl
/-! decode rows of a long method by its bytes -/
theorem u1_at {code : ByteArray} {pc : Nat} {b : UInt8} (h : code.data.toList[pc]? = some b) : (Jvm.ClassFile.Reader.u1 : Jvm.ClassFile.Decoder Nat).runAt code pc = .ok (b.toNat, pc + 1) := by
  obtain ⟨hl, hb⟩ := List.getElem?_eq_some_iff.mp h
  have hs : pc < code.size := hl
  have he : code[pc] = b := hb
  have h1 : (Jvm.ClassFile.Reader.u1 : Jvm.ClassFile.Decoder Nat).runAt code pc = (if h : pc < code.size then ((do set (pc + 1); pure code[pc].toNat) : Jvm.ClassFile.Decoder Nat) else throw (Jvm.ClassFile.HasTruncated.truncated pc)) code pc := rfl
  rw [h1, dif_pos hs, he]
  rfl
theorem run_b {α β : Type} {code : ByteArray} {p q : Nat} {x : Jvm.ClassFile.Decoder α} {a : α} {f : α → Jvm.ClassFile.Decoder β} (h : x.runAt code p = .ok (a, q)) : (x >>= f).runAt code p = (f a).runAt code q := by
  have h1 : (x >>= f).runAt code p = (match x.runAt code p with | .error e => .error e | .ok (a, s) => (f a).runAt code s) := by
    show Except.bind (x.runAt code p) _ = _
    cases x.runAt code p with
    | error e => rfl
    | ok v => rfl
  rw [h1, h]
theorem u2_at {code : ByteArray} {pc : Nat} {a b : UInt8} (h1 : code.data.toList[pc]? = some a) (h2 : code.data.toList[pc + 1]? = some b) : (Jvm.ClassFile.Reader.u2 : Jvm.ClassFile.Decoder Nat).runAt code pc = .ok (a.toNat * 256 + b.toNat, pc + 2) :=
  (run_b (u1_at h1)).trans ((run_b (u1_at h2)).trans rfl)
theorem run_map {α β : Type} {code : ByteArray} {p q : Nat} {x : Jvm.ClassFile.Decoder α} {a : α} {f : α → β} (h : x.runAt code p = .ok (a, q)) : (f <$> x).runAt code p = .ok (f a, q) := by
  have h1 : (f <$> x).runAt code p = (match x.runAt code p with | .error e => .error e | .ok (a, s) => .ok (f a, s)) := by
    show Except.map _ (x.runAt code p) = _
    cases x.runAt code p with
    | error e => rfl
    | ok v => rfl
  rw [h1, h]
theorem s2_at {code : ByteArray} {pc : Nat} {a b : UInt8} (h1 : code.data.toList[pc]? = some a) (h2 : code.data.toList[pc + 1]? = some b) : (Jvm.ClassFile.Reader.s2 : Jvm.ClassFile.Decoder Int).runAt code pc = .ok (Jvm.ClassFile.Reader.signed 16 (a.toNat * 256 + b.toNat), pc + 2) :=
  run_map (u2_at h1 h2)
theorem dec_of {code : ByteArray} {pc n : Nat} {i : Instr} (h : (Jvm.ClassFile.Decoder.instr pc).runAt code pc = .ok (i, pc + n)) : decode code pc = .ok (i, n) := by
  have h1 : decode code pc = (match (Jvm.ClassFile.Decoder.instr pc).runAt code pc with | .error e => .error e | .ok (i, q) => .ok (i, q - pc)) := by
    show Except.bind _ _ = _
    cases (Jvm.ClassFile.Decoder.instr pc).runAt code pc with
    | error e => rfl
    | ok v => rfl
  rw [h1, h]
  show Except.ok (i, pc + n - pc) = _
  rw [Nat.add_sub_cancel_left]
theorem uat {code : ByteArray} {base len : Nat} {L : List UInt8} (hc : (code.data.toList.drop base).take len = L) (o : Nat) {b : UInt8} (h : L[o]? = some b) : code.data.toList[base + o]? = some b := by
  subst hc
  rw [List.getElem?_take] at h
  split at h
  · rwa [List.getElem?_drop] at h
  · cases h
theorem dq_46 {code : ByteArray} {pc : Nat} (h : code.data.toList[pc]? = some 46) : decode code pc = .ok (.iaload, 1) := dec_of ((run_b (u1_at h)).trans rfl)
theorem dq_96 {code : ByteArray} {pc : Nat} (h : code.data.toList[pc]? = some 96) : decode code pc = .ok (.iadd, 1) := dec_of ((run_b (u1_at h)).trans rfl)
theorem dq_42 {code : ByteArray} {pc : Nat} (h : code.data.toList[pc]? = some 42) : decode code pc = .ok (.aload_n 0, 1) := dec_of ((run_b (u1_at h)).trans rfl)
theorem dq_43 {code : ByteArray} {pc : Nat} (h : code.data.toList[pc]? = some 43) : decode code pc = .ok (.aload_n 1, 1) := dec_of ((run_b (u1_at h)).trans rfl)
theorem dq_44 {code : ByteArray} {pc : Nat} (h : code.data.toList[pc]? = some 44) : decode code pc = .ok (.aload_n 2, 1) := dec_of ((run_b (u1_at h)).trans rfl)
theorem dq_45 {code : ByteArray} {pc : Nat} (h : code.data.toList[pc]? = some 45) : decode code pc = .ok (.aload_n 3, 1) := dec_of ((run_b (u1_at h)).trans rfl)
theorem dq_3 {code : ByteArray} {pc : Nat} (h : code.data.toList[pc]? = some 3) : decode code pc = .ok (.iconst 0, 1) := dec_of ((run_b (u1_at h)).trans rfl)
theorem dq_4 {code : ByteArray} {pc : Nat} (h : code.data.toList[pc]? = some 4) : decode code pc = .ok (.iconst 1, 1) := dec_of ((run_b (u1_at h)).trans rfl)
theorem dq_5 {code : ByteArray} {pc : Nat} (h : code.data.toList[pc]? = some 5) : decode code pc = .ok (.iconst 2, 1) := dec_of ((run_b (u1_at h)).trans rfl)
theorem dq_6 {code : ByteArray} {pc : Nat} (h : code.data.toList[pc]? = some 6) : decode code pc = .ok (.iconst 3, 1) := dec_of ((run_b (u1_at h)).trans rfl)
theorem dq_7 {code : ByteArray} {pc : Nat} (h : code.data.toList[pc]? = some 7) : decode code pc = .ok (.iconst 4, 1) := dec_of ((run_b (u1_at h)).trans rfl)
theorem dq_8 {code : ByteArray} {pc : Nat} (h : code.data.toList[pc]? = some 8) : decode code pc = .ok (.iconst 5, 1) := dec_of ((run_b (u1_at h)).trans rfl)
theorem dq_21 {code : ByteArray} {pc : Nat} (x : UInt8) {v : Nat} (h : code.data.toList[pc]? = some 21) (h1 : code.data.toList[pc + 1]? = some x) (hv : x.toNat = v) : decode code pc = .ok (.iload v, 2) := by
  subst hv
  exact dec_of ((run_b (u1_at h)).trans ((run_b (u1_at h1)).trans rfl))
theorem dq_54 {code : ByteArray} {pc : Nat} (x : UInt8) {v : Nat} (h : code.data.toList[pc]? = some 54) (h1 : code.data.toList[pc + 1]? = some x) (hv : x.toNat = v) : decode code pc = .ok (.istore v, 2) := by
  subst hv
  exact dec_of ((run_b (u1_at h)).trans ((run_b (u1_at h1)).trans rfl))
theorem dq_182 {code : ByteArray} {pc : Nat} (x y : UInt8) {v : Nat} (h : code.data.toList[pc]? = some 182) (h1 : code.data.toList[pc + 1]? = some x) (h2 : code.data.toList[pc + 2]? = some y) (hv : x.toNat * 256 + y.toNat = v) : decode code pc = .ok (.invokevirtual v, 3) := by
  subst hv
  exact dec_of ((run_b (u1_at h)).trans ((run_b (u2_at h1 h2)).trans rfl))
theorem dq_184 {code : ByteArray} {pc : Nat} (x y : UInt8) {v : Nat} (h : code.data.toList[pc]? = some 184) (h1 : code.data.toList[pc + 1]? = some x) (h2 : code.data.toList[pc + 2]? = some y) (hv : x.toNat * 256 + y.toNat = v) : decode code pc = .ok (.invokestatic v, 3) := by
  subst hv
  exact dec_of ((run_b (u1_at h)).trans ((run_b (u2_at h1 h2)).trans rfl))
theorem dq_167 {code : ByteArray} {pc : Nat} (x y : UInt8) {v : Int} (h : code.data.toList[pc]? = some 167) (h1 : code.data.toList[pc + 1]? = some x) (h2 : code.data.toList[pc + 2]? = some y) (hv : Jvm.ClassFile.Reader.signed 16 (x.toNat * 256 + y.toNat) = v) : decode code pc = .ok (.goto v, 3) := by
  subst hv
  exact dec_of ((run_b (u1_at h)).trans ((run_b (s2_at h1 h2)).trans rfl))
theorem dq_153 {code : ByteArray} {pc : Nat} (x y : UInt8) {v : Int} (h : code.data.toList[pc]? = some 153) (h1 : code.data.toList[pc + 1]? = some x) (h2 : code.data.toList[pc + 2]? = some y) (hv : Jvm.ClassFile.Reader.signed 16 (x.toNat * 256 + y.toNat) = v) : decode code pc = .ok (.ifCond .eq v, 3) := by
  subst hv
  exact dec_of ((run_b (u1_at h)).trans ((run_b (s2_at h1 h2)).trans rfl))
theorem ck_cL_law_24 : (cL_law.data.toList.drop 24).take 229 = [3, 54, 4, 21, 4, 42, 190, 16, 7, 100, 163, 8, 39, 42, 21, 4, 46, 16, 63, 126, 170, 0, 0, 0, 0, 0, 8, 23, 0, 0, 0, 0, 0, 0, 0, 43, 0, 0, 0, 192, 0, 0, 1, 26, 0, 0, 1, 54, 0, 0, 1, 94, 0, 0, 1, 158, 0, 0, 1, 210, 0, 0, 2, 6, 0, 0, 2, 58, 0, 0, 2, 126, 0, 0, 2, 194, 0, 0, 2, 246, 0, 0, 3, 74, 0, 0, 3, 114, 0, 0, 3, 154, 0, 0, 3, 182, 0, 0, 3, 222, 0, 0, 3, 250, 0, 0, 4, 46, 0, 0, 4, 74, 0, 0, 4, 114, 0, 0, 4, 127, 0, 0, 4, 155, 0, 0, 4, 183, 0, 0, 4, 223, 0, 0, 4, 251, 0, 0, 5, 23, 0, 0, 5, 51, 0, 0, 5, 91, 0, 0, 5, 131, 0, 0, 5, 183, 0, 0, 5, 251, 0, 0, 6, 75, 0, 0, 6, 115, 0, 0, 6, 155, 0, 0, 6, 195, 0, 0, 7, 7, 0, 0, 7, 47, 0, 0, 7, 116, 0, 0, 7, 129, 0, 0, 7, 157, 0, 0, 7, 185, 0, 0, 7, 225, 0, 0, 7, 253, 0, 0, 8, 10, 43, 42, 21, 4, 4, 96, 46, 42, 21, 4, 5, 96, 46, 42, 21, 4, 6] := by decide +kernel
theorem dL_law_0 : decode cL_law 0 = .ok (.new 8, 3) := by decide +kernel
theorem dL_law_3 : decode cL_law 3 = .ok (.dup, 1) := by decide +kernel
theorem dL_law_4 : decode cL_law 4 = .ok (.invokespecial 158, 3) := by decide +kernel
theorem dL_law_7 : decode cL_law 7 = .ok (.astore_n 1, 1) := by decide +kernel
theorem dL_law_8 : decode cL_law 8 = .ok (.new 159, 3) := by decide +kernel
theorem dL_law_11 : decode cL_law 11 = .ok (.dup, 1) := by decide +kernel
theorem dL_law_12 : decode cL_law 12 = .ok (.invokespecial 161, 3) := by decide +kernel
theorem dL_law_15 : decode cL_law 15 = .ok (.astore_n 2, 1) := by decide +kernel
theorem dL_law_16 : decode cL_law 16 = .ok (.new 14, 3) := by decide +kernel
theorem dL_law_19 : decode cL_law 19 = .ok (.dup, 1) := by decide +kernel
theorem dL_law_20 : decode cL_law 20 = .ok (.invokespecial 162, 3) := by decide +kernel
theorem dL_law_23 : decode cL_law 23 = .ok (.astore_n 3, 1) := by decide +kernel
theorem dL_law_24 : decode cL_law 24 = .ok (.iconst 0, 1) := dq_3  (uat ck_cL_law_24 0 rfl)
theorem dL_law_25 : decode cL_law 25 = .ok (.istore 4, 2) := dq_54 4 (uat ck_cL_law_24 1 rfl) (uat ck_cL_law_24 2 rfl) rfl
theorem dL_law_27 : decode cL_law 27 = .ok (.iload 4, 2) := dq_21 4 (uat ck_cL_law_24 3 rfl) (uat ck_cL_law_24 4 rfl) rfl
theorem dL_law_29 : decode cL_law 29 = .ok (.aload_n 0, 1) := dq_42  (uat ck_cL_law_24 5 rfl)
theorem dL_law_30 : decode cL_law 30 = .ok (.arraylength, 1) := by decide +kernel
theorem dL_law_31 : decode cL_law 31 = .ok (.bipush 7, 2) := by decide +kernel
theorem dL_law_33 : decode cL_law 33 = .ok (.isub, 1) := by decide +kernel
theorem dL_law_34 : decode cL_law 34 = .ok (.if_icmp .gt 2087, 3) := by decide +kernel
theorem dL_law_37 : decode cL_law 37 = .ok (.aload_n 0, 1) := dq_42  (uat ck_cL_law_24 13 rfl)
theorem dL_law_38 : decode cL_law 38 = .ok (.iload 4, 2) := dq_21 4 (uat ck_cL_law_24 14 rfl) (uat ck_cL_law_24 15 rfl) rfl
theorem dL_law_40 : decode cL_law 40 = .ok (.iaload, 1) := dq_46  (uat ck_cL_law_24 16 rfl)
theorem dL_law_41 : decode cL_law 41 = .ok (.bipush 63, 2) := by decide +kernel
theorem dL_law_43 : decode cL_law 43 = .ok (.iand, 1) := by decide +kernel
theorem dL_law_44 : decode cL_law 44 = .ok (.tableswitch 2071 0 43 #[192, 282, 310, 350, 414, 466, 518, 570, 638, 706, 758, 842, 882, 922, 950, 990, 1018, 1070, 1098, 1138, 1151, 1179, 1207, 1247, 1275, 1303, 1331, 1371, 1411, 1463, 1531, 1611, 1651, 1691, 1731, 1799, 1839, 1908, 1921, 1949, 1977, 2017, 2045, 2058], 192) := by decide +kernel
theorem dL_law_236 : decode cL_law 236 = .ok (.aload_n 1, 1) := dq_43  (uat ck_cL_law_24 212 rfl)
theorem dL_law_237 : decode cL_law 237 = .ok (.aload_n 0, 1) := dq_42  (uat ck_cL_law_24 213 rfl)
theorem dL_law_238 : decode cL_law 238 = .ok (.iload 4, 2) := dq_21 4 (uat ck_cL_law_24 214 rfl) (uat ck_cL_law_24 215 rfl) rfl
theorem dL_law_240 : decode cL_law 240 = .ok (.iconst 1, 1) := dq_4  (uat ck_cL_law_24 216 rfl)
theorem dL_law_241 : decode cL_law 241 = .ok (.iadd, 1) := dq_96  (uat ck_cL_law_24 217 rfl)
theorem dL_law_242 : decode cL_law 242 = .ok (.iaload, 1) := dq_46  (uat ck_cL_law_24 218 rfl)
theorem dL_law_243 : decode cL_law 243 = .ok (.aload_n 0, 1) := dq_42  (uat ck_cL_law_24 219 rfl)
theorem dL_law_244 : decode cL_law 244 = .ok (.iload 4, 2) := dq_21 4 (uat ck_cL_law_24 220 rfl) (uat ck_cL_law_24 221 rfl) rfl
theorem dL_law_246 : decode cL_law 246 = .ok (.iconst 2, 1) := dq_5  (uat ck_cL_law_24 222 rfl)
theorem dL_law_247 : decode cL_law 247 = .ok (.iadd, 1) := dq_96  (uat ck_cL_law_24 223 rfl)
theorem dL_law_248 : decode cL_law 248 = .ok (.iaload, 1) := dq_46  (uat ck_cL_law_24 224 rfl)
theorem dL_law_249 : decode cL_law 249 = .ok (.aload_n 0, 1) := dq_42  (uat ck_cL_law_24 225 rfl)
theorem dL_law_250 : decode cL_law 250 = .ok (.iload 4, 2) := dq_21 4 (uat ck_cL_law_24 226 rfl) (uat ck_cL_law_24 227 rfl) rfl
theorem dL_law_252 : decode cL_law 252 = .ok (.iconst 3, 1) := dq_6  (uat ck_cL_law_24 228 rfl)
theorem ck_cL_law_253 : (cL_law.data.toList.drop 253).take 51 = [96, 46, 42, 21, 4, 7, 96, 46, 42, 21, 4, 8, 96, 46, 42, 21, 4, 16, 6, 96, 46, 45, 184, 0, 163, 54, 5, 44, 42, 21, 4, 4, 96, 46, 42, 21, 4, 5, 96, 46, 42, 21, 4, 6, 96, 46, 42, 21, 4, 7, 96] := by decide +kernel
theorem dL_law_253 : decode cL_law 253 = .ok (.iadd, 1) := dq_96  (uat ck_cL_law_253 0 rfl)
theorem dL_law_254 : decode cL_law 254 = .ok (.iaload, 1) := dq_46  (uat ck_cL_law_253 1 rfl)
theorem dL_law_255 : decode cL_law 255 = .ok (.aload_n 0, 1) := dq_42  (uat ck_cL_law_253 2 rfl)
theorem dL_law_256 : decode cL_law 256 = .ok (.iload 4, 2) := dq_21 4 (uat ck_cL_law_253 3 rfl) (uat ck_cL_law_253 4 rfl) rfl
theorem dL_law_258 : decode cL_law 258 = .ok (.iconst 4, 1) := dq_7  (uat ck_cL_law_253 5 rfl)
theorem dL_law_259 : decode cL_law 259 = .ok (.iadd, 1) := dq_96  (uat ck_cL_law_253 6 rfl)
theorem dL_law_260 : decode cL_law 260 = .ok (.iaload, 1) := dq_46  (uat ck_cL_law_253 7 rfl)
theorem dL_law_261 : decode cL_law 261 = .ok (.aload_n 0, 1) := dq_42  (uat ck_cL_law_253 8 rfl)
theorem dL_law_262 : decode cL_law 262 = .ok (.iload 4, 2) := dq_21 4 (uat ck_cL_law_253 9 rfl) (uat ck_cL_law_253 10 rfl) rfl
theorem dL_law_264 : decode cL_law 264 = .ok (.iconst 5, 1) := dq_8  (uat ck_cL_law_253 11 rfl)
theorem dL_law_265 : decode cL_law 265 = .ok (.iadd, 1) := dq_96  (uat ck_cL_law_253 12 rfl)
theorem dL_law_266 : decode cL_law 266 = .ok (.iaload, 1) := dq_46  (uat ck_cL_law_253 13 rfl)
theorem dL_law_267 : decode cL_law 267 = .ok (.aload_n 0, 1) := dq_42  (uat ck_cL_law_253 14 rfl)
theorem dL_law_268 : decode cL_law 268 = .ok (.iload 4, 2) := dq_21 4 (uat ck_cL_law_253 15 rfl) (uat ck_cL_law_253 16 rfl) rfl
theorem dL_law_270 : decode cL_law 270 = .ok (.bipush 6, 2) := by decide +kernel
theorem dL_law_272 : decode cL_law 272 = .ok (.iadd, 1) := dq_96  (uat ck_cL_law_253 19 rfl)
theorem dL_law_273 : decode cL_law 273 = .ok (.iaload, 1) := dq_46  (uat ck_cL_law_253 20 rfl)
theorem dL_law_274 : decode cL_law 274 = .ok (.aload_n 3, 1) := dq_45  (uat ck_cL_law_253 21 rfl)
theorem dL_law_275 : decode cL_law 275 = .ok (.invokestatic 163, 3) := dq_184 0 163 (uat ck_cL_law_253 22 rfl) (uat ck_cL_law_253 23 rfl) (uat ck_cL_law_253 24 rfl) rfl
theorem dL_law_278 : decode cL_law 278 = .ok (.istore 5, 2) := dq_54 5 (uat ck_cL_law_253 25 rfl) (uat ck_cL_law_253 26 rfl) rfl
theorem dL_law_280 : decode cL_law 280 = .ok (.aload_n 2, 1) := dq_44  (uat ck_cL_law_253 27 rfl)
theorem dL_law_281 : decode cL_law 281 = .ok (.aload_n 0, 1) := dq_42  (uat ck_cL_law_253 28 rfl)
theorem dL_law_282 : decode cL_law 282 = .ok (.iload 4, 2) := dq_21 4 (uat ck_cL_law_253 29 rfl) (uat ck_cL_law_253 30 rfl) rfl
theorem dL_law_284 : decode cL_law 284 = .ok (.iconst 1, 1) := dq_4  (uat ck_cL_law_253 31 rfl)
theorem dL_law_285 : decode cL_law 285 = .ok (.iadd, 1) := dq_96  (uat ck_cL_law_253 32 rfl)
theorem dL_law_286 : decode cL_law 286 = .ok (.iaload, 1) := dq_46  (uat ck_cL_law_253 33 rfl)
theorem dL_law_287 : decode cL_law 287 = .ok (.aload_n 0, 1) := dq_42  (uat ck_cL_law_253 34 rfl)
theorem dL_law_288 : decode cL_law 288 = .ok (.iload 4, 2) := dq_21 4 (uat ck_cL_law_253 35 rfl) (uat ck_cL_law_253 36 rfl) rfl
theorem dL_law_290 : decode cL_law 290 = .ok (.iconst 2, 1) := dq_5  (uat ck_cL_law_253 37 rfl)
theorem dL_law_291 : decode cL_law 291 = .ok (.iadd, 1) := dq_96  (uat ck_cL_law_253 38 rfl)
theorem dL_law_292 : decode cL_law 292 = .ok (.iaload, 1) := dq_46  (uat ck_cL_law_253 39 rfl)
theorem dL_law_293 : decode cL_law 293 = .ok (.aload_n 0, 1) := dq_42  (uat ck_cL_law_253 40 rfl)
theorem dL_law_294 : decode cL_law 294 = .ok (.iload 4, 2) := dq_21 4 (uat ck_cL_law_253 41 rfl) (uat ck_cL_law_253 42 rfl) rfl
theorem dL_law_296 : decode cL_law 296 = .ok (.iconst 3, 1) := dq_6  (uat ck_cL_law_253 43 rfl)
theorem dL_law_297 : decode cL_law 297 = .ok (.iadd, 1) := dq_96  (uat ck_cL_law_253 44 rfl)
theorem dL_law_298 : decode cL_law 298 = .ok (.iaload, 1) := dq_46  (uat ck_cL_law_253 45 rfl)
theorem dL_law_299 : decode cL_law 299 = .ok (.aload_n 0, 1) := dq_42  (uat ck_cL_law_253 46 rfl)
theorem dL_law_300 : decode cL_law 300 = .ok (.iload 4, 2) := dq_21 4 (uat ck_cL_law_253 47 rfl) (uat ck_cL_law_253 48 rfl) rfl
theorem dL_law_302 : decode cL_law 302 = .ok (.iconst 4, 1) := dq_7  (uat ck_cL_law_253 49 rfl)
theorem dL_law_303 : decode cL_law 303 = .ok (.iadd, 1) := dq_96  (uat ck_cL_law_253 50 rfl)
theorem ck_cL_law_304 : (cL_law.data.toList.drop 304).take 60 = [46, 42, 21, 4, 8, 96, 46, 42, 21, 4, 16, 6, 96, 46, 182, 0, 168, 54, 6, 167, 7, 0, 43, 42, 21, 4, 4, 96, 46, 45, 184, 0, 169, 54, 5, 44, 42, 21, 4, 4, 96, 46, 182, 0, 172, 54, 6, 167, 6, 228, 43, 42, 21, 4, 4, 96, 46, 42, 21, 4] := by decide +kernel
theorem dL_law_304 : decode cL_law 304 = .ok (.iaload, 1) := dq_46  (uat ck_cL_law_304 0 rfl)
theorem dL_law_305 : decode cL_law 305 = .ok (.aload_n 0, 1) := dq_42  (uat ck_cL_law_304 1 rfl)
theorem dL_law_306 : decode cL_law 306 = .ok (.iload 4, 2) := dq_21 4 (uat ck_cL_law_304 2 rfl) (uat ck_cL_law_304 3 rfl) rfl
theorem dL_law_308 : decode cL_law 308 = .ok (.iconst 5, 1) := dq_8  (uat ck_cL_law_304 4 rfl)
theorem dL_law_309 : decode cL_law 309 = .ok (.iadd, 1) := dq_96  (uat ck_cL_law_304 5 rfl)
theorem dL_law_310 : decode cL_law 310 = .ok (.iaload, 1) := dq_46  (uat ck_cL_law_304 6 rfl)
theorem dL_law_311 : decode cL_law 311 = .ok (.aload_n 0, 1) := dq_42  (uat ck_cL_law_304 7 rfl)
theorem dL_law_312 : decode cL_law 312 = .ok (.iload 4, 2) := dq_21 4 (uat ck_cL_law_304 8 rfl) (uat ck_cL_law_304 9 rfl) rfl
theorem dL_law_314 : decode cL_law 314 = .ok (.bipush 6, 2) := by decide +kernel
theorem dL_law_316 : decode cL_law 316 = .ok (.iadd, 1) := dq_96  (uat ck_cL_law_304 12 rfl)
theorem dL_law_317 : decode cL_law 317 = .ok (.iaload, 1) := dq_46  (uat ck_cL_law_304 13 rfl)
theorem dL_law_318 : decode cL_law 318 = .ok (.invokevirtual 168, 3) := dq_182 0 168 (uat ck_cL_law_304 14 rfl) (uat ck_cL_law_304 15 rfl) (uat ck_cL_law_304 16 rfl) rfl
theorem dL_law_321 : decode cL_law 321 = .ok (.istore 6, 2) := dq_54 6 (uat ck_cL_law_304 17 rfl) (uat ck_cL_law_304 18 rfl) rfl
theorem dL_law_323 : decode cL_law 323 = .ok (.goto 1792, 3) := dq_167 7 0 (uat ck_cL_law_304 19 rfl) (uat ck_cL_law_304 20 rfl) (uat ck_cL_law_304 21 rfl) (by decide)
theorem dL_law_326 : decode cL_law 326 = .ok (.aload_n 1, 1) := dq_43  (uat ck_cL_law_304 22 rfl)
theorem dL_law_327 : decode cL_law 327 = .ok (.aload_n 0, 1) := dq_42  (uat ck_cL_law_304 23 rfl)
theorem dL_law_328 : decode cL_law 328 = .ok (.iload 4, 2) := dq_21 4 (uat ck_cL_law_304 24 rfl) (uat ck_cL_law_304 25 rfl) rfl
theorem dL_law_330 : decode cL_law 330 = .ok (.iconst 1, 1) := dq_4  (uat ck_cL_law_304 26 rfl)
theorem dL_law_331 : decode cL_law 331 = .ok (.iadd, 1) := dq_96  (uat ck_cL_law_304 27 rfl)
theorem dL_law_332 : decode cL_law 332 = .ok (.iaload, 1) := dq_46  (uat ck_cL_law_304 28 rfl)
theorem dL_law_333 : decode cL_law 333 = .ok (.aload_n 3, 1) := dq_45  (uat ck_cL_law_304 29 rfl)
theorem dL_law_334 : decode cL_law 334 = .ok (.invokestatic 169, 3) := dq_184 0 169 (uat ck_cL_law_304 30 rfl) (uat ck_cL_law_304 31 rfl) (uat ck_cL_law_304 32 rfl) rfl
theorem dL_law_337 : decode cL_law 337 = .ok (.istore 5, 2) := dq_54 5 (uat ck_cL_law_304 33 rfl) (uat ck_cL_law_304 34 rfl) rfl
theorem dL_law_339 : decode cL_law 339 = .ok (.aload_n 2, 1) := dq_44  (uat ck_cL_law_304 35 rfl)
theorem dL_law_340 : decode cL_law 340 = .ok (.aload_n 0, 1) := dq_42  (uat ck_cL_law_304 36 rfl)
theorem dL_law_341 : decode cL_law 341 = .ok (.iload 4, 2) := dq_21 4 (uat ck_cL_law_304 37 rfl) (uat ck_cL_law_304 38 rfl) rfl
theorem dL_law_343 : decode cL_law 343 = .ok (.iconst 1, 1) := dq_4  (uat ck_cL_law_304 39 rfl)
theorem dL_law_344 : decode cL_law 344 = .ok (.iadd, 1) := dq_96  (uat ck_cL_law_304 40 rfl)
theorem dL_law_345 : decode cL_law 345 = .ok (.iaload, 1) := dq_46  (uat ck_cL_law_304 41 rfl)
theorem dL_law_346 : decode cL_law 346 = .ok (.invokevirtual 172, 3) := dq_182 0 172 (uat ck_cL_law_304 42 rfl) (uat ck_cL_law_304 43 rfl) (uat ck_cL_law_304 44 rfl) rfl
theorem dL_law_349 : decode cL_law 349 = .ok (.istore 6, 2) := dq_54 6 (uat ck_cL_law_304 45 rfl) (uat ck_cL_law_304 46 rfl) rfl
theorem dL_law_351 : decode cL_law 351 = .ok (.goto 1764, 3) := dq_167 6 228 (uat ck_cL_law_304 47 rfl) (uat ck_cL_law_304 48 rfl) (uat ck_cL_law_304 49 rfl) (by decide)
theorem dL_law_354 : decode cL_law 354 = .ok (.aload_n 1, 1) := dq_43  (uat ck_cL_law_304 50 rfl)
theorem dL_law_355 : decode cL_law 355 = .ok (.aload_n 0, 1) := dq_42  (uat ck_cL_law_304 51 rfl)
theorem dL_law_356 : decode cL_law 356 = .ok (.iload 4, 2) := dq_21 4 (uat ck_cL_law_304 52 rfl) (uat ck_cL_law_304 53 rfl) rfl
theorem dL_law_358 : decode cL_law 358 = .ok (.iconst 1, 1) := dq_4  (uat ck_cL_law_304 54 rfl)
theorem dL_law_359 : decode cL_law 359 = .ok (.iadd, 1) := dq_96  (uat ck_cL_law_304 55 rfl)
theorem dL_law_360 : decode cL_law 360 = .ok (.iaload, 1) := dq_46  (uat ck_cL_law_304 56 rfl)
theorem dL_law_361 : decode cL_law 361 = .ok (.aload_n 0, 1) := dq_42  (uat ck_cL_law_304 57 rfl)
theorem dL_law_362 : decode cL_law 362 = .ok (.iload 4, 2) := dq_21 4 (uat ck_cL_law_304 58 rfl) (uat ck_cL_law_304 59 rfl) rfl
theorem ck_cL_law_364 : (cL_law.data.toList.drop 364).take 54 = [5, 96, 46, 45, 184, 0, 173, 54, 5, 44, 42, 21, 4, 4, 96, 46, 42, 21, 4, 5, 96, 46, 182, 0, 176, 54, 6, 167, 6, 188, 43, 42, 21, 4, 4, 96, 46, 42, 21, 4, 5, 96, 46, 42, 21, 4, 6, 96, 46, 42, 21, 4, 7, 96] := by decide +kernel
theorem dL_law_364 : decode cL_law 364 = .ok (.iconst 2, 1) := dq_5  (uat ck_cL_law_364 0 rfl)
theorem dL_law_365 : decode cL_law 365 = .ok (.iadd, 1) := dq_96  (uat ck_cL_law_364 1 rfl)
theorem dL_law_366 : decode cL_law 366 = .ok (.iaload, 1) := dq_46  (uat ck_cL_law_364 2 rfl)
theorem dL_law_367 : decode cL_law 367 = .ok (.aload_n 3, 1) := dq_45  (uat ck_cL_law_364 3 rfl)
theorem dL_law_368 : decode cL_law 368 = .ok (.invokestatic 173, 3) := dq_184 0 173 (uat ck_cL_law_364 4 rfl) (uat ck_cL_law_364 5 rfl) (uat ck_cL_law_364 6 rfl) rfl
theorem dL_law_371 : decode cL_law 371 = .ok (.istore 5, 2) := dq_54 5 (uat ck_cL_law_364 7 rfl) (uat ck_cL_law_364 8 rfl) rfl
theorem dL_law_373 : decode cL_law 373 = .ok (.aload_n 2, 1) := dq_44  (uat ck_cL_law_364 9 rfl)
theorem dL_law_374 : decode cL_law 374 = .ok (.aload_n 0, 1) := dq_42  (uat ck_cL_law_364 10 rfl)
theorem dL_law_375 : decode cL_law 375 = .ok (.iload 4, 2) := dq_21 4 (uat ck_cL_law_364 11 rfl) (uat ck_cL_law_364 12 rfl) rfl
theorem dL_law_377 : decode cL_law 377 = .ok (.iconst 1, 1) := dq_4  (uat ck_cL_law_364 13 rfl)
theorem dL_law_378 : decode cL_law 378 = .ok (.iadd, 1) := dq_96  (uat ck_cL_law_364 14 rfl)
theorem dL_law_379 : decode cL_law 379 = .ok (.iaload, 1) := dq_46  (uat ck_cL_law_364 15 rfl)
theorem dL_law_380 : decode cL_law 380 = .ok (.aload_n 0, 1) := dq_42  (uat ck_cL_law_364 16 rfl)
theorem dL_law_381 : decode cL_law 381 = .ok (.iload 4, 2) := dq_21 4 (uat ck_cL_law_364 17 rfl) (uat ck_cL_law_364 18 rfl) rfl
theorem dL_law_383 : decode cL_law 383 = .ok (.iconst 2, 1) := dq_5  (uat ck_cL_law_364 19 rfl)
theorem dL_law_384 : decode cL_law 384 = .ok (.iadd, 1) := dq_96  (uat ck_cL_law_364 20 rfl)
theorem dL_law_385 : decode cL_law 385 = .ok (.iaload, 1) := dq_46  (uat ck_cL_law_364 21 rfl)
theorem dL_law_386 : decode cL_law 386 = .ok (.invokevirtual 176, 3) := dq_182 0 176 (uat ck_cL_law_364 22 rfl) (uat ck_cL_law_364 23 rfl) (uat ck_cL_law_364 24 rfl) rfl
theorem dL_law_389 : decode cL_law 389 = .ok (.istore 6, 2) := dq_54 6 (uat ck_cL_law_364 25 rfl) (uat ck_cL_law_364 26 rfl) rfl
theorem dL_law_391 : decode cL_law 391 = .ok (.goto 1724, 3) := dq_167 6 188 (uat ck_cL_law_364 27 rfl) (uat ck_cL_law_364 28 rfl) (uat ck_cL_law_364 29 rfl) (by decide)
theorem dL_law_394 : decode cL_law 394 = .ok (.aload_n 1, 1) := dq_43  (uat ck_cL_law_364 30 rfl)
theorem dL_law_395 : decode cL_law 395 = .ok (.aload_n 0, 1) := dq_42  (uat ck_cL_law_364 31 rfl)
theorem dL_law_396 : decode cL_law 396 = .ok (.iload 4, 2) := dq_21 4 (uat ck_cL_law_364 32 rfl) (uat ck_cL_law_364 33 rfl) rfl
theorem dL_law_398 : decode cL_law 398 = .ok (.iconst 1, 1) := dq_4  (uat ck_cL_law_364 34 rfl)
theorem dL_law_399 : decode cL_law 399 = .ok (.iadd, 1) := dq_96  (uat ck_cL_law_364 35 rfl)
theorem dL_law_400 : decode cL_law 400 = .ok (.iaload, 1) := dq_46  (uat ck_cL_law_364 36 rfl)
theorem dL_law_401 : decode cL_law 401 = .ok (.aload_n 0, 1) := dq_42  (uat ck_cL_law_364 37 rfl)
theorem dL_law_402 : decode cL_law 402 = .ok (.iload 4, 2) := dq_21 4 (uat ck_cL_law_364 38 rfl) (uat ck_cL_law_364 39 rfl) rfl
theorem dL_law_404 : decode cL_law 404 = .ok (.iconst 2, 1) := dq_5  (uat ck_cL_law_364 40 rfl)
theorem dL_law_405 : decode cL_law 405 = .ok (.iadd, 1) := dq_96  (uat ck_cL_law_364 41 rfl)
theorem dL_law_406 : decode cL_law 406 = .ok (.iaload, 1) := dq_46  (uat ck_cL_law_364 42 rfl)
theorem dL_law_407 : decode cL_law 407 = .ok (.aload_n 0, 1) := dq_42  (uat ck_cL_law_364 43 rfl)
theorem dL_law_408 : decode cL_law 408 = .ok (.iload 4, 2) := dq_21 4 (uat ck_cL_law_364 44 rfl) (uat ck_cL_law_364 45 rfl) rfl
theorem dL_law_410 : decode cL_law 410 = .ok (.iconst 3, 1) := dq_6  (uat ck_cL_law_364 46 rfl)
theorem dL_law_411 : decode cL_law 411 = .ok (.iadd, 1) := dq_96  (uat ck_cL_law_364 47 rfl)
theorem dL_law_412 : decode cL_law 412 = .ok (.iaload, 1) := dq_46  (uat ck_cL_law_364 48 rfl)
theorem dL_law_413 : decode cL_law 413 = .ok (.aload_n 0, 1) := dq_42  (uat ck_cL_law_364 49 rfl)
theorem dL_law_414 : decode cL_law 414 = .ok (.iload 4, 2) := dq_21 4 (uat ck_cL_law_364 50 rfl) (uat ck_cL_law_364 51 rfl) rfl
theorem dL_law_416 : decode cL_law 416 = .ok (.iconst 4, 1) := dq_7  (uat ck_cL_law_364 52 rfl)
theorem dL_law_417 : decode cL_law 417 = .ok (.iadd, 1) := dq_96  (uat ck_cL_law_364 53 rfl)
theorem ck_cL_law_418 : (cL_law.data.toList.drop 418).take 54 = [46, 45, 184, 0, 177, 54, 5, 44, 42, 21, 4, 4, 96, 46, 42, 21, 4, 5, 96, 46, 42, 21, 4, 6, 96, 46, 42, 21, 4, 7, 96, 46, 182, 0, 180, 54, 6, 167, 6, 124, 43, 42, 21, 4, 4, 96, 46, 42, 21, 4, 5, 96, 46, 42] := by decide +kernel
theorem dL_law_418 : decode cL_law 418 = .ok (.iaload, 1) := dq_46  (uat ck_cL_law_418 0 rfl)
theorem dL_law_419 : decode cL_law 419 = .ok (.aload_n 3, 1) := dq_45  (uat ck_cL_law_418 1 rfl)
theorem dL_law_420 : decode cL_law 420 = .ok (.invokestatic 177, 3) := dq_184 0 177 (uat ck_cL_law_418 2 rfl) (uat ck_cL_law_418 3 rfl) (uat ck_cL_law_418 4 rfl) rfl
theorem dL_law_423 : decode cL_law 423 = .ok (.istore 5, 2) := dq_54 5 (uat ck_cL_law_418 5 rfl) (uat ck_cL_law_418 6 rfl) rfl
theorem dL_law_425 : decode cL_law 425 = .ok (.aload_n 2, 1) := dq_44  (uat ck_cL_law_418 7 rfl)
theorem dL_law_426 : decode cL_law 426 = .ok (.aload_n 0, 1) := dq_42  (uat ck_cL_law_418 8 rfl)
theorem dL_law_427 : decode cL_law 427 = .ok (.iload 4, 2) := dq_21 4 (uat ck_cL_law_418 9 rfl) (uat ck_cL_law_418 10 rfl) rfl
theorem dL_law_429 : decode cL_law 429 = .ok (.iconst 1, 1) := dq_4  (uat ck_cL_law_418 11 rfl)
theorem dL_law_430 : decode cL_law 430 = .ok (.iadd, 1) := dq_96  (uat ck_cL_law_418 12 rfl)
theorem dL_law_431 : decode cL_law 431 = .ok (.iaload, 1) := dq_46  (uat ck_cL_law_418 13 rfl)
theorem dL_law_432 : decode cL_law 432 = .ok (.aload_n 0, 1) := dq_42  (uat ck_cL_law_418 14 rfl)
theorem dL_law_433 : decode cL_law 433 = .ok (.iload 4, 2) := dq_21 4 (uat ck_cL_law_418 15 rfl) (uat ck_cL_law_418 16 rfl) rfl
theorem dL_law_435 : decode cL_law 435 = .ok (.iconst 2, 1) := dq_5  (uat ck_cL_law_418 17 rfl)
theorem dL_law_436 : decode cL_law 436 = .ok (.iadd, 1) := dq_96  (uat ck_cL_law_418 18 rfl)
theorem dL_law_437 : decode cL_law 437 = .ok (.iaload, 1) := dq_46  (uat ck_cL_law_418 19 rfl)
theorem dL_law_438 : decode cL_law 438 = .ok (.aload_n 0, 1) := dq_42  (uat ck_cL_law_418 20 rfl)
theorem dL_law_439 : decode cL_law 439 = .ok (.iload 4, 2) := dq_21 4 (uat ck_cL_law_418 21 rfl) (uat ck_cL_law_418 22 rfl) rfl
theorem dL_law_441 : decode cL_law 441 = .ok (.iconst 3, 1) := dq_6  (uat ck_cL_law_418 23 rfl)
theorem dL_law_442 : decode cL_law 442 = .ok (.iadd, 1) := dq_96  (uat ck_cL_law_418 24 rfl)
theorem dL_law_443 : decode cL_law 443 = .ok (.iaload, 1) := dq_46  (uat ck_cL_law_418 25 rfl)
theorem dL_law_444 : decode cL_law 444 = .ok (.aload_n 0, 1) := dq_42  (uat ck_cL_law_418 26 rfl)
theorem dL_law_445 : decode cL_law 445 = .ok (.iload 4, 2) := dq_21 4 (uat ck_cL_law_418 27 rfl) (uat ck_cL_law_418 28 rfl) rfl
theorem dL_law_447 : decode cL_law 447 = .ok (.iconst 4, 1) := dq_7  (uat ck_cL_law_418 29 rfl)
theorem dL_law_448 : decode cL_law 448 = .ok (.iadd, 1) := dq_96  (uat ck_cL_law_418 30 rfl)
theorem dL_law_449 : decode cL_law 449 = .ok (.iaload, 1) := dq_46  (uat ck_cL_law_418 31 rfl)
theorem dL_law_450 : decode cL_law 450 = .ok (.invokevirtual 180, 3) := dq_182 0 180 (uat ck_cL_law_418 32 rfl) (uat ck_cL_law_418 33 rfl) (uat ck_cL_law_418 34 rfl) rfl
theorem dL_law_453 : decode cL_law 453 = .ok (.istore 6, 2) := dq_54 6 (uat ck_cL_law_418 35 rfl) (uat ck_cL_law_418 36 rfl) rfl
theorem dL_law_455 : decode cL_law 455 = .ok (.goto 1660, 3) := dq_167 6 124 (uat ck_cL_law_418 37 rfl) (uat ck_cL_law_418 38 rfl) (uat ck_cL_law_418 39 rfl) (by decide)
theorem dL_law_458 : decode cL_law 458 = .ok (.aload_n 1, 1) := dq_43  (uat ck_cL_law_418 40 rfl)
theorem dL_law_459 : decode cL_law 459 = .ok (.aload_n 0, 1) := dq_42  (uat ck_cL_law_418 41 rfl)
theorem dL_law_460 : decode cL_law 460 = .ok (.iload 4, 2) := dq_21 4 (uat ck_cL_law_418 42 rfl) (uat ck_cL_law_418 43 rfl) rfl
theorem dL_law_462 : decode cL_law 462 = .ok (.iconst 1, 1) := dq_4  (uat ck_cL_law_418 44 rfl)
theorem dL_law_463 : decode cL_law 463 = .ok (.iadd, 1) := dq_96  (uat ck_cL_law_418 45 rfl)
theorem dL_law_464 : decode cL_law 464 = .ok (.iaload, 1) := dq_46  (uat ck_cL_law_418 46 rfl)
theorem dL_law_465 : decode cL_law 465 = .ok (.aload_n 0, 1) := dq_42  (uat ck_cL_law_418 47 rfl)
theorem dL_law_466 : decode cL_law 466 = .ok (.iload 4, 2) := dq_21 4 (uat ck_cL_law_418 48 rfl) (uat ck_cL_law_418 49 rfl) rfl
theorem dL_law_468 : decode cL_law 468 = .ok (.iconst 2, 1) := dq_5  (uat ck_cL_law_418 50 rfl)
theorem dL_law_469 : decode cL_law 469 = .ok (.iadd, 1) := dq_96  (uat ck_cL_law_418 51 rfl)
theorem dL_law_470 : decode cL_law 470 = .ok (.iaload, 1) := dq_46  (uat ck_cL_law_418 52 rfl)
theorem dL_law_471 : decode cL_law 471 = .ok (.aload_n 0, 1) := dq_42  (uat ck_cL_law_418 53 rfl)
theorem ck_cL_law_472 : (cL_law.data.toList.drop 472).take 55 = [21, 4, 6, 96, 46, 45, 184, 0, 181, 54, 5, 44, 42, 21, 4, 4, 96, 46, 42, 21, 4, 5, 96, 46, 42, 21, 4, 6, 96, 46, 182, 0, 184, 54, 6, 167, 6, 72, 43, 42, 21, 4, 4, 96, 46, 42, 21, 4, 5, 96, 46, 42, 21, 4, 6] := by decide +kernel
theorem dL_law_472 : decode cL_law 472 = .ok (.iload 4, 2) := dq_21 4 (uat ck_cL_law_472 0 rfl) (uat ck_cL_law_472 1 rfl) rfl
theorem dL_law_474 : decode cL_law 474 = .ok (.iconst 3, 1) := dq_6  (uat ck_cL_law_472 2 rfl)
theorem dL_law_475 : decode cL_law 475 = .ok (.iadd, 1) := dq_96  (uat ck_cL_law_472 3 rfl)
theorem dL_law_476 : decode cL_law 476 = .ok (.iaload, 1) := dq_46  (uat ck_cL_law_472 4 rfl)
theorem dL_law_477 : decode cL_law 477 = .ok (.aload_n 3, 1) := dq_45  (uat ck_cL_law_472 5 rfl)
theorem dL_law_478 : decode cL_law 478 = .ok (.invokestatic 181, 3) := dq_184 0 181 (uat ck_cL_law_472 6 rfl) (uat ck_cL_law_472 7 rfl) (uat ck_cL_law_472 8 rfl) rfl
theorem dL_law_481 : decode cL_law 481 = .ok (.istore 5, 2) := dq_54 5 (uat ck_cL_law_472 9 rfl) (uat ck_cL_law_472 10 rfl) rfl
theorem dL_law_483 : decode cL_law 483 = .ok (.aload_n 2, 1) := dq_44  (uat ck_cL_law_472 11 rfl)
theorem dL_law_484 : decode cL_law 484 = .ok (.aload_n 0, 1) := dq_42  (uat ck_cL_law_472 12 rfl)
theorem dL_law_485 : decode cL_law 485 = .ok (.iload 4, 2) := dq_21 4 (uat ck_cL_law_472 13 rfl) (uat ck_cL_law_472 14 rfl) rfl
theorem dL_law_487 : decode cL_law 487 = .ok (.iconst 1, 1) := dq_4  (uat ck_cL_law_472 15 rfl)
theorem dL_law_488 : decode cL_law 488 = .ok (.iadd, 1) := dq_96  (uat ck_cL_law_472 16 rfl)
theorem dL_law_489 : decode cL_law 489 = .ok (.iaload, 1) := dq_46  (uat ck_cL_law_472 17 rfl)
theorem dL_law_490 : decode cL_law 490 = .ok (.aload_n 0, 1) := dq_42  (uat ck_cL_law_472 18 rfl)
theorem dL_law_491 : decode cL_law 491 = .ok (.iload 4, 2) := dq_21 4 (uat ck_cL_law_472 19 rfl) (uat ck_cL_law_472 20 rfl) rfl
theorem dL_law_493 : decode cL_law 493 = .ok (.iconst 2, 1) := dq_5  (uat ck_cL_law_472 21 rfl)
theorem dL_law_494 : decode cL_law 494 = .ok (.iadd, 1) := dq_96  (uat ck_cL_law_472 22 rfl)
theorem dL_law_495 : decode cL_law 495 = .ok (.iaload, 1) := dq_46  (uat ck_cL_law_472 23 rfl)
theorem dL_law_496 : decode cL_law 496 = .ok (.aload_n 0, 1) := dq_42  (uat ck_cL_law_472 24 rfl)
theorem dL_law_497 : decode cL_law 497 = .ok (.iload 4, 2) := dq_21 4 (uat ck_cL_law_472 25 rfl) (uat ck_cL_law_472 26 rfl) rfl
theorem dL_law_499 : decode cL_law 499 = .ok (.iconst 3, 1) := dq_6  (uat ck_cL_law_472 27 rfl)
theorem dL_law_500 : decode cL_law 500 = .ok (.iadd, 1) := dq_96  (uat ck_cL_law_472 28 rfl)
theorem dL_law_501 : decode cL_law 501 = .ok (.iaload, 1) := dq_46  (uat ck_cL_law_472 29 rfl)
theorem dL_law_502 : decode cL_law 502 = .ok (.invokevirtual 184, 3) := dq_182 0 184 (uat ck_cL_law_472 30 rfl) (uat ck_cL_law_472 31 rfl) (uat ck_cL_law_472 32 rfl) rfl
theorem dL_law_505 : decode cL_law 505 = .ok (.istore 6, 2) := dq_54 6 (uat ck_cL_law_472 33 rfl) (uat ck_cL_law_472 34 rfl) rfl
theorem dL_law_507 : decode cL_law 507 = .ok (.goto 1608, 3) := dq_167 6 72 (uat ck_cL_law_472 35 rfl) (uat ck_cL_law_472 36 rfl) (uat ck_cL_law_472 37 rfl) (by decide)
theorem dL_law_510 : decode cL_law 510 = .ok (.aload_n 1, 1) := dq_43  (uat ck_cL_law_472 38 rfl)
theorem dL_law_511 : decode cL_law 511 = .ok (.aload_n 0, 1) := dq_42  (uat ck_cL_law_472 39 rfl)
theorem dL_law_512 : decode cL_law 512 = .ok (.iload 4, 2) := dq_21 4 (uat ck_cL_law_472 40 rfl) (uat ck_cL_law_472 41 rfl) rfl
theorem dL_law_514 : decode cL_law 514 = .ok (.iconst 1, 1) := dq_4  (uat ck_cL_law_472 42 rfl)
theorem dL_law_515 : decode cL_law 515 = .ok (.iadd, 1) := dq_96  (uat ck_cL_law_472 43 rfl)
theorem dL_law_516 : decode cL_law 516 = .ok (.iaload, 1) := dq_46  (uat ck_cL_law_472 44 rfl)
theorem dL_law_517 : decode cL_law 517 = .ok (.aload_n 0, 1) := dq_42  (uat ck_cL_law_472 45 rfl)
theorem dL_law_518 : decode cL_law 518 = .ok (.iload 4, 2) := dq_21 4 (uat ck_cL_law_472 46 rfl) (uat ck_cL_law_472 47 rfl) rfl
theorem dL_law_520 : decode cL_law 520 = .ok (.iconst 2, 1) := dq_5  (uat ck_cL_law_472 48 rfl)
theorem dL_law_521 : decode cL_law 521 = .ok (.iadd, 1) := dq_96  (uat ck_cL_law_472 49 rfl)
theorem dL_law_522 : decode cL_law 522 = .ok (.iaload, 1) := dq_46  (uat ck_cL_law_472 50 rfl)
theorem dL_law_523 : decode cL_law 523 = .ok (.aload_n 0, 1) := dq_42  (uat ck_cL_law_472 51 rfl)
theorem dL_law_524 : decode cL_law 524 = .ok (.iload 4, 2) := dq_21 4 (uat ck_cL_law_472 52 rfl) (uat ck_cL_law_472 53 rfl) rfl
theorem dL_law_526 : decode cL_law 526 = .ok (.iconst 3, 1) := dq_6  (uat ck_cL_law_472 54 rfl)
theorem ck_cL_law_527 : (cL_law.data.toList.drop 527).take 54 = [96, 46, 45, 184, 0, 185, 54, 5, 44, 42, 21, 4, 4, 96, 46, 42, 21, 4, 5, 96, 46, 42, 21, 4, 6, 96, 46, 182, 0, 187, 54, 6, 167, 6, 20, 43, 42, 21, 4, 4, 96, 46, 42, 21, 4, 5, 96, 46, 42, 21, 4, 6, 96, 46] := by decide +kernel
theorem dL_law_527 : decode cL_law 527 = .ok (.iadd, 1) := dq_96  (uat ck_cL_law_527 0 rfl)
theorem dL_law_528 : decode cL_law 528 = .ok (.iaload, 1) := dq_46  (uat ck_cL_law_527 1 rfl)
theorem dL_law_529 : decode cL_law 529 = .ok (.aload_n 3, 1) := dq_45  (uat ck_cL_law_527 2 rfl)
theorem dL_law_530 : decode cL_law 530 = .ok (.invokestatic 185, 3) := dq_184 0 185 (uat ck_cL_law_527 3 rfl) (uat ck_cL_law_527 4 rfl) (uat ck_cL_law_527 5 rfl) rfl
theorem dL_law_533 : decode cL_law 533 = .ok (.istore 5, 2) := dq_54 5 (uat ck_cL_law_527 6 rfl) (uat ck_cL_law_527 7 rfl) rfl
theorem dL_law_535 : decode cL_law 535 = .ok (.aload_n 2, 1) := dq_44  (uat ck_cL_law_527 8 rfl)
theorem dL_law_536 : decode cL_law 536 = .ok (.aload_n 0, 1) := dq_42  (uat ck_cL_law_527 9 rfl)
theorem dL_law_537 : decode cL_law 537 = .ok (.iload 4, 2) := dq_21 4 (uat ck_cL_law_527 10 rfl) (uat ck_cL_law_527 11 rfl) rfl
theorem dL_law_539 : decode cL_law 539 = .ok (.iconst 1, 1) := dq_4  (uat ck_cL_law_527 12 rfl)
theorem dL_law_540 : decode cL_law 540 = .ok (.iadd, 1) := dq_96  (uat ck_cL_law_527 13 rfl)
theorem dL_law_541 : decode cL_law 541 = .ok (.iaload, 1) := dq_46  (uat ck_cL_law_527 14 rfl)
theorem dL_law_542 : decode cL_law 542 = .ok (.aload_n 0, 1) := dq_42  (uat ck_cL_law_527 15 rfl)
theorem dL_law_543 : decode cL_law 543 = .ok (.iload 4, 2) := dq_21 4 (uat ck_cL_law_527 16 rfl) (uat ck_cL_law_527 17 rfl) rfl
theorem dL_law_545 : decode cL_law 545 = .ok (.iconst 2, 1) := dq_5  (uat ck_cL_law_527 18 rfl)
theorem dL_law_546 : decode cL_law 546 = .ok (.iadd, 1) := dq_96  (uat ck_cL_law_527 19 rfl)
theorem dL_law_547 : decode cL_law 547 = .ok (.iaload, 1) := dq_46  (uat ck_cL_law_527 20 rfl)
theorem dL_law_548 : decode cL_law 548 = .ok (.aload_n 0, 1) := dq_42  (uat ck_cL_law_527 21 rfl)
theorem dL_law_549 : decode cL_law 549 = .ok (.iload 4, 2) := dq_21 4 (uat ck_cL_law_527 22 rfl) (uat ck_cL_law_527 23 rfl) rfl
theorem dL_law_551 : decode cL_law 551 = .ok (.iconst 3, 1) := dq_6  (uat ck_cL_law_527 24 rfl)
theorem dL_law_552 : decode cL_law 552 = .ok (.iadd, 1) := dq_96  (uat ck_cL_law_527 25 rfl)
theorem dL_law_553 : decode cL_law 553 = .ok (.iaload, 1) := dq_46  (uat ck_cL_law_527 26 rfl)
theorem dL_law_554 : decode cL_law 554 = .ok (.invokevirtual 187, 3) := dq_182 0 187 (uat ck_cL_law_527 27 rfl) (uat ck_cL_law_527 28 rfl) (uat ck_cL_law_527 29 rfl) rfl
theorem dL_law_557 : decode cL_law 557 = .ok (.istore 6, 2) := dq_54 6 (uat ck_cL_law_527 30 rfl) (uat ck_cL_law_527 31 rfl) rfl
theorem dL_law_559 : decode cL_law 559 = .ok (.goto 1556, 3) := dq_167 6 20 (uat ck_cL_law_527 32 rfl) (uat ck_cL_law_527 33 rfl) (uat ck_cL_law_527 34 rfl) (by decide)
theorem dL_law_562 : decode cL_law 562 = .ok (.aload_n 1, 1) := dq_43  (uat ck_cL_law_527 35 rfl)
theorem dL_law_563 : decode cL_law 563 = .ok (.aload_n 0, 1) := dq_42  (uat ck_cL_law_527 36 rfl)
theorem dL_law_564 : decode cL_law 564 = .ok (.iload 4, 2) := dq_21 4 (uat ck_cL_law_527 37 rfl) (uat ck_cL_law_527 38 rfl) rfl
theorem dL_law_566 : decode cL_law 566 = .ok (.iconst 1, 1) := dq_4  (uat ck_cL_law_527 39 rfl)
theorem dL_law_567 : decode cL_law 567 = .ok (.iadd, 1) := dq_96  (uat ck_cL_law_527 40 rfl)
theorem dL_law_568 : decode cL_law 568 = .ok (.iaload, 1) := dq_46  (uat ck_cL_law_527 41 rfl)
theorem dL_law_569 : decode cL_law 569 = .ok (.aload_n 0, 1) := dq_42  (uat ck_cL_law_527 42 rfl)
theorem dL_law_570 : decode cL_law 570 = .ok (.iload 4, 2) := dq_21 4 (uat ck_cL_law_527 43 rfl) (uat ck_cL_law_527 44 rfl) rfl
theorem dL_law_572 : decode cL_law 572 = .ok (.iconst 2, 1) := dq_5  (uat ck_cL_law_527 45 rfl)
theorem dL_law_573 : decode cL_law 573 = .ok (.iadd, 1) := dq_96  (uat ck_cL_law_527 46 rfl)
theorem dL_law_574 : decode cL_law 574 = .ok (.iaload, 1) := dq_46  (uat ck_cL_law_527 47 rfl)
theorem dL_law_575 : decode cL_law 575 = .ok (.aload_n 0, 1) := dq_42  (uat ck_cL_law_527 48 rfl)
theorem dL_law_576 : decode cL_law 576 = .ok (.iload 4, 2) := dq_21 4 (uat ck_cL_law_527 49 rfl) (uat ck_cL_law_527 50 rfl) rfl
theorem dL_law_578 : decode cL_law 578 = .ok (.iconst 3, 1) := dq_6  (uat ck_cL_law_527 51 rfl)
theorem dL_law_579 : decode cL_law 579 = .ok (.iadd, 1) := dq_96  (uat ck_cL_law_527 52 rfl)
theorem dL_law_580 : decode cL_law 580 = .ok (.iaload, 1) := dq_46  (uat ck_cL_law_527 53 rfl)
theorem ck_cL_law_581 : (cL_law.data.toList.drop 581).take 58 = [45, 184, 0, 188, 54, 5, 44, 42, 21, 4, 4, 96, 46, 42, 21, 4, 5, 96, 46, 42, 21, 4, 6, 96, 46, 182, 0, 190, 54, 6, 167, 5, 224, 43, 42, 21, 4, 4, 96, 46, 42, 21, 4, 5, 96, 46, 153, 0, 7, 4, 167, 0, 4, 3, 42, 21, 4, 6] := by decide +kernel
theorem dL_law_581 : decode cL_law 581 = .ok (.aload_n 3, 1) := dq_45  (uat ck_cL_law_581 0 rfl)
theorem dL_law_582 : decode cL_law 582 = .ok (.invokestatic 188, 3) := dq_184 0 188 (uat ck_cL_law_581 1 rfl) (uat ck_cL_law_581 2 rfl) (uat ck_cL_law_581 3 rfl) rfl
theorem dL_law_585 : decode cL_law 585 = .ok (.istore 5, 2) := dq_54 5 (uat ck_cL_law_581 4 rfl) (uat ck_cL_law_581 5 rfl) rfl
theorem dL_law_587 : decode cL_law 587 = .ok (.aload_n 2, 1) := dq_44  (uat ck_cL_law_581 6 rfl)
theorem dL_law_588 : decode cL_law 588 = .ok (.aload_n 0, 1) := dq_42  (uat ck_cL_law_581 7 rfl)
theorem dL_law_589 : decode cL_law 589 = .ok (.iload 4, 2) := dq_21 4 (uat ck_cL_law_581 8 rfl) (uat ck_cL_law_581 9 rfl) rfl
theorem dL_law_591 : decode cL_law 591 = .ok (.iconst 1, 1) := dq_4  (uat ck_cL_law_581 10 rfl)
theorem dL_law_592 : decode cL_law 592 = .ok (.iadd, 1) := dq_96  (uat ck_cL_law_581 11 rfl)
theorem dL_law_593 : decode cL_law 593 = .ok (.iaload, 1) := dq_46  (uat ck_cL_law_581 12 rfl)
theorem dL_law_594 : decode cL_law 594 = .ok (.aload_n 0, 1) := dq_42  (uat ck_cL_law_581 13 rfl)
theorem dL_law_595 : decode cL_law 595 = .ok (.iload 4, 2) := dq_21 4 (uat ck_cL_law_581 14 rfl) (uat ck_cL_law_581 15 rfl) rfl
theorem dL_law_597 : decode cL_law 597 = .ok (.iconst 2, 1) := dq_5  (uat ck_cL_law_581 16 rfl)
theorem dL_law_598 : decode cL_law 598 = .ok (.iadd, 1) := dq_96  (uat ck_cL_law_581 17 rfl)
theorem dL_law_599 : decode cL_law 599 = .ok (.iaload, 1) := dq_46  (uat ck_cL_law_581 18 rfl)
theorem dL_law_600 : decode cL_law 600 = .ok (.aload_n 0, 1) := dq_42  (uat ck_cL_law_581 19 rfl)
theorem dL_law_601 : decode cL_law 601 = .ok (.iload 4, 2) := dq_21 4 (uat ck_cL_law_581 20 rfl) (uat ck_cL_law_581 21 rfl) rfl
theorem dL_law_603 : decode cL_law 603 = .ok (.iconst 3, 1) := dq_6  (uat ck_cL_law_581 22 rfl)
theorem dL_law_604 : decode cL_law 604 = .ok (.iadd, 1) := dq_96  (uat ck_cL_law_581 23 rfl)
theorem dL_law_605 : decode cL_law 605 = .ok (.iaload, 1) := dq_46  (uat ck_cL_law_581 24 rfl)
theorem dL_law_606 : decode cL_law 606 = .ok (.invokevirtual 190, 3) := dq_182 0 190 (uat ck_cL_law_581 25 rfl) (uat ck_cL_law_581 26 rfl) (uat ck_cL_law_581 27 rfl) rfl
theorem dL_law_609 : decode cL_law 609 = .ok (.istore 6, 2) := dq_54 6 (uat ck_cL_law_581 28 rfl) (uat ck_cL_law_581 29 rfl) rfl
theorem dL_law_611 : decode cL_law 611 = .ok (.goto 1504, 3) := dq_167 5 224 (uat ck_cL_law_581 30 rfl) (uat ck_cL_law_581 31 rfl) (uat ck_cL_law_581 32 rfl) (by decide)
theorem dL_law_614 : decode cL_law 614 = .ok (.aload_n 1, 1) := dq_43  (uat ck_cL_law_581 33 rfl)
theorem dL_law_615 : decode cL_law 615 = .ok (.aload_n 0, 1) := dq_42  (uat ck_cL_law_581 34 rfl)
theorem dL_law_616 : decode cL_law 616 = .ok (.iload 4, 2) := dq_21 4 (uat ck_cL_law_581 35 rfl) (uat ck_cL_law_581 36 rfl) rfl
theorem dL_law_618 : decode cL_law 618 = .ok (.iconst 1, 1) := dq_4  (uat ck_cL_law_581 37 rfl)
theorem dL_law_619 : decode cL_law 619 = .ok (.iadd, 1) := dq_96  (uat ck_cL_law_581 38 rfl)
theorem dL_law_620 : decode cL_law 620 = .ok (.iaload, 1) := dq_46  (uat ck_cL_law_581 39 rfl)
theorem dL_law_621 : decode cL_law 621 = .ok (.aload_n 0, 1) := dq_42  (uat ck_cL_law_581 40 rfl)
theorem dL_law_622 : decode cL_law 622 = .ok (.iload 4, 2) := dq_21 4 (uat ck_cL_law_581 41 rfl) (uat ck_cL_law_581 42 rfl) rfl
theorem dL_law_624 : decode cL_law 624 = .ok (.iconst 2, 1) := dq_5  (uat ck_cL_law_581 43 rfl)
theorem dL_law_625 : decode cL_law 625 = .ok (.iadd, 1) := dq_96  (uat ck_cL_law_581 44 rfl)
theorem dL_law_626 : decode cL_law 626 = .ok (.iaload, 1) := dq_46  (uat ck_cL_law_581 45 rfl)
theorem dL_law_627 : decode cL_law 627 = .ok (.ifCond .eq 7, 3) := dq_153 0 7 (uat ck_cL_law_581 46 rfl) (uat ck_cL_law_581 47 rfl) (uat ck_cL_law_581 48 rfl) (by decide)
theorem dL_law_630 : decode cL_law 630 = .ok (.iconst 1, 1) := dq_4  (uat ck_cL_law_581 49 rfl)
theorem dL_law_631 : decode cL_law 631 = .ok (.goto 4, 3) := dq_167 0 4 (uat ck_cL_law_581 50 rfl) (uat ck_cL_law_581 51 rfl) (uat ck_cL_law_581 52 rfl) (by decide)
theorem dL_law_634 : decode cL_law 634 = .ok (.iconst 0, 1) := dq_3  (uat ck_cL_law_581 53 rfl)
theorem dL_law_635 : decode cL_law 635 = .ok (.aload_n 0, 1) := dq_42  (uat ck_cL_law_581 54 rfl)
theorem dL_law_636 : decode cL_law 636 = .ok (.iload 4, 2) := dq_21 4 (uat ck_cL_law_581 55 rfl) (uat ck_cL_law_581 56 rfl) rfl
theorem dL_law_638 : decode cL_law 638 = .ok (.iconst 3, 1) := dq_6  (uat ck_cL_law_581 57 rfl)
theorem ck_cL_law_639 : (cL_law.data.toList.drop 639).take 57 = [96, 46, 45, 184, 0, 191, 54, 5, 44, 42, 21, 4, 4, 96, 46, 42, 21, 4, 5, 96, 46, 153, 0, 7, 4, 167, 0, 4, 3, 42, 21, 4, 6, 96, 46, 182, 0, 194, 54, 6, 167, 5, 156, 43, 42, 21, 4, 4, 96, 46, 42, 21, 4, 5, 96, 46, 42] := by decide +kernel
theorem dL_law_639 : decode cL_law 639 = .ok (.iadd, 1) := dq_96  (uat ck_cL_law_639 0 rfl)
theorem dL_law_640 : decode cL_law 640 = .ok (.iaload, 1) := dq_46  (uat ck_cL_law_639 1 rfl)
theorem dL_law_641 : decode cL_law 641 = .ok (.aload_n 3, 1) := dq_45  (uat ck_cL_law_639 2 rfl)
theorem dL_law_642 : decode cL_law 642 = .ok (.invokestatic 191, 3) := dq_184 0 191 (uat ck_cL_law_639 3 rfl) (uat ck_cL_law_639 4 rfl) (uat ck_cL_law_639 5 rfl) rfl
theorem dL_law_645 : decode cL_law 645 = .ok (.istore 5, 2) := dq_54 5 (uat ck_cL_law_639 6 rfl) (uat ck_cL_law_639 7 rfl) rfl
theorem dL_law_647 : decode cL_law 647 = .ok (.aload_n 2, 1) := dq_44  (uat ck_cL_law_639 8 rfl)
theorem dL_law_648 : decode cL_law 648 = .ok (.aload_n 0, 1) := dq_42  (uat ck_cL_law_639 9 rfl)
theorem dL_law_649 : decode cL_law 649 = .ok (.iload 4, 2) := dq_21 4 (uat ck_cL_law_639 10 rfl) (uat ck_cL_law_639 11 rfl) rfl
theorem dL_law_651 : decode cL_law 651 = .ok (.iconst 1, 1) := dq_4  (uat ck_cL_law_639 12 rfl)
theorem dL_law_652 : decode cL_law 652 = .ok (.iadd, 1) := dq_96  (uat ck_cL_law_639 13 rfl)
theorem dL_law_653 : decode cL_law 653 = .ok (.iaload, 1) := dq_46  (uat ck_cL_law_639 14 rfl)
theorem dL_law_654 : decode cL_law 654 = .ok (.aload_n 0, 1) := dq_42  (uat ck_cL_law_639 15 rfl)
theorem dL_law_655 : decode cL_law 655 = .ok (.iload 4, 2) := dq_21 4 (uat ck_cL_law_639 16 rfl) (uat ck_cL_law_639 17 rfl) rfl
theorem dL_law_657 : decode cL_law 657 = .ok (.iconst 2, 1) := dq_5  (uat ck_cL_law_639 18 rfl)
theorem dL_law_658 : decode cL_law 658 = .ok (.iadd, 1) := dq_96  (uat ck_cL_law_639 19 rfl)
theorem dL_law_659 : decode cL_law 659 = .ok (.iaload, 1) := dq_46  (uat ck_cL_law_639 20 rfl)
theorem dL_law_660 : decode cL_law 660 = .ok (.ifCond .eq 7, 3) := dq_153 0 7 (uat ck_cL_law_639 21 rfl) (uat ck_cL_law_639 22 rfl) (uat ck_cL_law_639 23 rfl) (by decide)
theorem dL_law_663 : decode cL_law 663 = .ok (.iconst 1, 1) := dq_4  (uat ck_cL_law_639 24 rfl)
theorem dL_law_664 : decode cL_law 664 = .ok (.goto 4, 3) := dq_167 0 4 (uat ck_cL_law_639 25 rfl) (uat ck_cL_law_639 26 rfl) (uat ck_cL_law_639 27 rfl) (by decide)
theorem dL_law_667 : decode cL_law 667 = .ok (.iconst 0, 1) := dq_3  (uat ck_cL_law_639 28 rfl)
theorem dL_law_668 : decode cL_law 668 = .ok (.aload_n 0, 1) := dq_42  (uat ck_cL_law_639 29 rfl)
theorem dL_law_669 : decode cL_law 669 = .ok (.iload 4, 2) := dq_21 4 (uat ck_cL_law_639 30 rfl) (uat ck_cL_law_639 31 rfl) rfl
theorem dL_law_671 : decode cL_law 671 = .ok (.iconst 3, 1) := dq_6  (uat ck_cL_law_639 32 rfl)
theorem dL_law_672 : decode cL_law 672 = .ok (.iadd, 1) := dq_96  (uat ck_cL_law_639 33 rfl)
theorem dL_law_673 : decode cL_law 673 = .ok (.iaload, 1) := dq_46  (uat ck_cL_law_639 34 rfl)
theorem dL_law_674 : decode cL_law 674 = .ok (.invokevirtual 194, 3) := dq_182 0 194 (uat ck_cL_law_639 35 rfl) (uat ck_cL_law_639 36 rfl) (uat ck_cL_law_639 37 rfl) rfl
theorem dL_law_677 : decode cL_law 677 = .ok (.istore 6, 2) := dq_54 6 (uat ck_cL_law_639 38 rfl) (uat ck_cL_law_639 39 rfl) rfl
theorem dL_law_679 : decode cL_law 679 = .ok (.goto 1436, 3) := dq_167 5 156 (uat ck_cL_law_639 40 rfl) (uat ck_cL_law_639 41 rfl) (uat ck_cL_law_639 42 rfl) (by decide)
theorem dL_law_682 : decode cL_law 682 = .ok (.aload_n 1, 1) := dq_43  (uat ck_cL_law_639 43 rfl)
theorem dL_law_683 : decode cL_law 683 = .ok (.aload_n 0, 1) := dq_42  (uat ck_cL_law_639 44 rfl)
theorem dL_law_684 : decode cL_law 684 = .ok (.iload 4, 2) := dq_21 4 (uat ck_cL_law_639 45 rfl) (uat ck_cL_law_639 46 rfl) rfl
theorem dL_law_686 : decode cL_law 686 = .ok (.iconst 1, 1) := dq_4  (uat ck_cL_law_639 47 rfl)
theorem dL_law_687 : decode cL_law 687 = .ok (.iadd, 1) := dq_96  (uat ck_cL_law_639 48 rfl)
theorem dL_law_688 : decode cL_law 688 = .ok (.iaload, 1) := dq_46  (uat ck_cL_law_639 49 rfl)
theorem dL_law_689 : decode cL_law 689 = .ok (.aload_n 0, 1) := dq_42  (uat ck_cL_law_639 50 rfl)
theorem dL_law_690 : decode cL_law 690 = .ok (.iload 4, 2) := dq_21 4 (uat ck_cL_law_639 51 rfl) (uat ck_cL_law_639 52 rfl) rfl
theorem dL_law_692 : decode cL_law 692 = .ok (.iconst 2, 1) := dq_5  (uat ck_cL_law_639 53 rfl)
theorem dL_law_693 : decode cL_law 693 = .ok (.iadd, 1) := dq_96  (uat ck_cL_law_639 54 rfl)
theorem dL_law_694 : decode cL_law 694 = .ok (.iaload, 1) := dq_46  (uat ck_cL_law_639 55 rfl)
theorem dL_law_695 : decode cL_law 695 = .ok (.aload_n 0, 1) := dq_42  (uat ck_cL_law_639 56 rfl)
theorem ck_cL_law_696 : (cL_law.data.toList.drop 696).take 61 = [21, 4, 6, 96, 46, 153, 0, 7, 4, 167, 0, 4, 3, 45, 184, 0, 195, 54, 5, 44, 42, 21, 4, 4, 96, 46, 42, 21, 4, 5, 96, 46, 42, 21, 4, 6, 96, 46, 153, 0, 7, 4, 167, 0, 4, 3, 182, 0, 198, 54, 6, 167, 5, 88, 43, 42, 21, 4, 4, 96, 46] := by decide +kernel
theorem dL_law_696 : decode cL_law 696 = .ok (.iload 4, 2) := dq_21 4 (uat ck_cL_law_696 0 rfl) (uat ck_cL_law_696 1 rfl) rfl
theorem dL_law_698 : decode cL_law 698 = .ok (.iconst 3, 1) := dq_6  (uat ck_cL_law_696 2 rfl)
theorem dL_law_699 : decode cL_law 699 = .ok (.iadd, 1) := dq_96  (uat ck_cL_law_696 3 rfl)
theorem dL_law_700 : decode cL_law 700 = .ok (.iaload, 1) := dq_46  (uat ck_cL_law_696 4 rfl)
theorem dL_law_701 : decode cL_law 701 = .ok (.ifCond .eq 7, 3) := dq_153 0 7 (uat ck_cL_law_696 5 rfl) (uat ck_cL_law_696 6 rfl) (uat ck_cL_law_696 7 rfl) (by decide)
theorem dL_law_704 : decode cL_law 704 = .ok (.iconst 1, 1) := dq_4  (uat ck_cL_law_696 8 rfl)
theorem dL_law_705 : decode cL_law 705 = .ok (.goto 4, 3) := dq_167 0 4 (uat ck_cL_law_696 9 rfl) (uat ck_cL_law_696 10 rfl) (uat ck_cL_law_696 11 rfl) (by decide)
theorem dL_law_708 : decode cL_law 708 = .ok (.iconst 0, 1) := dq_3  (uat ck_cL_law_696 12 rfl)
theorem dL_law_709 : decode cL_law 709 = .ok (.aload_n 3, 1) := dq_45  (uat ck_cL_law_696 13 rfl)
theorem dL_law_710 : decode cL_law 710 = .ok (.invokestatic 195, 3) := dq_184 0 195 (uat ck_cL_law_696 14 rfl) (uat ck_cL_law_696 15 rfl) (uat ck_cL_law_696 16 rfl) rfl
theorem dL_law_713 : decode cL_law 713 = .ok (.istore 5, 2) := dq_54 5 (uat ck_cL_law_696 17 rfl) (uat ck_cL_law_696 18 rfl) rfl
theorem dL_law_715 : decode cL_law 715 = .ok (.aload_n 2, 1) := dq_44  (uat ck_cL_law_696 19 rfl)
theorem dL_law_716 : decode cL_law 716 = .ok (.aload_n 0, 1) := dq_42  (uat ck_cL_law_696 20 rfl)
theorem dL_law_717 : decode cL_law 717 = .ok (.iload 4, 2) := dq_21 4 (uat ck_cL_law_696 21 rfl) (uat ck_cL_law_696 22 rfl) rfl
theorem dL_law_719 : decode cL_law 719 = .ok (.iconst 1, 1) := dq_4  (uat ck_cL_law_696 23 rfl)
theorem dL_law_720 : decode cL_law 720 = .ok (.iadd, 1) := dq_96  (uat ck_cL_law_696 24 rfl)
theorem dL_law_721 : decode cL_law 721 = .ok (.iaload, 1) := dq_46  (uat ck_cL_law_696 25 rfl)
theorem dL_law_722 : decode cL_law 722 = .ok (.aload_n 0, 1) := dq_42  (uat ck_cL_law_696 26 rfl)
theorem dL_law_723 : decode cL_law 723 = .ok (.iload 4, 2) := dq_21 4 (uat ck_cL_law_696 27 rfl) (uat ck_cL_law_696 28 rfl) rfl
theorem dL_law_725 : decode cL_law 725 = .ok (.iconst 2, 1) := dq_5  (uat ck_cL_law_696 29 rfl)
theorem dL_law_726 : decode cL_law 726 = .ok (.iadd, 1) := dq_96  (uat ck_cL_law_696 30 rfl)
theorem dL_law_727 : decode cL_law 727 = .ok (.iaload, 1) := dq_46  (uat ck_cL_law_696 31 rfl)
theorem dL_law_728 : decode cL_law 728 = .ok (.aload_n 0, 1) := dq_42  (uat ck_cL_law_696 32 rfl)
theorem dL_law_729 : decode cL_law 729 = .ok (.iload 4, 2) := dq_21 4 (uat ck_cL_law_696 33 rfl) (uat ck_cL_law_696 34 rfl) rfl
theorem dL_law_731 : decode cL_law 731 = .ok (.iconst 3, 1) := dq_6  (uat ck_cL_law_696 35 rfl)
theorem dL_law_732 : decode cL_law 732 = .ok (.iadd, 1) := dq_96  (uat ck_cL_law_696 36 rfl)
theorem dL_law_733 : decode cL_law 733 = .ok (.iaload, 1) := dq_46  (uat ck_cL_law_696 37 rfl)
theorem dL_law_734 : decode cL_law 734 = .ok (.ifCond .eq 7, 3) := dq_153 0 7 (uat ck_cL_law_696 38 rfl) (uat ck_cL_law_696 39 rfl) (uat ck_cL_law_696 40 rfl) (by decide)
theorem dL_law_737 : decode cL_law 737 = .ok (.iconst 1, 1) := dq_4  (uat ck_cL_law_696 41 rfl)
theorem dL_law_738 : decode cL_law 738 = .ok (.goto 4, 3) := dq_167 0 4 (uat ck_cL_law_696 42 rfl) (uat ck_cL_law_696 43 rfl) (uat ck_cL_law_696 44 rfl) (by decide)
theorem dL_law_741 : decode cL_law 741 = .ok (.iconst 0, 1) := dq_3  (uat ck_cL_law_696 45 rfl)
theorem dL_law_742 : decode cL_law 742 = .ok (.invokevirtual 198, 3) := dq_182 0 198 (uat ck_cL_law_696 46 rfl) (uat ck_cL_law_696 47 rfl) (uat ck_cL_law_696 48 rfl) rfl
theorem dL_law_745 : decode cL_law 745 = .ok (.istore 6, 2) := dq_54 6 (uat ck_cL_law_696 49 rfl) (uat ck_cL_law_696 50 rfl) rfl
theorem dL_law_747 : decode cL_law 747 = .ok (.goto 1368, 3) := dq_167 5 88 (uat ck_cL_law_696 51 rfl) (uat ck_cL_law_696 52 rfl) (uat ck_cL_law_696 53 rfl) (by decide)
theorem dL_law_750 : decode cL_law 750 = .ok (.aload_n 1, 1) := dq_43  (uat ck_cL_law_696 54 rfl)
theorem dL_law_751 : decode cL_law 751 = .ok (.aload_n 0, 1) := dq_42  (uat ck_cL_law_696 55 rfl)
theorem dL_law_752 : decode cL_law 752 = .ok (.iload 4, 2) := dq_21 4 (uat ck_cL_law_696 56 rfl) (uat ck_cL_law_696 57 rfl) rfl
theorem dL_law_754 : decode cL_law 754 = .ok (.iconst 1, 1) := dq_4  (uat ck_cL_law_696 58 rfl)
theorem dL_law_755 : decode cL_law 755 = .ok (.iadd, 1) := dq_96  (uat ck_cL_law_696 59 rfl)
theorem dL_law_756 : decode cL_law 756 = .ok (.iaload, 1) := dq_46  (uat ck_cL_law_696 60 rfl)
theorem ck_cL_law_757 : (cL_law.data.toList.drop 757).take 55 = [42, 21, 4, 5, 96, 46, 42, 21, 4, 6, 96, 46, 45, 184, 0, 199, 54, 5, 44, 42, 21, 4, 4, 96, 46, 42, 21, 4, 5, 96, 46, 42, 21, 4, 6, 96, 46, 182, 0, 201, 54, 6, 167, 5, 36, 43, 42, 21, 4, 4, 96, 46, 42, 21, 4] := by decide +kernel
theorem dL_law_757 : decode cL_law 757 = .ok (.aload_n 0, 1) := dq_42  (uat ck_cL_law_757 0 rfl)
theorem dL_law_758 : decode cL_law 758 = .ok (.iload 4, 2) := dq_21 4 (uat ck_cL_law_757 1 rfl) (uat ck_cL_law_757 2 rfl) rfl
theorem dL_law_760 : decode cL_law 760 = .ok (.iconst 2, 1) := dq_5  (uat ck_cL_law_757 3 rfl)
theorem dL_law_761 : decode cL_law 761 = .ok (.iadd, 1) := dq_96  (uat ck_cL_law_757 4 rfl)
theorem dL_law_762 : decode cL_law 762 = .ok (.iaload, 1) := dq_46  (uat ck_cL_law_757 5 rfl)
theorem dL_law_763 : decode cL_law 763 = .ok (.aload_n 0, 1) := dq_42  (uat ck_cL_law_757 6 rfl)
theorem dL_law_764 : decode cL_law 764 = .ok (.iload 4, 2) := dq_21 4 (uat ck_cL_law_757 7 rfl) (uat ck_cL_law_757 8 rfl) rfl
theorem dL_law_766 : decode cL_law 766 = .ok (.iconst 3, 1) := dq_6  (uat ck_cL_law_757 9 rfl)
theorem dL_law_767 : decode cL_law 767 = .ok (.iadd, 1) := dq_96  (uat ck_cL_law_757 10 rfl)
theorem dL_law_768 : decode cL_law 768 = .ok (.iaload, 1) := dq_46  (uat ck_cL_law_757 11 rfl)
theorem dL_law_769 : decode cL_law 769 = .ok (.aload_n 3, 1) := dq_45  (uat ck_cL_law_757 12 rfl)
theorem dL_law_770 : decode cL_law 770 = .ok (.invokestatic 199, 3) := dq_184 0 199 (uat ck_cL_law_757 13 rfl) (uat ck_cL_law_757 14 rfl) (uat ck_cL_law_757 15 rfl) rfl
theorem dL_law_773 : decode cL_law 773 = .ok (.istore 5, 2) := dq_54 5 (uat ck_cL_law_757 16 rfl) (uat ck_cL_law_757 17 rfl) rfl
theorem dL_law_775 : decode cL_law 775 = .ok (.aload_n 2, 1) := dq_44  (uat ck_cL_law_757 18 rfl)
theorem dL_law_776 : decode cL_law 776 = .ok (.aload_n 0, 1) := dq_42  (uat ck_cL_law_757 19 rfl)
theorem dL_law_777 : decode cL_law 777 = .ok (.iload 4, 2) := dq_21 4 (uat ck_cL_law_757 20 rfl) (uat ck_cL_law_757 21 rfl) rfl
theorem dL_law_779 : decode cL_law 779 = .ok (.iconst 1, 1) := dq_4  (uat ck_cL_law_757 22 rfl)
theorem dL_law_780 : decode cL_law 780 = .ok (.iadd, 1) := dq_96  (uat ck_cL_law_757 23 rfl)
theorem dL_law_781 : decode cL_law 781 = .ok (.iaload, 1) := dq_46  (uat ck_cL_law_757 24 rfl)
theorem dL_law_782 : decode cL_law 782 = .ok (.aload_n 0, 1) := dq_42  (uat ck_cL_law_757 25 rfl)
theorem dL_law_783 : decode cL_law 783 = .ok (.iload 4, 2) := dq_21 4 (uat ck_cL_law_757 26 rfl) (uat ck_cL_law_757 27 rfl) rfl
theorem dL_law_785 : decode cL_law 785 = .ok (.iconst 2, 1) := dq_5  (uat ck_cL_law_757 28 rfl)
theorem dL_law_786 : decode cL_law 786 = .ok (.iadd, 1) := dq_96  (uat ck_cL_law_757 29 rfl)
theorem dL_law_787 : decode cL_law 787 = .ok (.iaload, 1) := dq_46  (uat ck_cL_law_757 30 rfl)
theorem dL_law_788 : decode cL_law 788 = .ok (.aload_n 0, 1) := dq_42  (uat ck_cL_law_757 31 rfl)
theorem dL_law_789 : decode cL_law 789 = .ok (.iload 4, 2) := dq_21 4 (uat ck_cL_law_757 32 rfl) (uat ck_cL_law_757 33 rfl) rfl
theorem dL_law_791 : decode cL_law 791 = .ok (.iconst 3, 1) := dq_6  (uat ck_cL_law_757 34 rfl)
theorem dL_law_792 : decode cL_law 792 = .ok (.iadd, 1) := dq_96  (uat ck_cL_law_757 35 rfl)
theorem dL_law_793 : decode cL_law 793 = .ok (.iaload, 1) := dq_46  (uat ck_cL_law_757 36 rfl)
theorem dL_law_794 : decode cL_law 794 = .ok (.invokevirtual 201, 3) := dq_182 0 201 (uat ck_cL_law_757 37 rfl) (uat ck_cL_law_757 38 rfl) (uat ck_cL_law_757 39 rfl) rfl
theorem dL_law_797 : decode cL_law 797 = .ok (.istore 6, 2) := dq_54 6 (uat ck_cL_law_757 40 rfl) (uat ck_cL_law_757 41 rfl) rfl
theorem dL_law_799 : decode cL_law 799 = .ok (.goto 1316, 3) := dq_167 5 36 (uat ck_cL_law_757 42 rfl) (uat ck_cL_law_757 43 rfl) (uat ck_cL_law_757 44 rfl) (by decide)
theorem dL_law_802 : decode cL_law 802 = .ok (.aload_n 1, 1) := dq_43  (uat ck_cL_law_757 45 rfl)
theorem dL_law_803 : decode cL_law 803 = .ok (.aload_n 0, 1) := dq_42  (uat ck_cL_law_757 46 rfl)
theorem dL_law_804 : decode cL_law 804 = .ok (.iload 4, 2) := dq_21 4 (uat ck_cL_law_757 47 rfl) (uat ck_cL_law_757 48 rfl) rfl
theorem dL_law_806 : decode cL_law 806 = .ok (.iconst 1, 1) := dq_4  (uat ck_cL_law_757 49 rfl)
theorem dL_law_807 : decode cL_law 807 = .ok (.iadd, 1) := dq_96  (uat ck_cL_law_757 50 rfl)
theorem dL_law_808 : decode cL_law 808 = .ok (.iaload, 1) := dq_46  (uat ck_cL_law_757 51 rfl)
theorem dL_law_809 : decode cL_law 809 = .ok (.aload_n 0, 1) := dq_42  (uat ck_cL_law_757 52 rfl)
theorem dL_law_810 : decode cL_law 810 = .ok (.iload 4, 2) := dq_21 4 (uat ck_cL_law_757 53 rfl) (uat ck_cL_law_757 54 rfl) rfl
theorem ck_cL_law_812 : (cL_law.data.toList.drop 812).take 61 = [5, 96, 46, 153, 0, 7, 4, 167, 0, 4, 3, 42, 21, 4, 6, 96, 46, 153, 0, 7, 4, 167, 0, 4, 3, 45, 184, 0, 202, 54, 5, 44, 42, 21, 4, 4, 96, 46, 42, 21, 4, 5, 96, 46, 153, 0, 7, 4, 167, 0, 4, 3, 42, 21, 4, 6, 96, 46, 153, 0, 7] := by decide +kernel
theorem dL_law_812 : decode cL_law 812 = .ok (.iconst 2, 1) := dq_5  (uat ck_cL_law_812 0 rfl)
theorem dL_law_813 : decode cL_law 813 = .ok (.iadd, 1) := dq_96  (uat ck_cL_law_812 1 rfl)
theorem dL_law_814 : decode cL_law 814 = .ok (.iaload, 1) := dq_46  (uat ck_cL_law_812 2 rfl)
theorem dL_law_815 : decode cL_law 815 = .ok (.ifCond .eq 7, 3) := dq_153 0 7 (uat ck_cL_law_812 3 rfl) (uat ck_cL_law_812 4 rfl) (uat ck_cL_law_812 5 rfl) (by decide)
theorem dL_law_818 : decode cL_law 818 = .ok (.iconst 1, 1) := dq_4  (uat ck_cL_law_812 6 rfl)
theorem dL_law_819 : decode cL_law 819 = .ok (.goto 4, 3) := dq_167 0 4 (uat ck_cL_law_812 7 rfl) (uat ck_cL_law_812 8 rfl) (uat ck_cL_law_812 9 rfl) (by decide)
theorem dL_law_822 : decode cL_law 822 = .ok (.iconst 0, 1) := dq_3  (uat ck_cL_law_812 10 rfl)
theorem dL_law_823 : decode cL_law 823 = .ok (.aload_n 0, 1) := dq_42  (uat ck_cL_law_812 11 rfl)
theorem dL_law_824 : decode cL_law 824 = .ok (.iload 4, 2) := dq_21 4 (uat ck_cL_law_812 12 rfl) (uat ck_cL_law_812 13 rfl) rfl
theorem dL_law_826 : decode cL_law 826 = .ok (.iconst 3, 1) := dq_6  (uat ck_cL_law_812 14 rfl)
theorem dL_law_827 : decode cL_law 827 = .ok (.iadd, 1) := dq_96  (uat ck_cL_law_812 15 rfl)
theorem dL_law_828 : decode cL_law 828 = .ok (.iaload, 1) := dq_46  (uat ck_cL_law_812 16 rfl)
theorem dL_law_829 : decode cL_law 829 = .ok (.ifCond .eq 7, 3) := dq_153 0 7 (uat ck_cL_law_812 17 rfl) (uat ck_cL_law_812 18 rfl) (uat ck_cL_law_812 19 rfl) (by decide)
theorem dL_law_832 : decode cL_law 832 = .ok (.iconst 1, 1) := dq_4  (uat ck_cL_law_812 20 rfl)
theorem dL_law_833 : decode cL_law 833 = .ok (.goto 4, 3) := dq_167 0 4 (uat ck_cL_law_812 21 rfl) (uat ck_cL_law_812 22 rfl) (uat ck_cL_law_812 23 rfl) (by decide)
theorem dL_law_836 : decode cL_law 836 = .ok (.iconst 0, 1) := dq_3  (uat ck_cL_law_812 24 rfl)
theorem dL_law_837 : decode cL_law 837 = .ok (.aload_n 3, 1) := dq_45  (uat ck_cL_law_812 25 rfl)
theorem dL_law_838 : decode cL_law 838 = .ok (.invokestatic 202, 3) := dq_184 0 202 (uat ck_cL_law_812 26 rfl) (uat ck_cL_law_812 27 rfl) (uat ck_cL_law_812 28 rfl) rfl
theorem dL_law_841 : decode cL_law 841 = .ok (.istore 5, 2) := dq_54 5 (uat ck_cL_law_812 29 rfl) (uat ck_cL_law_812 30 rfl) rfl
theorem dL_law_843 : decode cL_law 843 = .ok (.aload_n 2, 1) := dq_44  (uat ck_cL_law_812 31 rfl)
theorem dL_law_844 : decode cL_law 844 = .ok (.aload_n 0, 1) := dq_42  (uat ck_cL_law_812 32 rfl)
theorem dL_law_845 : decode cL_law 845 = .ok (.iload 4, 2) := dq_21 4 (uat ck_cL_law_812 33 rfl) (uat ck_cL_law_812 34 rfl) rfl
theorem dL_law_847 : decode cL_law 847 = .ok (.iconst 1, 1) := dq_4  (uat ck_cL_law_812 35 rfl)
theorem dL_law_848 : decode cL_law 848 = .ok (.iadd, 1) := dq_96  (uat ck_cL_law_812 36 rfl)
theorem dL_law_849 : decode cL_law 849 = .ok (.iaload, 1) := dq_46  (uat ck_cL_law_812 37 rfl)
theorem dL_law_850 : decode cL_law 850 = .ok (.aload_n 0, 1) := dq_42  (uat ck_cL_law_812 38 rfl)
theorem dL_law_851 : decode cL_law 851 = .ok (.iload 4, 2) := dq_21 4 (uat ck_cL_law_812 39 rfl) (uat ck_cL_law_812 40 rfl) rfl
theorem dL_law_853 : decode cL_law 853 = .ok (.iconst 2, 1) := dq_5  (uat ck_cL_law_812 41 rfl)
theorem dL_law_854 : decode cL_law 854 = .ok (.iadd, 1) := dq_96  (uat ck_cL_law_812 42 rfl)
theorem dL_law_855 : decode cL_law 855 = .ok (.iaload, 1) := dq_46  (uat ck_cL_law_812 43 rfl)
theorem dL_law_856 : decode cL_law 856 = .ok (.ifCond .eq 7, 3) := dq_153 0 7 (uat ck_cL_law_812 44 rfl) (uat ck_cL_law_812 45 rfl) (uat ck_cL_law_812 46 rfl) (by decide)
theorem dL_law_859 : decode cL_law 859 = .ok (.iconst 1, 1) := dq_4  (uat ck_cL_law_812 47 rfl)
theorem dL_law_860 : decode cL_law 860 = .ok (.goto 4, 3) := dq_167 0 4 (uat ck_cL_law_812 48 rfl) (uat ck_cL_law_812 49 rfl) (uat ck_cL_law_812 50 rfl) (by decide)
theorem dL_law_863 : decode cL_law 863 = .ok (.iconst 0, 1) := dq_3  (uat ck_cL_law_812 51 rfl)
theorem dL_law_864 : decode cL_law 864 = .ok (.aload_n 0, 1) := dq_42  (uat ck_cL_law_812 52 rfl)
theorem dL_law_865 : decode cL_law 865 = .ok (.iload 4, 2) := dq_21 4 (uat ck_cL_law_812 53 rfl) (uat ck_cL_law_812 54 rfl) rfl
theorem dL_law_867 : decode cL_law 867 = .ok (.iconst 3, 1) := dq_6  (uat ck_cL_law_812 55 rfl)
theorem dL_law_868 : decode cL_law 868 = .ok (.iadd, 1) := dq_96  (uat ck_cL_law_812 56 rfl)
theorem dL_law_869 : decode cL_law 869 = .ok (.iaload, 1) := dq_46  (uat ck_cL_law_812 57 rfl)
theorem dL_law_870 : decode cL_law 870 = .ok (.ifCond .eq 7, 3) := dq_153 0 7 (uat ck_cL_law_812 58 rfl) (uat ck_cL_law_812 59 rfl) (uat ck_cL_law_812 60 rfl) (by decide)
theorem ck_cL_law_873 : (cL_law.data.toList.drop 873).take 60 = [4, 167, 0, 4, 3, 182, 0, 205, 54, 6, 167, 4, 208, 43, 42, 21, 4, 4, 96, 46, 42, 21, 4, 5, 96, 46, 45, 184, 0, 206, 54, 5, 44, 42, 21, 4, 4, 96, 46, 42, 21, 4, 5, 96, 46, 182, 0, 208, 54, 6, 167, 4, 168, 43, 42, 21, 4, 4, 96, 46] := by decide +kernel
theorem dL_law_873 : decode cL_law 873 = .ok (.iconst 1, 1) := dq_4  (uat ck_cL_law_873 0 rfl)
theorem dL_law_874 : decode cL_law 874 = .ok (.goto 4, 3) := dq_167 0 4 (uat ck_cL_law_873 1 rfl) (uat ck_cL_law_873 2 rfl) (uat ck_cL_law_873 3 rfl) (by decide)
theorem dL_law_877 : decode cL_law 877 = .ok (.iconst 0, 1) := dq_3  (uat ck_cL_law_873 4 rfl)
theorem dL_law_878 : decode cL_law 878 = .ok (.invokevirtual 205, 3) := dq_182 0 205 (uat ck_cL_law_873 5 rfl) (uat ck_cL_law_873 6 rfl) (uat ck_cL_law_873 7 rfl) rfl
theorem dL_law_881 : decode cL_law 881 = .ok (.istore 6, 2) := dq_54 6 (uat ck_cL_law_873 8 rfl) (uat ck_cL_law_873 9 rfl) rfl
theorem dL_law_883 : decode cL_law 883 = .ok (.goto 1232, 3) := dq_167 4 208 (uat ck_cL_law_873 10 rfl) (uat ck_cL_law_873 11 rfl) (uat ck_cL_law_873 12 rfl) (by decide)
theorem dL_law_886 : decode cL_law 886 = .ok (.aload_n 1, 1) := dq_43  (uat ck_cL_law_873 13 rfl)
theorem dL_law_887 : decode cL_law 887 = .ok (.aload_n 0, 1) := dq_42  (uat ck_cL_law_873 14 rfl)
theorem dL_law_888 : decode cL_law 888 = .ok (.iload 4, 2) := dq_21 4 (uat ck_cL_law_873 15 rfl) (uat ck_cL_law_873 16 rfl) rfl
theorem dL_law_890 : decode cL_law 890 = .ok (.iconst 1, 1) := dq_4  (uat ck_cL_law_873 17 rfl)
theorem dL_law_891 : decode cL_law 891 = .ok (.iadd, 1) := dq_96  (uat ck_cL_law_873 18 rfl)
theorem dL_law_892 : decode cL_law 892 = .ok (.iaload, 1) := dq_46  (uat ck_cL_law_873 19 rfl)
theorem dL_law_893 : decode cL_law 893 = .ok (.aload_n 0, 1) := dq_42  (uat ck_cL_law_873 20 rfl)
theorem dL_law_894 : decode cL_law 894 = .ok (.iload 4, 2) := dq_21 4 (uat ck_cL_law_873 21 rfl) (uat ck_cL_law_873 22 rfl) rfl
theorem dL_law_896 : decode cL_law 896 = .ok (.iconst 2, 1) := dq_5  (uat ck_cL_law_873 23 rfl)
theorem dL_law_897 : decode cL_law 897 = .ok (.iadd, 1) := dq_96  (uat ck_cL_law_873 24 rfl)
theorem dL_law_898 : decode cL_law 898 = .ok (.iaload, 1) := dq_46  (uat ck_cL_law_873 25 rfl)
theorem dL_law_899 : decode cL_law 899 = .ok (.aload_n 3, 1) := dq_45  (uat ck_cL_law_873 26 rfl)
theorem dL_law_900 : decode cL_law 900 = .ok (.invokestatic 206, 3) := dq_184 0 206 (uat ck_cL_law_873 27 rfl) (uat ck_cL_law_873 28 rfl) (uat ck_cL_law_873 29 rfl) rfl
theorem dL_law_903 : decode cL_law 903 = .ok (.istore 5, 2) := dq_54 5 (uat ck_cL_law_873 30 rfl) (uat ck_cL_law_873 31 rfl) rfl
theorem dL_law_905 : decode cL_law 905 = .ok (.aload_n 2, 1) := dq_44  (uat ck_cL_law_873 32 rfl)
theorem dL_law_906 : decode cL_law 906 = .ok (.aload_n 0, 1) := dq_42  (uat ck_cL_law_873 33 rfl)
theorem dL_law_907 : decode cL_law 907 = .ok (.iload 4, 2) := dq_21 4 (uat ck_cL_law_873 34 rfl) (uat ck_cL_law_873 35 rfl) rfl
theorem dL_law_909 : decode cL_law 909 = .ok (.iconst 1, 1) := dq_4  (uat ck_cL_law_873 36 rfl)
theorem dL_law_910 : decode cL_law 910 = .ok (.iadd, 1) := dq_96  (uat ck_cL_law_873 37 rfl)
theorem dL_law_911 : decode cL_law 911 = .ok (.iaload, 1) := dq_46  (uat ck_cL_law_873 38 rfl)
theorem dL_law_912 : decode cL_law 912 = .ok (.aload_n 0, 1) := dq_42  (uat ck_cL_law_873 39 rfl)
theorem dL_law_913 : decode cL_law 913 = .ok (.iload 4, 2) := dq_21 4 (uat ck_cL_law_873 40 rfl) (uat ck_cL_law_873 41 rfl) rfl
theorem dL_law_915 : decode cL_law 915 = .ok (.iconst 2, 1) := dq_5  (uat ck_cL_law_873 42 rfl)
theorem dL_law_916 : decode cL_law 916 = .ok (.iadd, 1) := dq_96  (uat ck_cL_law_873 43 rfl)
theorem dL_law_917 : decode cL_law 917 = .ok (.iaload, 1) := dq_46  (uat ck_cL_law_873 44 rfl)
theorem dL_law_918 : decode cL_law 918 = .ok (.invokevirtual 208, 3) := dq_182 0 208 (uat ck_cL_law_873 45 rfl) (uat ck_cL_law_873 46 rfl) (uat ck_cL_law_873 47 rfl) rfl
theorem dL_law_921 : decode cL_law 921 = .ok (.istore 6, 2) := dq_54 6 (uat ck_cL_law_873 48 rfl) (uat ck_cL_law_873 49 rfl) rfl
theorem dL_law_923 : decode cL_law 923 = .ok (.goto 1192, 3) := dq_167 4 168 (uat ck_cL_law_873 50 rfl) (uat ck_cL_law_873 51 rfl) (uat ck_cL_law_873 52 rfl) (by decide)
theorem dL_law_926 : decode cL_law 926 = .ok (.aload_n 1, 1) := dq_43  (uat ck_cL_law_873 53 rfl)
theorem dL_law_927 : decode cL_law 927 = .ok (.aload_n 0, 1) := dq_42  (uat ck_cL_law_873 54 rfl)
theorem dL_law_928 : decode cL_law 928 = .ok (.iload 4, 2) := dq_21 4 (uat ck_cL_law_873 55 rfl) (uat ck_cL_law_873 56 rfl) rfl
theorem dL_law_930 : decode cL_law 930 = .ok (.iconst 1, 1) := dq_4  (uat ck_cL_law_873 57 rfl)
theorem dL_law_931 : decode cL_law 931 = .ok (.iadd, 1) := dq_96  (uat ck_cL_law_873 58 rfl)
theorem dL_law_932 : decode cL_law 932 = .ok (.iaload, 1) := dq_46  (uat ck_cL_law_873 59 rfl)
theorem ck_cL_law_933 : (cL_law.data.toList.drop 933).take 61 = [42, 21, 4, 5, 96, 46, 45, 184, 0, 209, 54, 5, 44, 42, 21, 4, 4, 96, 46, 42, 21, 4, 5, 96, 46, 182, 0, 211, 54, 6, 167, 4, 128, 43, 42, 21, 4, 4, 96, 46, 45, 184, 0, 212, 54, 5, 44, 42, 21, 4, 4, 96, 46, 182, 0, 214, 54, 6, 167, 4, 100] := by decide +kernel
theorem dL_law_933 : decode cL_law 933 = .ok (.aload_n 0, 1) := dq_42  (uat ck_cL_law_933 0 rfl)
theorem dL_law_934 : decode cL_law 934 = .ok (.iload 4, 2) := dq_21 4 (uat ck_cL_law_933 1 rfl) (uat ck_cL_law_933 2 rfl) rfl
theorem dL_law_936 : decode cL_law 936 = .ok (.iconst 2, 1) := dq_5  (uat ck_cL_law_933 3 rfl)
theorem dL_law_937 : decode cL_law 937 = .ok (.iadd, 1) := dq_96  (uat ck_cL_law_933 4 rfl)
theorem dL_law_938 : decode cL_law 938 = .ok (.iaload, 1) := dq_46  (uat ck_cL_law_933 5 rfl)
theorem dL_law_939 : decode cL_law 939 = .ok (.aload_n 3, 1) := dq_45  (uat ck_cL_law_933 6 rfl)
theorem dL_law_940 : decode cL_law 940 = .ok (.invokestatic 209, 3) := dq_184 0 209 (uat ck_cL_law_933 7 rfl) (uat ck_cL_law_933 8 rfl) (uat ck_cL_law_933 9 rfl) rfl
theorem dL_law_943 : decode cL_law 943 = .ok (.istore 5, 2) := dq_54 5 (uat ck_cL_law_933 10 rfl) (uat ck_cL_law_933 11 rfl) rfl
theorem dL_law_945 : decode cL_law 945 = .ok (.aload_n 2, 1) := dq_44  (uat ck_cL_law_933 12 rfl)
theorem dL_law_946 : decode cL_law 946 = .ok (.aload_n 0, 1) := dq_42  (uat ck_cL_law_933 13 rfl)
theorem dL_law_947 : decode cL_law 947 = .ok (.iload 4, 2) := dq_21 4 (uat ck_cL_law_933 14 rfl) (uat ck_cL_law_933 15 rfl) rfl
theorem dL_law_949 : decode cL_law 949 = .ok (.iconst 1, 1) := dq_4  (uat ck_cL_law_933 16 rfl)
theorem dL_law_950 : decode cL_law 950 = .ok (.iadd, 1) := dq_96  (uat ck_cL_law_933 17 rfl)
theorem dL_law_951 : decode cL_law 951 = .ok (.iaload, 1) := dq_46  (uat ck_cL_law_933 18 rfl)
theorem dL_law_952 : decode cL_law 952 = .ok (.aload_n 0, 1) := dq_42  (uat ck_cL_law_933 19 rfl)
theorem dL_law_953 : decode cL_law 953 = .ok (.iload 4, 2) := dq_21 4 (uat ck_cL_law_933 20 rfl) (uat ck_cL_law_933 21 rfl) rfl
theorem dL_law_955 : decode cL_law 955 = .ok (.iconst 2, 1) := dq_5  (uat ck_cL_law_933 22 rfl)
theorem dL_law_956 : decode cL_law 956 = .ok (.iadd, 1) := dq_96  (uat ck_cL_law_933 23 rfl)
theorem dL_law_957 : decode cL_law 957 = .ok (.iaload, 1) := dq_46  (uat ck_cL_law_933 24 rfl)
theorem dL_law_958 : decode cL_law 958 = .ok (.invokevirtual 211, 3) := dq_182 0 211 (uat ck_cL_law_933 25 rfl) (uat ck_cL_law_933 26 rfl) (uat ck_cL_law_933 27 rfl) rfl
theorem dL_law_961 : decode cL_law 961 = .ok (.istore 6, 2) := dq_54 6 (uat ck_cL_law_933 28 rfl) (uat ck_cL_law_933 29 rfl) rfl
theorem dL_law_963 : decode cL_law 963 = .ok (.goto 1152, 3) := dq_167 4 128 (uat ck_cL_law_933 30 rfl) (uat ck_cL_law_933 31 rfl) (uat ck_cL_law_933 32 rfl) (by decide)
theorem dL_law_966 : decode cL_law 966 = .ok (.aload_n 1, 1) := dq_43  (uat ck_cL_law_933 33 rfl)
theorem dL_law_967 : decode cL_law 967 = .ok (.aload_n 0, 1) := dq_42  (uat ck_cL_law_933 34 rfl)
theorem dL_law_968 : decode cL_law 968 = .ok (.iload 4, 2) := dq_21 4 (uat ck_cL_law_933 35 rfl) (uat ck_cL_law_933 36 rfl) rfl
theorem dL_law_970 : decode cL_law 970 = .ok (.iconst 1, 1) := dq_4  (uat ck_cL_law_933 37 rfl)
theorem dL_law_971 : decode cL_law 971 = .ok (.iadd, 1) := dq_96  (uat ck_cL_law_933 38 rfl)
theorem dL_law_972 : decode cL_law 972 = .ok (.iaload, 1) := dq_46  (uat ck_cL_law_933 39 rfl)
theorem dL_law_973 : decode cL_law 973 = .ok (.aload_n 3, 1) := dq_45  (uat ck_cL_law_933 40 rfl)
theorem dL_law_974 : decode cL_law 974 = .ok (.invokestatic 212, 3) := dq_184 0 212 (uat ck_cL_law_933 41 rfl) (uat ck_cL_law_933 42 rfl) (uat ck_cL_law_933 43 rfl) rfl
theorem dL_law_977 : decode cL_law 977 = .ok (.istore 5, 2) := dq_54 5 (uat ck_cL_law_933 44 rfl) (uat ck_cL_law_933 45 rfl) rfl
theorem dL_law_979 : decode cL_law 979 = .ok (.aload_n 2, 1) := dq_44  (uat ck_cL_law_933 46 rfl)
theorem dL_law_980 : decode cL_law 980 = .ok (.aload_n 0, 1) := dq_42  (uat ck_cL_law_933 47 rfl)
theorem dL_law_981 : decode cL_law 981 = .ok (.iload 4, 2) := dq_21 4 (uat ck_cL_law_933 48 rfl) (uat ck_cL_law_933 49 rfl) rfl
theorem dL_law_983 : decode cL_law 983 = .ok (.iconst 1, 1) := dq_4  (uat ck_cL_law_933 50 rfl)
theorem dL_law_984 : decode cL_law 984 = .ok (.iadd, 1) := dq_96  (uat ck_cL_law_933 51 rfl)
theorem dL_law_985 : decode cL_law 985 = .ok (.iaload, 1) := dq_46  (uat ck_cL_law_933 52 rfl)
theorem dL_law_986 : decode cL_law 986 = .ok (.invokevirtual 214, 3) := dq_182 0 214 (uat ck_cL_law_933 53 rfl) (uat ck_cL_law_933 54 rfl) (uat ck_cL_law_933 55 rfl) rfl
theorem dL_law_989 : decode cL_law 989 = .ok (.istore 6, 2) := dq_54 6 (uat ck_cL_law_933 56 rfl) (uat ck_cL_law_933 57 rfl) rfl
theorem dL_law_991 : decode cL_law 991 = .ok (.goto 1124, 3) := dq_167 4 100 (uat ck_cL_law_933 58 rfl) (uat ck_cL_law_933 59 rfl) (uat ck_cL_law_933 60 rfl) (by decide)
theorem ck_cL_law_994 : (cL_law.data.toList.drop 994).take 57 = [43, 42, 21, 4, 4, 96, 46, 42, 21, 4, 5, 96, 46, 45, 184, 0, 215, 54, 5, 44, 42, 21, 4, 4, 96, 46, 42, 21, 4, 5, 96, 46, 182, 0, 217, 54, 6, 167, 4, 60, 43, 42, 21, 4, 4, 96, 46, 45, 184, 0, 218, 54, 5, 44, 42, 21, 4] := by decide +kernel
theorem dL_law_994 : decode cL_law 994 = .ok (.aload_n 1, 1) := dq_43  (uat ck_cL_law_994 0 rfl)
theorem dL_law_995 : decode cL_law 995 = .ok (.aload_n 0, 1) := dq_42  (uat ck_cL_law_994 1 rfl)
theorem dL_law_996 : decode cL_law 996 = .ok (.iload 4, 2) := dq_21 4 (uat ck_cL_law_994 2 rfl) (uat ck_cL_law_994 3 rfl) rfl
theorem dL_law_998 : decode cL_law 998 = .ok (.iconst 1, 1) := dq_4  (uat ck_cL_law_994 4 rfl)
theorem dL_law_999 : decode cL_law 999 = .ok (.iadd, 1) := dq_96  (uat ck_cL_law_994 5 rfl)
theorem dL_law_1000 : decode cL_law 1000 = .ok (.iaload, 1) := dq_46  (uat ck_cL_law_994 6 rfl)
theorem dL_law_1001 : decode cL_law 1001 = .ok (.aload_n 0, 1) := dq_42  (uat ck_cL_law_994 7 rfl)
theorem dL_law_1002 : decode cL_law 1002 = .ok (.iload 4, 2) := dq_21 4 (uat ck_cL_law_994 8 rfl) (uat ck_cL_law_994 9 rfl) rfl
theorem dL_law_1004 : decode cL_law 1004 = .ok (.iconst 2, 1) := dq_5  (uat ck_cL_law_994 10 rfl)
theorem dL_law_1005 : decode cL_law 1005 = .ok (.iadd, 1) := dq_96  (uat ck_cL_law_994 11 rfl)
theorem dL_law_1006 : decode cL_law 1006 = .ok (.iaload, 1) := dq_46  (uat ck_cL_law_994 12 rfl)
theorem dL_law_1007 : decode cL_law 1007 = .ok (.aload_n 3, 1) := dq_45  (uat ck_cL_law_994 13 rfl)
theorem dL_law_1008 : decode cL_law 1008 = .ok (.invokestatic 215, 3) := dq_184 0 215 (uat ck_cL_law_994 14 rfl) (uat ck_cL_law_994 15 rfl) (uat ck_cL_law_994 16 rfl) rfl
theorem dL_law_1011 : decode cL_law 1011 = .ok (.istore 5, 2) := dq_54 5 (uat ck_cL_law_994 17 rfl) (uat ck_cL_law_994 18 rfl) rfl
theorem dL_law_1013 : decode cL_law 1013 = .ok (.aload_n 2, 1) := dq_44  (uat ck_cL_law_994 19 rfl)
theorem dL_law_1014 : decode cL_law 1014 = .ok (.aload_n 0, 1) := dq_42  (uat ck_cL_law_994 20 rfl)
theorem dL_law_1015 : decode cL_law 1015 = .ok (.iload 4, 2) := dq_21 4 (uat ck_cL_law_994 21 rfl) (uat ck_cL_law_994 22 rfl) rfl
theorem dL_law_1017 : decode cL_law 1017 = .ok (.iconst 1, 1) := dq_4  (uat ck_cL_law_994 23 rfl)
theorem dL_law_1018 : decode cL_law 1018 = .ok (.iadd, 1) := dq_96  (uat ck_cL_law_994 24 rfl)
theorem dL_law_1019 : decode cL_law 1019 = .ok (.iaload, 1) := dq_46  (uat ck_cL_law_994 25 rfl)
theorem dL_law_1020 : decode cL_law 1020 = .ok (.aload_n 0, 1) := dq_42  (uat ck_cL_law_994 26 rfl)
theorem dL_law_1021 : decode cL_law 1021 = .ok (.iload 4, 2) := dq_21 4 (uat ck_cL_law_994 27 rfl) (uat ck_cL_law_994 28 rfl) rfl
theorem dL_law_1023 : decode cL_law 1023 = .ok (.iconst 2, 1) := dq_5  (uat ck_cL_law_994 29 rfl)
theorem dL_law_1024 : decode cL_law 1024 = .ok (.iadd, 1) := dq_96  (uat ck_cL_law_994 30 rfl)
theorem dL_law_1025 : decode cL_law 1025 = .ok (.iaload, 1) := dq_46  (uat ck_cL_law_994 31 rfl)
theorem dL_law_1026 : decode cL_law 1026 = .ok (.invokevirtual 217, 3) := dq_182 0 217 (uat ck_cL_law_994 32 rfl) (uat ck_cL_law_994 33 rfl) (uat ck_cL_law_994 34 rfl) rfl
theorem dL_law_1029 : decode cL_law 1029 = .ok (.istore 6, 2) := dq_54 6 (uat ck_cL_law_994 35 rfl) (uat ck_cL_law_994 36 rfl) rfl
theorem dL_law_1031 : decode cL_law 1031 = .ok (.goto 1084, 3) := dq_167 4 60 (uat ck_cL_law_994 37 rfl) (uat ck_cL_law_994 38 rfl) (uat ck_cL_law_994 39 rfl) (by decide)
theorem dL_law_1034 : decode cL_law 1034 = .ok (.aload_n 1, 1) := dq_43  (uat ck_cL_law_994 40 rfl)
theorem dL_law_1035 : decode cL_law 1035 = .ok (.aload_n 0, 1) := dq_42  (uat ck_cL_law_994 41 rfl)
theorem dL_law_1036 : decode cL_law 1036 = .ok (.iload 4, 2) := dq_21 4 (uat ck_cL_law_994 42 rfl) (uat ck_cL_law_994 43 rfl) rfl
theorem dL_law_1038 : decode cL_law 1038 = .ok (.iconst 1, 1) := dq_4  (uat ck_cL_law_994 44 rfl)
theorem dL_law_1039 : decode cL_law 1039 = .ok (.iadd, 1) := dq_96  (uat ck_cL_law_994 45 rfl)
theorem dL_law_1040 : decode cL_law 1040 = .ok (.iaload, 1) := dq_46  (uat ck_cL_law_994 46 rfl)
theorem dL_law_1041 : decode cL_law 1041 = .ok (.aload_n 3, 1) := dq_45  (uat ck_cL_law_994 47 rfl)
theorem dL_law_1042 : decode cL_law 1042 = .ok (.invokestatic 218, 3) := dq_184 0 218 (uat ck_cL_law_994 48 rfl) (uat ck_cL_law_994 49 rfl) (uat ck_cL_law_994 50 rfl) rfl
theorem dL_law_1045 : decode cL_law 1045 = .ok (.istore 5, 2) := dq_54 5 (uat ck_cL_law_994 51 rfl) (uat ck_cL_law_994 52 rfl) rfl
theorem dL_law_1047 : decode cL_law 1047 = .ok (.aload_n 2, 1) := dq_44  (uat ck_cL_law_994 53 rfl)
theorem dL_law_1048 : decode cL_law 1048 = .ok (.aload_n 0, 1) := dq_42  (uat ck_cL_law_994 54 rfl)
theorem dL_law_1049 : decode cL_law 1049 = .ok (.iload 4, 2) := dq_21 4 (uat ck_cL_law_994 55 rfl) (uat ck_cL_law_994 56 rfl) rfl
theorem ck_cL_law_1051 : (cL_law.data.toList.drop 1051).take 54 = [4, 96, 46, 182, 0, 220, 54, 6, 167, 4, 32, 43, 42, 21, 4, 4, 96, 46, 42, 21, 4, 5, 96, 46, 42, 21, 4, 6, 96, 46, 45, 184, 0, 221, 54, 5, 44, 42, 21, 4, 4, 96, 46, 42, 21, 4, 5, 96, 46, 42, 21, 4, 6, 96] := by decide +kernel
theorem dL_law_1051 : decode cL_law 1051 = .ok (.iconst 1, 1) := dq_4  (uat ck_cL_law_1051 0 rfl)
theorem dL_law_1052 : decode cL_law 1052 = .ok (.iadd, 1) := dq_96  (uat ck_cL_law_1051 1 rfl)
theorem dL_law_1053 : decode cL_law 1053 = .ok (.iaload, 1) := dq_46  (uat ck_cL_law_1051 2 rfl)
theorem dL_law_1054 : decode cL_law 1054 = .ok (.invokevirtual 220, 3) := dq_182 0 220 (uat ck_cL_law_1051 3 rfl) (uat ck_cL_law_1051 4 rfl) (uat ck_cL_law_1051 5 rfl) rfl
theorem dL_law_1057 : decode cL_law 1057 = .ok (.istore 6, 2) := dq_54 6 (uat ck_cL_law_1051 6 rfl) (uat ck_cL_law_1051 7 rfl) rfl
theorem dL_law_1059 : decode cL_law 1059 = .ok (.goto 1056, 3) := dq_167 4 32 (uat ck_cL_law_1051 8 rfl) (uat ck_cL_law_1051 9 rfl) (uat ck_cL_law_1051 10 rfl) (by decide)
theorem dL_law_1062 : decode cL_law 1062 = .ok (.aload_n 1, 1) := dq_43  (uat ck_cL_law_1051 11 rfl)
theorem dL_law_1063 : decode cL_law 1063 = .ok (.aload_n 0, 1) := dq_42  (uat ck_cL_law_1051 12 rfl)
theorem dL_law_1064 : decode cL_law 1064 = .ok (.iload 4, 2) := dq_21 4 (uat ck_cL_law_1051 13 rfl) (uat ck_cL_law_1051 14 rfl) rfl
theorem dL_law_1066 : decode cL_law 1066 = .ok (.iconst 1, 1) := dq_4  (uat ck_cL_law_1051 15 rfl)
theorem dL_law_1067 : decode cL_law 1067 = .ok (.iadd, 1) := dq_96  (uat ck_cL_law_1051 16 rfl)
theorem dL_law_1068 : decode cL_law 1068 = .ok (.iaload, 1) := dq_46  (uat ck_cL_law_1051 17 rfl)
theorem dL_law_1069 : decode cL_law 1069 = .ok (.aload_n 0, 1) := dq_42  (uat ck_cL_law_1051 18 rfl)
theorem dL_law_1070 : decode cL_law 1070 = .ok (.iload 4, 2) := dq_21 4 (uat ck_cL_law_1051 19 rfl) (uat ck_cL_law_1051 20 rfl) rfl
theorem dL_law_1072 : decode cL_law 1072 = .ok (.iconst 2, 1) := dq_5  (uat ck_cL_law_1051 21 rfl)
theorem dL_law_1073 : decode cL_law 1073 = .ok (.iadd, 1) := dq_96  (uat ck_cL_law_1051 22 rfl)
theorem dL_law_1074 : decode cL_law 1074 = .ok (.iaload, 1) := dq_46  (uat ck_cL_law_1051 23 rfl)
theorem dL_law_1075 : decode cL_law 1075 = .ok (.aload_n 0, 1) := dq_42  (uat ck_cL_law_1051 24 rfl)
theorem dL_law_1076 : decode cL_law 1076 = .ok (.iload 4, 2) := dq_21 4 (uat ck_cL_law_1051 25 rfl) (uat ck_cL_law_1051 26 rfl) rfl
theorem dL_law_1078 : decode cL_law 1078 = .ok (.iconst 3, 1) := dq_6  (uat ck_cL_law_1051 27 rfl)
theorem dL_law_1079 : decode cL_law 1079 = .ok (.iadd, 1) := dq_96  (uat ck_cL_law_1051 28 rfl)
theorem dL_law_1080 : decode cL_law 1080 = .ok (.iaload, 1) := dq_46  (uat ck_cL_law_1051 29 rfl)
theorem dL_law_1081 : decode cL_law 1081 = .ok (.aload_n 3, 1) := dq_45  (uat ck_cL_law_1051 30 rfl)
theorem dL_law_1082 : decode cL_law 1082 = .ok (.invokestatic 221, 3) := dq_184 0 221 (uat ck_cL_law_1051 31 rfl) (uat ck_cL_law_1051 32 rfl) (uat ck_cL_law_1051 33 rfl) rfl
theorem dL_law_1085 : decode cL_law 1085 = .ok (.istore 5, 2) := dq_54 5 (uat ck_cL_law_1051 34 rfl) (uat ck_cL_law_1051 35 rfl) rfl
theorem dL_law_1087 : decode cL_law 1087 = .ok (.aload_n 2, 1) := dq_44  (uat ck_cL_law_1051 36 rfl)
theorem dL_law_1088 : decode cL_law 1088 = .ok (.aload_n 0, 1) := dq_42  (uat ck_cL_law_1051 37 rfl)
theorem dL_law_1089 : decode cL_law 1089 = .ok (.iload 4, 2) := dq_21 4 (uat ck_cL_law_1051 38 rfl) (uat ck_cL_law_1051 39 rfl) rfl
theorem dL_law_1091 : decode cL_law 1091 = .ok (.iconst 1, 1) := dq_4  (uat ck_cL_law_1051 40 rfl)
theorem dL_law_1092 : decode cL_law 1092 = .ok (.iadd, 1) := dq_96  (uat ck_cL_law_1051 41 rfl)
theorem dL_law_1093 : decode cL_law 1093 = .ok (.iaload, 1) := dq_46  (uat ck_cL_law_1051 42 rfl)
theorem dL_law_1094 : decode cL_law 1094 = .ok (.aload_n 0, 1) := dq_42  (uat ck_cL_law_1051 43 rfl)
theorem dL_law_1095 : decode cL_law 1095 = .ok (.iload 4, 2) := dq_21 4 (uat ck_cL_law_1051 44 rfl) (uat ck_cL_law_1051 45 rfl) rfl
theorem dL_law_1097 : decode cL_law 1097 = .ok (.iconst 2, 1) := dq_5  (uat ck_cL_law_1051 46 rfl)
theorem dL_law_1098 : decode cL_law 1098 = .ok (.iadd, 1) := dq_96  (uat ck_cL_law_1051 47 rfl)
theorem dL_law_1099 : decode cL_law 1099 = .ok (.iaload, 1) := dq_46  (uat ck_cL_law_1051 48 rfl)
theorem dL_law_1100 : decode cL_law 1100 = .ok (.aload_n 0, 1) := dq_42  (uat ck_cL_law_1051 49 rfl)
theorem dL_law_1101 : decode cL_law 1101 = .ok (.iload 4, 2) := dq_21 4 (uat ck_cL_law_1051 50 rfl) (uat ck_cL_law_1051 51 rfl) rfl
theorem dL_law_1103 : decode cL_law 1103 = .ok (.iconst 3, 1) := dq_6  (uat ck_cL_law_1051 52 rfl)
theorem dL_law_1104 : decode cL_law 1104 = .ok (.iadd, 1) := dq_96  (uat ck_cL_law_1051 53 rfl)
theorem ck_cL_law_1105 : (cL_law.data.toList.drop 1105).take 61 = [46, 182, 0, 223, 54, 6, 167, 3, 236, 43, 42, 21, 4, 4, 96, 46, 45, 184, 0, 224, 54, 5, 44, 42, 21, 4, 4, 96, 46, 182, 0, 226, 54, 6, 167, 3, 208, 43, 42, 21, 4, 4, 96, 46, 42, 21, 4, 5, 96, 46, 45, 184, 0, 227, 54, 5, 44, 42, 21, 4, 4] := by decide +kernel
theorem dL_law_1105 : decode cL_law 1105 = .ok (.iaload, 1) := dq_46  (uat ck_cL_law_1105 0 rfl)
theorem dL_law_1106 : decode cL_law 1106 = .ok (.invokevirtual 223, 3) := dq_182 0 223 (uat ck_cL_law_1105 1 rfl) (uat ck_cL_law_1105 2 rfl) (uat ck_cL_law_1105 3 rfl) rfl
theorem dL_law_1109 : decode cL_law 1109 = .ok (.istore 6, 2) := dq_54 6 (uat ck_cL_law_1105 4 rfl) (uat ck_cL_law_1105 5 rfl) rfl
theorem dL_law_1111 : decode cL_law 1111 = .ok (.goto 1004, 3) := dq_167 3 236 (uat ck_cL_law_1105 6 rfl) (uat ck_cL_law_1105 7 rfl) (uat ck_cL_law_1105 8 rfl) (by decide)
theorem dL_law_1114 : decode cL_law 1114 = .ok (.aload_n 1, 1) := dq_43  (uat ck_cL_law_1105 9 rfl)
theorem dL_law_1115 : decode cL_law 1115 = .ok (.aload_n 0, 1) := dq_42  (uat ck_cL_law_1105 10 rfl)
theorem dL_law_1116 : decode cL_law 1116 = .ok (.iload 4, 2) := dq_21 4 (uat ck_cL_law_1105 11 rfl) (uat ck_cL_law_1105 12 rfl) rfl
theorem dL_law_1118 : decode cL_law 1118 = .ok (.iconst 1, 1) := dq_4  (uat ck_cL_law_1105 13 rfl)
theorem dL_law_1119 : decode cL_law 1119 = .ok (.iadd, 1) := dq_96  (uat ck_cL_law_1105 14 rfl)
theorem dL_law_1120 : decode cL_law 1120 = .ok (.iaload, 1) := dq_46  (uat ck_cL_law_1105 15 rfl)
theorem dL_law_1121 : decode cL_law 1121 = .ok (.aload_n 3, 1) := dq_45  (uat ck_cL_law_1105 16 rfl)
theorem dL_law_1122 : decode cL_law 1122 = .ok (.invokestatic 224, 3) := dq_184 0 224 (uat ck_cL_law_1105 17 rfl) (uat ck_cL_law_1105 18 rfl) (uat ck_cL_law_1105 19 rfl) rfl
theorem dL_law_1125 : decode cL_law 1125 = .ok (.istore 5, 2) := dq_54 5 (uat ck_cL_law_1105 20 rfl) (uat ck_cL_law_1105 21 rfl) rfl
theorem dL_law_1127 : decode cL_law 1127 = .ok (.aload_n 2, 1) := dq_44  (uat ck_cL_law_1105 22 rfl)
theorem dL_law_1128 : decode cL_law 1128 = .ok (.aload_n 0, 1) := dq_42  (uat ck_cL_law_1105 23 rfl)
theorem dL_law_1129 : decode cL_law 1129 = .ok (.iload 4, 2) := dq_21 4 (uat ck_cL_law_1105 24 rfl) (uat ck_cL_law_1105 25 rfl) rfl
theorem dL_law_1131 : decode cL_law 1131 = .ok (.iconst 1, 1) := dq_4  (uat ck_cL_law_1105 26 rfl)
theorem dL_law_1132 : decode cL_law 1132 = .ok (.iadd, 1) := dq_96  (uat ck_cL_law_1105 27 rfl)
theorem dL_law_1133 : decode cL_law 1133 = .ok (.iaload, 1) := dq_46  (uat ck_cL_law_1105 28 rfl)
theorem dL_law_1134 : decode cL_law 1134 = .ok (.invokevirtual 226, 3) := dq_182 0 226 (uat ck_cL_law_1105 29 rfl) (uat ck_cL_law_1105 30 rfl) (uat ck_cL_law_1105 31 rfl) rfl
theorem dL_law_1137 : decode cL_law 1137 = .ok (.istore 6, 2) := dq_54 6 (uat ck_cL_law_1105 32 rfl) (uat ck_cL_law_1105 33 rfl) rfl
theorem dL_law_1139 : decode cL_law 1139 = .ok (.goto 976, 3) := dq_167 3 208 (uat ck_cL_law_1105 34 rfl) (uat ck_cL_law_1105 35 rfl) (uat ck_cL_law_1105 36 rfl) (by decide)
theorem dL_law_1142 : decode cL_law 1142 = .ok (.aload_n 1, 1) := dq_43  (uat ck_cL_law_1105 37 rfl)
theorem dL_law_1143 : decode cL_law 1143 = .ok (.aload_n 0, 1) := dq_42  (uat ck_cL_law_1105 38 rfl)
theorem dL_law_1144 : decode cL_law 1144 = .ok (.iload 4, 2) := dq_21 4 (uat ck_cL_law_1105 39 rfl) (uat ck_cL_law_1105 40 rfl) rfl
theorem dL_law_1146 : decode cL_law 1146 = .ok (.iconst 1, 1) := dq_4  (uat ck_cL_law_1105 41 rfl)
theorem dL_law_1147 : decode cL_law 1147 = .ok (.iadd, 1) := dq_96  (uat ck_cL_law_1105 42 rfl)
theorem dL_law_1148 : decode cL_law 1148 = .ok (.iaload, 1) := dq_46  (uat ck_cL_law_1105 43 rfl)
theorem dL_law_1149 : decode cL_law 1149 = .ok (.aload_n 0, 1) := dq_42  (uat ck_cL_law_1105 44 rfl)
theorem dL_law_1150 : decode cL_law 1150 = .ok (.iload 4, 2) := dq_21 4 (uat ck_cL_law_1105 45 rfl) (uat ck_cL_law_1105 46 rfl) rfl
theorem dL_law_1152 : decode cL_law 1152 = .ok (.iconst 2, 1) := dq_5  (uat ck_cL_law_1105 47 rfl)
theorem dL_law_1153 : decode cL_law 1153 = .ok (.iadd, 1) := dq_96  (uat ck_cL_law_1105 48 rfl)
theorem dL_law_1154 : decode cL_law 1154 = .ok (.iaload, 1) := dq_46  (uat ck_cL_law_1105 49 rfl)
theorem dL_law_1155 : decode cL_law 1155 = .ok (.aload_n 3, 1) := dq_45  (uat ck_cL_law_1105 50 rfl)
theorem dL_law_1156 : decode cL_law 1156 = .ok (.invokestatic 227, 3) := dq_184 0 227 (uat ck_cL_law_1105 51 rfl) (uat ck_cL_law_1105 52 rfl) (uat ck_cL_law_1105 53 rfl) rfl
theorem dL_law_1159 : decode cL_law 1159 = .ok (.istore 5, 2) := dq_54 5 (uat ck_cL_law_1105 54 rfl) (uat ck_cL_law_1105 55 rfl) rfl
theorem dL_law_1161 : decode cL_law 1161 = .ok (.aload_n 2, 1) := dq_44  (uat ck_cL_law_1105 56 rfl)
theorem dL_law_1162 : decode cL_law 1162 = .ok (.aload_n 0, 1) := dq_42  (uat ck_cL_law_1105 57 rfl)
theorem dL_law_1163 : decode cL_law 1163 = .ok (.iload 4, 2) := dq_21 4 (uat ck_cL_law_1105 58 rfl) (uat ck_cL_law_1105 59 rfl) rfl
theorem dL_law_1165 : decode cL_law 1165 = .ok (.iconst 1, 1) := dq_4  (uat ck_cL_law_1105 60 rfl)
theorem ck_cL_law_1166 : (cL_law.data.toList.drop 1166).take 63 = [96, 46, 42, 21, 4, 5, 96, 46, 182, 0, 229, 54, 6, 167, 3, 168, 43, 182, 0, 230, 87, 44, 182, 0, 234, 87, 167, 3, 155, 43, 42, 21, 4, 4, 96, 46, 45, 184, 0, 235, 54, 5, 44, 42, 21, 4, 4, 96, 46, 182, 0, 237, 58, 6, 167, 3, 127, 43, 42, 21, 4, 4, 96] := by decide +kernel
theorem dL_law_1166 : decode cL_law 1166 = .ok (.iadd, 1) := dq_96  (uat ck_cL_law_1166 0 rfl)
theorem dL_law_1167 : decode cL_law 1167 = .ok (.iaload, 1) := dq_46  (uat ck_cL_law_1166 1 rfl)
theorem dL_law_1168 : decode cL_law 1168 = .ok (.aload_n 0, 1) := dq_42  (uat ck_cL_law_1166 2 rfl)
theorem dL_law_1169 : decode cL_law 1169 = .ok (.iload 4, 2) := dq_21 4 (uat ck_cL_law_1166 3 rfl) (uat ck_cL_law_1166 4 rfl) rfl
theorem dL_law_1171 : decode cL_law 1171 = .ok (.iconst 2, 1) := dq_5  (uat ck_cL_law_1166 5 rfl)
theorem dL_law_1172 : decode cL_law 1172 = .ok (.iadd, 1) := dq_96  (uat ck_cL_law_1166 6 rfl)
theorem dL_law_1173 : decode cL_law 1173 = .ok (.iaload, 1) := dq_46  (uat ck_cL_law_1166 7 rfl)
theorem dL_law_1174 : decode cL_law 1174 = .ok (.invokevirtual 229, 3) := dq_182 0 229 (uat ck_cL_law_1166 8 rfl) (uat ck_cL_law_1166 9 rfl) (uat ck_cL_law_1166 10 rfl) rfl
theorem dL_law_1177 : decode cL_law 1177 = .ok (.istore 6, 2) := dq_54 6 (uat ck_cL_law_1166 11 rfl) (uat ck_cL_law_1166 12 rfl) rfl
theorem dL_law_1179 : decode cL_law 1179 = .ok (.goto 936, 3) := dq_167 3 168 (uat ck_cL_law_1166 13 rfl) (uat ck_cL_law_1166 14 rfl) (uat ck_cL_law_1166 15 rfl) (by decide)
theorem dL_law_1182 : decode cL_law 1182 = .ok (.aload_n 1, 1) := dq_43  (uat ck_cL_law_1166 16 rfl)
theorem dL_law_1183 : decode cL_law 1183 = .ok (.invokevirtual 230, 3) := dq_182 0 230 (uat ck_cL_law_1166 17 rfl) (uat ck_cL_law_1166 18 rfl) (uat ck_cL_law_1166 19 rfl) rfl
theorem dL_law_1186 : decode cL_law 1186 = .ok (.pop, 1) := by decide +kernel
theorem dL_law_1187 : decode cL_law 1187 = .ok (.aload_n 2, 1) := dq_44  (uat ck_cL_law_1166 21 rfl)
theorem dL_law_1188 : decode cL_law 1188 = .ok (.invokevirtual 234, 3) := dq_182 0 234 (uat ck_cL_law_1166 22 rfl) (uat ck_cL_law_1166 23 rfl) (uat ck_cL_law_1166 24 rfl) rfl
theorem dL_law_1191 : decode cL_law 1191 = .ok (.pop, 1) := by decide +kernel
theorem dL_law_1192 : decode cL_law 1192 = .ok (.goto 923, 3) := dq_167 3 155 (uat ck_cL_law_1166 26 rfl) (uat ck_cL_law_1166 27 rfl) (uat ck_cL_law_1166 28 rfl) (by decide)
theorem dL_law_1195 : decode cL_law 1195 = .ok (.aload_n 1, 1) := dq_43  (uat ck_cL_law_1166 29 rfl)
theorem dL_law_1196 : decode cL_law 1196 = .ok (.aload_n 0, 1) := dq_42  (uat ck_cL_law_1166 30 rfl)
theorem dL_law_1197 : decode cL_law 1197 = .ok (.iload 4, 2) := dq_21 4 (uat ck_cL_law_1166 31 rfl) (uat ck_cL_law_1166 32 rfl) rfl
theorem dL_law_1199 : decode cL_law 1199 = .ok (.iconst 1, 1) := dq_4  (uat ck_cL_law_1166 33 rfl)
theorem dL_law_1200 : decode cL_law 1200 = .ok (.iadd, 1) := dq_96  (uat ck_cL_law_1166 34 rfl)
theorem dL_law_1201 : decode cL_law 1201 = .ok (.iaload, 1) := dq_46  (uat ck_cL_law_1166 35 rfl)
theorem dL_law_1202 : decode cL_law 1202 = .ok (.aload_n 3, 1) := dq_45  (uat ck_cL_law_1166 36 rfl)
theorem dL_law_1203 : decode cL_law 1203 = .ok (.invokestatic 235, 3) := dq_184 0 235 (uat ck_cL_law_1166 37 rfl) (uat ck_cL_law_1166 38 rfl) (uat ck_cL_law_1166 39 rfl) rfl
theorem dL_law_1206 : decode cL_law 1206 = .ok (.istore 5, 2) := dq_54 5 (uat ck_cL_law_1166 40 rfl) (uat ck_cL_law_1166 41 rfl) rfl
theorem dL_law_1208 : decode cL_law 1208 = .ok (.aload_n 2, 1) := dq_44  (uat ck_cL_law_1166 42 rfl)
theorem dL_law_1209 : decode cL_law 1209 = .ok (.aload_n 0, 1) := dq_42  (uat ck_cL_law_1166 43 rfl)
theorem dL_law_1210 : decode cL_law 1210 = .ok (.iload 4, 2) := dq_21 4 (uat ck_cL_law_1166 44 rfl) (uat ck_cL_law_1166 45 rfl) rfl
theorem dL_law_1212 : decode cL_law 1212 = .ok (.iconst 1, 1) := dq_4  (uat ck_cL_law_1166 46 rfl)
theorem dL_law_1213 : decode cL_law 1213 = .ok (.iadd, 1) := dq_96  (uat ck_cL_law_1166 47 rfl)
theorem dL_law_1214 : decode cL_law 1214 = .ok (.iaload, 1) := dq_46  (uat ck_cL_law_1166 48 rfl)
theorem dL_law_1215 : decode cL_law 1215 = .ok (.invokevirtual 237, 3) := dq_182 0 237 (uat ck_cL_law_1166 49 rfl) (uat ck_cL_law_1166 50 rfl) (uat ck_cL_law_1166 51 rfl) rfl
theorem dL_law_1218 : decode cL_law 1218 = .ok (.astore 6, 2) := by decide +kernel
theorem dL_law_1220 : decode cL_law 1220 = .ok (.goto 895, 3) := dq_167 3 127 (uat ck_cL_law_1166 54 rfl) (uat ck_cL_law_1166 55 rfl) (uat ck_cL_law_1166 56 rfl) (by decide)
theorem dL_law_1223 : decode cL_law 1223 = .ok (.aload_n 1, 1) := dq_43  (uat ck_cL_law_1166 57 rfl)
theorem dL_law_1224 : decode cL_law 1224 = .ok (.aload_n 0, 1) := dq_42  (uat ck_cL_law_1166 58 rfl)
theorem dL_law_1225 : decode cL_law 1225 = .ok (.iload 4, 2) := dq_21 4 (uat ck_cL_law_1166 59 rfl) (uat ck_cL_law_1166 60 rfl) rfl
theorem dL_law_1227 : decode cL_law 1227 = .ok (.iconst 1, 1) := dq_4  (uat ck_cL_law_1166 61 rfl)
theorem dL_law_1228 : decode cL_law 1228 = .ok (.iadd, 1) := dq_96  (uat ck_cL_law_1166 62 rfl)
theorem ck_cL_law_1229 : (cL_law.data.toList.drop 1229).take 59 = [46, 45, 184, 0, 238, 54, 5, 44, 42, 21, 4, 4, 96, 46, 182, 0, 240, 54, 6, 167, 3, 99, 43, 42, 21, 4, 4, 96, 46, 42, 21, 4, 5, 96, 46, 45, 184, 0, 241, 54, 5, 44, 42, 21, 4, 4, 96, 46, 42, 21, 4, 5, 96, 46, 182, 0, 243, 54, 6] := by decide +kernel
theorem dL_law_1229 : decode cL_law 1229 = .ok (.iaload, 1) := dq_46  (uat ck_cL_law_1229 0 rfl)
theorem dL_law_1230 : decode cL_law 1230 = .ok (.aload_n 3, 1) := dq_45  (uat ck_cL_law_1229 1 rfl)
theorem dL_law_1231 : decode cL_law 1231 = .ok (.invokestatic 238, 3) := dq_184 0 238 (uat ck_cL_law_1229 2 rfl) (uat ck_cL_law_1229 3 rfl) (uat ck_cL_law_1229 4 rfl) rfl
theorem dL_law_1234 : decode cL_law 1234 = .ok (.istore 5, 2) := dq_54 5 (uat ck_cL_law_1229 5 rfl) (uat ck_cL_law_1229 6 rfl) rfl
theorem dL_law_1236 : decode cL_law 1236 = .ok (.aload_n 2, 1) := dq_44  (uat ck_cL_law_1229 7 rfl)
theorem dL_law_1237 : decode cL_law 1237 = .ok (.aload_n 0, 1) := dq_42  (uat ck_cL_law_1229 8 rfl)
theorem dL_law_1238 : decode cL_law 1238 = .ok (.iload 4, 2) := dq_21 4 (uat ck_cL_law_1229 9 rfl) (uat ck_cL_law_1229 10 rfl) rfl
theorem dL_law_1240 : decode cL_law 1240 = .ok (.iconst 1, 1) := dq_4  (uat ck_cL_law_1229 11 rfl)
theorem dL_law_1241 : decode cL_law 1241 = .ok (.iadd, 1) := dq_96  (uat ck_cL_law_1229 12 rfl)
theorem dL_law_1242 : decode cL_law 1242 = .ok (.iaload, 1) := dq_46  (uat ck_cL_law_1229 13 rfl)
theorem dL_law_1243 : decode cL_law 1243 = .ok (.invokevirtual 240, 3) := dq_182 0 240 (uat ck_cL_law_1229 14 rfl) (uat ck_cL_law_1229 15 rfl) (uat ck_cL_law_1229 16 rfl) rfl
theorem dL_law_1246 : decode cL_law 1246 = .ok (.istore 6, 2) := dq_54 6 (uat ck_cL_law_1229 17 rfl) (uat ck_cL_law_1229 18 rfl) rfl
theorem dL_law_1248 : decode cL_law 1248 = .ok (.goto 867, 3) := dq_167 3 99 (uat ck_cL_law_1229 19 rfl) (uat ck_cL_law_1229 20 rfl) (uat ck_cL_law_1229 21 rfl) (by decide)
theorem dL_law_1251 : decode cL_law 1251 = .ok (.aload_n 1, 1) := dq_43  (uat ck_cL_law_1229 22 rfl)
theorem dL_law_1252 : decode cL_law 1252 = .ok (.aload_n 0, 1) := dq_42  (uat ck_cL_law_1229 23 rfl)
theorem dL_law_1253 : decode cL_law 1253 = .ok (.iload 4, 2) := dq_21 4 (uat ck_cL_law_1229 24 rfl) (uat ck_cL_law_1229 25 rfl) rfl
theorem dL_law_1255 : decode cL_law 1255 = .ok (.iconst 1, 1) := dq_4  (uat ck_cL_law_1229 26 rfl)
theorem dL_law_1256 : decode cL_law 1256 = .ok (.iadd, 1) := dq_96  (uat ck_cL_law_1229 27 rfl)
theorem dL_law_1257 : decode cL_law 1257 = .ok (.iaload, 1) := dq_46  (uat ck_cL_law_1229 28 rfl)
theorem dL_law_1258 : decode cL_law 1258 = .ok (.aload_n 0, 1) := dq_42  (uat ck_cL_law_1229 29 rfl)
theorem dL_law_1259 : decode cL_law 1259 = .ok (.iload 4, 2) := dq_21 4 (uat ck_cL_law_1229 30 rfl) (uat ck_cL_law_1229 31 rfl) rfl
theorem dL_law_1261 : decode cL_law 1261 = .ok (.iconst 2, 1) := dq_5  (uat ck_cL_law_1229 32 rfl)
theorem dL_law_1262 : decode cL_law 1262 = .ok (.iadd, 1) := dq_96  (uat ck_cL_law_1229 33 rfl)
theorem dL_law_1263 : decode cL_law 1263 = .ok (.iaload, 1) := dq_46  (uat ck_cL_law_1229 34 rfl)
theorem dL_law_1264 : decode cL_law 1264 = .ok (.aload_n 3, 1) := dq_45  (uat ck_cL_law_1229 35 rfl)
theorem dL_law_1265 : decode cL_law 1265 = .ok (.invokestatic 241, 3) := dq_184 0 241 (uat ck_cL_law_1229 36 rfl) (uat ck_cL_law_1229 37 rfl) (uat ck_cL_law_1229 38 rfl) rfl
theorem dL_law_1268 : decode cL_law 1268 = .ok (.istore 5, 2) := dq_54 5 (uat ck_cL_law_1229 39 rfl) (uat ck_cL_law_1229 40 rfl) rfl
theorem dL_law_1270 : decode cL_law 1270 = .ok (.aload_n 2, 1) := dq_44  (uat ck_cL_law_1229 41 rfl)
theorem dL_law_1271 : decode cL_law 1271 = .ok (.aload_n 0, 1) := dq_42  (uat ck_cL_law_1229 42 rfl)
theorem dL_law_1272 : decode cL_law 1272 = .ok (.iload 4, 2) := dq_21 4 (uat ck_cL_law_1229 43 rfl) (uat ck_cL_law_1229 44 rfl) rfl
theorem dL_law_1274 : decode cL_law 1274 = .ok (.iconst 1, 1) := dq_4  (uat ck_cL_law_1229 45 rfl)
theorem dL_law_1275 : decode cL_law 1275 = .ok (.iadd, 1) := dq_96  (uat ck_cL_law_1229 46 rfl)
theorem dL_law_1276 : decode cL_law 1276 = .ok (.iaload, 1) := dq_46  (uat ck_cL_law_1229 47 rfl)
theorem dL_law_1277 : decode cL_law 1277 = .ok (.aload_n 0, 1) := dq_42  (uat ck_cL_law_1229 48 rfl)
theorem dL_law_1278 : decode cL_law 1278 = .ok (.iload 4, 2) := dq_21 4 (uat ck_cL_law_1229 49 rfl) (uat ck_cL_law_1229 50 rfl) rfl
theorem dL_law_1280 : decode cL_law 1280 = .ok (.iconst 2, 1) := dq_5  (uat ck_cL_law_1229 51 rfl)
theorem dL_law_1281 : decode cL_law 1281 = .ok (.iadd, 1) := dq_96  (uat ck_cL_law_1229 52 rfl)
theorem dL_law_1282 : decode cL_law 1282 = .ok (.iaload, 1) := dq_46  (uat ck_cL_law_1229 53 rfl)
theorem dL_law_1283 : decode cL_law 1283 = .ok (.invokevirtual 243, 3) := dq_182 0 243 (uat ck_cL_law_1229 54 rfl) (uat ck_cL_law_1229 55 rfl) (uat ck_cL_law_1229 56 rfl) rfl
theorem dL_law_1286 : decode cL_law 1286 = .ok (.istore 6, 2) := dq_54 6 (uat ck_cL_law_1229 57 rfl) (uat ck_cL_law_1229 58 rfl) rfl
theorem ck_cL_law_1288 : (cL_law.data.toList.drop 1288).take 63 = [167, 3, 59, 43, 42, 21, 4, 4, 96, 46, 45, 184, 0, 244, 54, 5, 44, 42, 21, 4, 4, 96, 46, 182, 0, 246, 54, 6, 167, 3, 31, 43, 42, 21, 4, 4, 96, 46, 45, 184, 0, 247, 54, 5, 44, 42, 21, 4, 4, 96, 46, 182, 0, 249, 54, 6, 167, 3, 3, 43, 42, 21, 4] := by decide +kernel
theorem dL_law_1288 : decode cL_law 1288 = .ok (.goto 827, 3) := dq_167 3 59 (uat ck_cL_law_1288 0 rfl) (uat ck_cL_law_1288 1 rfl) (uat ck_cL_law_1288 2 rfl) (by decide)
theorem dL_law_1291 : decode cL_law 1291 = .ok (.aload_n 1, 1) := dq_43  (uat ck_cL_law_1288 3 rfl)
theorem dL_law_1292 : decode cL_law 1292 = .ok (.aload_n 0, 1) := dq_42  (uat ck_cL_law_1288 4 rfl)
theorem dL_law_1293 : decode cL_law 1293 = .ok (.iload 4, 2) := dq_21 4 (uat ck_cL_law_1288 5 rfl) (uat ck_cL_law_1288 6 rfl) rfl
theorem dL_law_1295 : decode cL_law 1295 = .ok (.iconst 1, 1) := dq_4  (uat ck_cL_law_1288 7 rfl)
theorem dL_law_1296 : decode cL_law 1296 = .ok (.iadd, 1) := dq_96  (uat ck_cL_law_1288 8 rfl)
theorem dL_law_1297 : decode cL_law 1297 = .ok (.iaload, 1) := dq_46  (uat ck_cL_law_1288 9 rfl)
theorem dL_law_1298 : decode cL_law 1298 = .ok (.aload_n 3, 1) := dq_45  (uat ck_cL_law_1288 10 rfl)
theorem dL_law_1299 : decode cL_law 1299 = .ok (.invokestatic 244, 3) := dq_184 0 244 (uat ck_cL_law_1288 11 rfl) (uat ck_cL_law_1288 12 rfl) (uat ck_cL_law_1288 13 rfl) rfl
theorem dL_law_1302 : decode cL_law 1302 = .ok (.istore 5, 2) := dq_54 5 (uat ck_cL_law_1288 14 rfl) (uat ck_cL_law_1288 15 rfl) rfl
theorem dL_law_1304 : decode cL_law 1304 = .ok (.aload_n 2, 1) := dq_44  (uat ck_cL_law_1288 16 rfl)
theorem dL_law_1305 : decode cL_law 1305 = .ok (.aload_n 0, 1) := dq_42  (uat ck_cL_law_1288 17 rfl)
theorem dL_law_1306 : decode cL_law 1306 = .ok (.iload 4, 2) := dq_21 4 (uat ck_cL_law_1288 18 rfl) (uat ck_cL_law_1288 19 rfl) rfl
theorem dL_law_1308 : decode cL_law 1308 = .ok (.iconst 1, 1) := dq_4  (uat ck_cL_law_1288 20 rfl)
theorem dL_law_1309 : decode cL_law 1309 = .ok (.iadd, 1) := dq_96  (uat ck_cL_law_1288 21 rfl)
theorem dL_law_1310 : decode cL_law 1310 = .ok (.iaload, 1) := dq_46  (uat ck_cL_law_1288 22 rfl)
theorem dL_law_1311 : decode cL_law 1311 = .ok (.invokevirtual 246, 3) := dq_182 0 246 (uat ck_cL_law_1288 23 rfl) (uat ck_cL_law_1288 24 rfl) (uat ck_cL_law_1288 25 rfl) rfl
theorem dL_law_1314 : decode cL_law 1314 = .ok (.istore 6, 2) := dq_54 6 (uat ck_cL_law_1288 26 rfl) (uat ck_cL_law_1288 27 rfl) rfl
theorem dL_law_1316 : decode cL_law 1316 = .ok (.goto 799, 3) := dq_167 3 31 (uat ck_cL_law_1288 28 rfl) (uat ck_cL_law_1288 29 rfl) (uat ck_cL_law_1288 30 rfl) (by decide)
theorem dL_law_1319 : decode cL_law 1319 = .ok (.aload_n 1, 1) := dq_43  (uat ck_cL_law_1288 31 rfl)
theorem dL_law_1320 : decode cL_law 1320 = .ok (.aload_n 0, 1) := dq_42  (uat ck_cL_law_1288 32 rfl)
theorem dL_law_1321 : decode cL_law 1321 = .ok (.iload 4, 2) := dq_21 4 (uat ck_cL_law_1288 33 rfl) (uat ck_cL_law_1288 34 rfl) rfl
theorem dL_law_1323 : decode cL_law 1323 = .ok (.iconst 1, 1) := dq_4  (uat ck_cL_law_1288 35 rfl)
theorem dL_law_1324 : decode cL_law 1324 = .ok (.iadd, 1) := dq_96  (uat ck_cL_law_1288 36 rfl)
theorem dL_law_1325 : decode cL_law 1325 = .ok (.iaload, 1) := dq_46  (uat ck_cL_law_1288 37 rfl)
theorem dL_law_1326 : decode cL_law 1326 = .ok (.aload_n 3, 1) := dq_45  (uat ck_cL_law_1288 38 rfl)
theorem dL_law_1327 : decode cL_law 1327 = .ok (.invokestatic 247, 3) := dq_184 0 247 (uat ck_cL_law_1288 39 rfl) (uat ck_cL_law_1288 40 rfl) (uat ck_cL_law_1288 41 rfl) rfl
theorem dL_law_1330 : decode cL_law 1330 = .ok (.istore 5, 2) := dq_54 5 (uat ck_cL_law_1288 42 rfl) (uat ck_cL_law_1288 43 rfl) rfl
theorem dL_law_1332 : decode cL_law 1332 = .ok (.aload_n 2, 1) := dq_44  (uat ck_cL_law_1288 44 rfl)
theorem dL_law_1333 : decode cL_law 1333 = .ok (.aload_n 0, 1) := dq_42  (uat ck_cL_law_1288 45 rfl)
theorem dL_law_1334 : decode cL_law 1334 = .ok (.iload 4, 2) := dq_21 4 (uat ck_cL_law_1288 46 rfl) (uat ck_cL_law_1288 47 rfl) rfl
theorem dL_law_1336 : decode cL_law 1336 = .ok (.iconst 1, 1) := dq_4  (uat ck_cL_law_1288 48 rfl)
theorem dL_law_1337 : decode cL_law 1337 = .ok (.iadd, 1) := dq_96  (uat ck_cL_law_1288 49 rfl)
theorem dL_law_1338 : decode cL_law 1338 = .ok (.iaload, 1) := dq_46  (uat ck_cL_law_1288 50 rfl)
theorem dL_law_1339 : decode cL_law 1339 = .ok (.invokevirtual 249, 3) := dq_182 0 249 (uat ck_cL_law_1288 51 rfl) (uat ck_cL_law_1288 52 rfl) (uat ck_cL_law_1288 53 rfl) rfl
theorem dL_law_1342 : decode cL_law 1342 = .ok (.istore 6, 2) := dq_54 6 (uat ck_cL_law_1288 54 rfl) (uat ck_cL_law_1288 55 rfl) rfl
theorem dL_law_1344 : decode cL_law 1344 = .ok (.goto 771, 3) := dq_167 3 3 (uat ck_cL_law_1288 56 rfl) (uat ck_cL_law_1288 57 rfl) (uat ck_cL_law_1288 58 rfl) (by decide)
theorem dL_law_1347 : decode cL_law 1347 = .ok (.aload_n 1, 1) := dq_43  (uat ck_cL_law_1288 59 rfl)
theorem dL_law_1348 : decode cL_law 1348 = .ok (.aload_n 0, 1) := dq_42  (uat ck_cL_law_1288 60 rfl)
theorem dL_law_1349 : decode cL_law 1349 = .ok (.iload 4, 2) := dq_21 4 (uat ck_cL_law_1288 61 rfl) (uat ck_cL_law_1288 62 rfl) rfl
theorem ck_cL_law_1351 : (cL_law.data.toList.drop 1351).take 56 = [4, 96, 46, 45, 184, 0, 250, 54, 5, 44, 42, 21, 4, 4, 96, 46, 182, 0, 252, 54, 6, 167, 2, 231, 43, 42, 21, 4, 4, 96, 46, 42, 21, 4, 5, 96, 46, 45, 184, 0, 253, 54, 5, 44, 42, 21, 4, 4, 96, 46, 42, 21, 4, 5, 96, 46] := by decide +kernel
theorem dL_law_1351 : decode cL_law 1351 = .ok (.iconst 1, 1) := dq_4  (uat ck_cL_law_1351 0 rfl)
theorem dL_law_1352 : decode cL_law 1352 = .ok (.iadd, 1) := dq_96  (uat ck_cL_law_1351 1 rfl)
theorem dL_law_1353 : decode cL_law 1353 = .ok (.iaload, 1) := dq_46  (uat ck_cL_law_1351 2 rfl)
theorem dL_law_1354 : decode cL_law 1354 = .ok (.aload_n 3, 1) := dq_45  (uat ck_cL_law_1351 3 rfl)
theorem dL_law_1355 : decode cL_law 1355 = .ok (.invokestatic 250, 3) := dq_184 0 250 (uat ck_cL_law_1351 4 rfl) (uat ck_cL_law_1351 5 rfl) (uat ck_cL_law_1351 6 rfl) rfl
theorem dL_law_1358 : decode cL_law 1358 = .ok (.istore 5, 2) := dq_54 5 (uat ck_cL_law_1351 7 rfl) (uat ck_cL_law_1351 8 rfl) rfl
theorem dL_law_1360 : decode cL_law 1360 = .ok (.aload_n 2, 1) := dq_44  (uat ck_cL_law_1351 9 rfl)
theorem dL_law_1361 : decode cL_law 1361 = .ok (.aload_n 0, 1) := dq_42  (uat ck_cL_law_1351 10 rfl)
theorem dL_law_1362 : decode cL_law 1362 = .ok (.iload 4, 2) := dq_21 4 (uat ck_cL_law_1351 11 rfl) (uat ck_cL_law_1351 12 rfl) rfl
theorem dL_law_1364 : decode cL_law 1364 = .ok (.iconst 1, 1) := dq_4  (uat ck_cL_law_1351 13 rfl)
theorem dL_law_1365 : decode cL_law 1365 = .ok (.iadd, 1) := dq_96  (uat ck_cL_law_1351 14 rfl)
theorem dL_law_1366 : decode cL_law 1366 = .ok (.iaload, 1) := dq_46  (uat ck_cL_law_1351 15 rfl)
theorem dL_law_1367 : decode cL_law 1367 = .ok (.invokevirtual 252, 3) := dq_182 0 252 (uat ck_cL_law_1351 16 rfl) (uat ck_cL_law_1351 17 rfl) (uat ck_cL_law_1351 18 rfl) rfl
theorem dL_law_1370 : decode cL_law 1370 = .ok (.istore 6, 2) := dq_54 6 (uat ck_cL_law_1351 19 rfl) (uat ck_cL_law_1351 20 rfl) rfl
theorem dL_law_1372 : decode cL_law 1372 = .ok (.goto 743, 3) := dq_167 2 231 (uat ck_cL_law_1351 21 rfl) (uat ck_cL_law_1351 22 rfl) (uat ck_cL_law_1351 23 rfl) (by decide)
theorem dL_law_1375 : decode cL_law 1375 = .ok (.aload_n 1, 1) := dq_43  (uat ck_cL_law_1351 24 rfl)
theorem dL_law_1376 : decode cL_law 1376 = .ok (.aload_n 0, 1) := dq_42  (uat ck_cL_law_1351 25 rfl)
theorem dL_law_1377 : decode cL_law 1377 = .ok (.iload 4, 2) := dq_21 4 (uat ck_cL_law_1351 26 rfl) (uat ck_cL_law_1351 27 rfl) rfl
theorem dL_law_1379 : decode cL_law 1379 = .ok (.iconst 1, 1) := dq_4  (uat ck_cL_law_1351 28 rfl)
theorem dL_law_1380 : decode cL_law 1380 = .ok (.iadd, 1) := dq_96  (uat ck_cL_law_1351 29 rfl)
theorem dL_law_1381 : decode cL_law 1381 = .ok (.iaload, 1) := dq_46  (uat ck_cL_law_1351 30 rfl)
theorem dL_law_1382 : decode cL_law 1382 = .ok (.aload_n 0, 1) := dq_42  (uat ck_cL_law_1351 31 rfl)
theorem dL_law_1383 : decode cL_law 1383 = .ok (.iload 4, 2) := dq_21 4 (uat ck_cL_law_1351 32 rfl) (uat ck_cL_law_1351 33 rfl) rfl
theorem dL_law_1385 : decode cL_law 1385 = .ok (.iconst 2, 1) := dq_5  (uat ck_cL_law_1351 34 rfl)
theorem dL_law_1386 : decode cL_law 1386 = .ok (.iadd, 1) := dq_96  (uat ck_cL_law_1351 35 rfl)
theorem dL_law_1387 : decode cL_law 1387 = .ok (.iaload, 1) := dq_46  (uat ck_cL_law_1351 36 rfl)
theorem dL_law_1388 : decode cL_law 1388 = .ok (.aload_n 3, 1) := dq_45  (uat ck_cL_law_1351 37 rfl)
theorem dL_law_1389 : decode cL_law 1389 = .ok (.invokestatic 253, 3) := dq_184 0 253 (uat ck_cL_law_1351 38 rfl) (uat ck_cL_law_1351 39 rfl) (uat ck_cL_law_1351 40 rfl) rfl
theorem dL_law_1392 : decode cL_law 1392 = .ok (.istore 5, 2) := dq_54 5 (uat ck_cL_law_1351 41 rfl) (uat ck_cL_law_1351 42 rfl) rfl
theorem dL_law_1394 : decode cL_law 1394 = .ok (.aload_n 2, 1) := dq_44  (uat ck_cL_law_1351 43 rfl)
theorem dL_law_1395 : decode cL_law 1395 = .ok (.aload_n 0, 1) := dq_42  (uat ck_cL_law_1351 44 rfl)
theorem dL_law_1396 : decode cL_law 1396 = .ok (.iload 4, 2) := dq_21 4 (uat ck_cL_law_1351 45 rfl) (uat ck_cL_law_1351 46 rfl) rfl
theorem dL_law_1398 : decode cL_law 1398 = .ok (.iconst 1, 1) := dq_4  (uat ck_cL_law_1351 47 rfl)
theorem dL_law_1399 : decode cL_law 1399 = .ok (.iadd, 1) := dq_96  (uat ck_cL_law_1351 48 rfl)
theorem dL_law_1400 : decode cL_law 1400 = .ok (.iaload, 1) := dq_46  (uat ck_cL_law_1351 49 rfl)
theorem dL_law_1401 : decode cL_law 1401 = .ok (.aload_n 0, 1) := dq_42  (uat ck_cL_law_1351 50 rfl)
theorem dL_law_1402 : decode cL_law 1402 = .ok (.iload 4, 2) := dq_21 4 (uat ck_cL_law_1351 51 rfl) (uat ck_cL_law_1351 52 rfl) rfl
theorem dL_law_1404 : decode cL_law 1404 = .ok (.iconst 2, 1) := dq_5  (uat ck_cL_law_1351 53 rfl)
theorem dL_law_1405 : decode cL_law 1405 = .ok (.iadd, 1) := dq_96  (uat ck_cL_law_1351 54 rfl)
theorem dL_law_1406 : decode cL_law 1406 = .ok (.iaload, 1) := dq_46  (uat ck_cL_law_1351 55 rfl)
theorem ck_cL_law_1407 : (cL_law.data.toList.drop 1407).take 59 = [182, 0, 255, 54, 6, 167, 2, 191, 43, 42, 21, 4, 4, 96, 46, 42, 21, 4, 5, 96, 46, 45, 184, 1, 0, 54, 5, 44, 42, 21, 4, 4, 96, 46, 42, 21, 4, 5, 96, 46, 182, 1, 2, 54, 6, 167, 2, 151, 43, 42, 21, 4, 4, 96, 46, 42, 21, 4, 5] := by decide +kernel
theorem dL_law_1407 : decode cL_law 1407 = .ok (.invokevirtual 255, 3) := dq_182 0 255 (uat ck_cL_law_1407 0 rfl) (uat ck_cL_law_1407 1 rfl) (uat ck_cL_law_1407 2 rfl) rfl
theorem dL_law_1410 : decode cL_law 1410 = .ok (.istore 6, 2) := dq_54 6 (uat ck_cL_law_1407 3 rfl) (uat ck_cL_law_1407 4 rfl) rfl
theorem dL_law_1412 : decode cL_law 1412 = .ok (.goto 703, 3) := dq_167 2 191 (uat ck_cL_law_1407 5 rfl) (uat ck_cL_law_1407 6 rfl) (uat ck_cL_law_1407 7 rfl) (by decide)
theorem dL_law_1415 : decode cL_law 1415 = .ok (.aload_n 1, 1) := dq_43  (uat ck_cL_law_1407 8 rfl)
theorem dL_law_1416 : decode cL_law 1416 = .ok (.aload_n 0, 1) := dq_42  (uat ck_cL_law_1407 9 rfl)
theorem dL_law_1417 : decode cL_law 1417 = .ok (.iload 4, 2) := dq_21 4 (uat ck_cL_law_1407 10 rfl) (uat ck_cL_law_1407 11 rfl) rfl
theorem dL_law_1419 : decode cL_law 1419 = .ok (.iconst 1, 1) := dq_4  (uat ck_cL_law_1407 12 rfl)
theorem dL_law_1420 : decode cL_law 1420 = .ok (.iadd, 1) := dq_96  (uat ck_cL_law_1407 13 rfl)
theorem dL_law_1421 : decode cL_law 1421 = .ok (.iaload, 1) := dq_46  (uat ck_cL_law_1407 14 rfl)
theorem dL_law_1422 : decode cL_law 1422 = .ok (.aload_n 0, 1) := dq_42  (uat ck_cL_law_1407 15 rfl)
theorem dL_law_1423 : decode cL_law 1423 = .ok (.iload 4, 2) := dq_21 4 (uat ck_cL_law_1407 16 rfl) (uat ck_cL_law_1407 17 rfl) rfl
theorem dL_law_1425 : decode cL_law 1425 = .ok (.iconst 2, 1) := dq_5  (uat ck_cL_law_1407 18 rfl)
theorem dL_law_1426 : decode cL_law 1426 = .ok (.iadd, 1) := dq_96  (uat ck_cL_law_1407 19 rfl)
theorem dL_law_1427 : decode cL_law 1427 = .ok (.iaload, 1) := dq_46  (uat ck_cL_law_1407 20 rfl)
theorem dL_law_1428 : decode cL_law 1428 = .ok (.aload_n 3, 1) := dq_45  (uat ck_cL_law_1407 21 rfl)
theorem dL_law_1429 : decode cL_law 1429 = .ok (.invokestatic 256, 3) := dq_184 1 0 (uat ck_cL_law_1407 22 rfl) (uat ck_cL_law_1407 23 rfl) (uat ck_cL_law_1407 24 rfl) rfl
theorem dL_law_1432 : decode cL_law 1432 = .ok (.istore 5, 2) := dq_54 5 (uat ck_cL_law_1407 25 rfl) (uat ck_cL_law_1407 26 rfl) rfl
theorem dL_law_1434 : decode cL_law 1434 = .ok (.aload_n 2, 1) := dq_44  (uat ck_cL_law_1407 27 rfl)
theorem dL_law_1435 : decode cL_law 1435 = .ok (.aload_n 0, 1) := dq_42  (uat ck_cL_law_1407 28 rfl)
theorem dL_law_1436 : decode cL_law 1436 = .ok (.iload 4, 2) := dq_21 4 (uat ck_cL_law_1407 29 rfl) (uat ck_cL_law_1407 30 rfl) rfl
theorem dL_law_1438 : decode cL_law 1438 = .ok (.iconst 1, 1) := dq_4  (uat ck_cL_law_1407 31 rfl)
theorem dL_law_1439 : decode cL_law 1439 = .ok (.iadd, 1) := dq_96  (uat ck_cL_law_1407 32 rfl)
theorem dL_law_1440 : decode cL_law 1440 = .ok (.iaload, 1) := dq_46  (uat ck_cL_law_1407 33 rfl)
theorem dL_law_1441 : decode cL_law 1441 = .ok (.aload_n 0, 1) := dq_42  (uat ck_cL_law_1407 34 rfl)
theorem dL_law_1442 : decode cL_law 1442 = .ok (.iload 4, 2) := dq_21 4 (uat ck_cL_law_1407 35 rfl) (uat ck_cL_law_1407 36 rfl) rfl
theorem dL_law_1444 : decode cL_law 1444 = .ok (.iconst 2, 1) := dq_5  (uat ck_cL_law_1407 37 rfl)
theorem dL_law_1445 : decode cL_law 1445 = .ok (.iadd, 1) := dq_96  (uat ck_cL_law_1407 38 rfl)
theorem dL_law_1446 : decode cL_law 1446 = .ok (.iaload, 1) := dq_46  (uat ck_cL_law_1407 39 rfl)
theorem dL_law_1447 : decode cL_law 1447 = .ok (.invokevirtual 258, 3) := dq_182 1 2 (uat ck_cL_law_1407 40 rfl) (uat ck_cL_law_1407 41 rfl) (uat ck_cL_law_1407 42 rfl) rfl
theorem dL_law_1450 : decode cL_law 1450 = .ok (.istore 6, 2) := dq_54 6 (uat ck_cL_law_1407 43 rfl) (uat ck_cL_law_1407 44 rfl) rfl
theorem dL_law_1452 : decode cL_law 1452 = .ok (.goto 663, 3) := dq_167 2 151 (uat ck_cL_law_1407 45 rfl) (uat ck_cL_law_1407 46 rfl) (uat ck_cL_law_1407 47 rfl) (by decide)
theorem dL_law_1455 : decode cL_law 1455 = .ok (.aload_n 1, 1) := dq_43  (uat ck_cL_law_1407 48 rfl)
theorem dL_law_1456 : decode cL_law 1456 = .ok (.aload_n 0, 1) := dq_42  (uat ck_cL_law_1407 49 rfl)
theorem dL_law_1457 : decode cL_law 1457 = .ok (.iload 4, 2) := dq_21 4 (uat ck_cL_law_1407 50 rfl) (uat ck_cL_law_1407 51 rfl) rfl
theorem dL_law_1459 : decode cL_law 1459 = .ok (.iconst 1, 1) := dq_4  (uat ck_cL_law_1407 52 rfl)
theorem dL_law_1460 : decode cL_law 1460 = .ok (.iadd, 1) := dq_96  (uat ck_cL_law_1407 53 rfl)
theorem dL_law_1461 : decode cL_law 1461 = .ok (.iaload, 1) := dq_46  (uat ck_cL_law_1407 54 rfl)
theorem dL_law_1462 : decode cL_law 1462 = .ok (.aload_n 0, 1) := dq_42  (uat ck_cL_law_1407 55 rfl)
theorem dL_law_1463 : decode cL_law 1463 = .ok (.iload 4, 2) := dq_21 4 (uat ck_cL_law_1407 56 rfl) (uat ck_cL_law_1407 57 rfl) rfl
theorem dL_law_1465 : decode cL_law 1465 = .ok (.iconst 2, 1) := dq_5  (uat ck_cL_law_1407 58 rfl)
theorem ck_cL_law_1466 : (cL_law.data.toList.drop 1466).take 54 = [96, 46, 42, 21, 4, 6, 96, 46, 45, 184, 1, 3, 54, 5, 44, 42, 21, 4, 4, 96, 46, 42, 21, 4, 5, 96, 46, 42, 21, 4, 6, 96, 46, 182, 1, 5, 54, 6, 167, 2, 99, 43, 42, 21, 4, 4, 96, 46, 42, 21, 4, 5, 96, 46] := by decide +kernel
theorem dL_law_1466 : decode cL_law 1466 = .ok (.iadd, 1) := dq_96  (uat ck_cL_law_1466 0 rfl)
theorem dL_law_1467 : decode cL_law 1467 = .ok (.iaload, 1) := dq_46  (uat ck_cL_law_1466 1 rfl)
theorem dL_law_1468 : decode cL_law 1468 = .ok (.aload_n 0, 1) := dq_42  (uat ck_cL_law_1466 2 rfl)
theorem dL_law_1469 : decode cL_law 1469 = .ok (.iload 4, 2) := dq_21 4 (uat ck_cL_law_1466 3 rfl) (uat ck_cL_law_1466 4 rfl) rfl
theorem dL_law_1471 : decode cL_law 1471 = .ok (.iconst 3, 1) := dq_6  (uat ck_cL_law_1466 5 rfl)
theorem dL_law_1472 : decode cL_law 1472 = .ok (.iadd, 1) := dq_96  (uat ck_cL_law_1466 6 rfl)
theorem dL_law_1473 : decode cL_law 1473 = .ok (.iaload, 1) := dq_46  (uat ck_cL_law_1466 7 rfl)
theorem dL_law_1474 : decode cL_law 1474 = .ok (.aload_n 3, 1) := dq_45  (uat ck_cL_law_1466 8 rfl)
theorem dL_law_1475 : decode cL_law 1475 = .ok (.invokestatic 259, 3) := dq_184 1 3 (uat ck_cL_law_1466 9 rfl) (uat ck_cL_law_1466 10 rfl) (uat ck_cL_law_1466 11 rfl) rfl
theorem dL_law_1478 : decode cL_law 1478 = .ok (.istore 5, 2) := dq_54 5 (uat ck_cL_law_1466 12 rfl) (uat ck_cL_law_1466 13 rfl) rfl
theorem dL_law_1480 : decode cL_law 1480 = .ok (.aload_n 2, 1) := dq_44  (uat ck_cL_law_1466 14 rfl)
theorem dL_law_1481 : decode cL_law 1481 = .ok (.aload_n 0, 1) := dq_42  (uat ck_cL_law_1466 15 rfl)
theorem dL_law_1482 : decode cL_law 1482 = .ok (.iload 4, 2) := dq_21 4 (uat ck_cL_law_1466 16 rfl) (uat ck_cL_law_1466 17 rfl) rfl
theorem dL_law_1484 : decode cL_law 1484 = .ok (.iconst 1, 1) := dq_4  (uat ck_cL_law_1466 18 rfl)
theorem dL_law_1485 : decode cL_law 1485 = .ok (.iadd, 1) := dq_96  (uat ck_cL_law_1466 19 rfl)
theorem dL_law_1486 : decode cL_law 1486 = .ok (.iaload, 1) := dq_46  (uat ck_cL_law_1466 20 rfl)
theorem dL_law_1487 : decode cL_law 1487 = .ok (.aload_n 0, 1) := dq_42  (uat ck_cL_law_1466 21 rfl)
theorem dL_law_1488 : decode cL_law 1488 = .ok (.iload 4, 2) := dq_21 4 (uat ck_cL_law_1466 22 rfl) (uat ck_cL_law_1466 23 rfl) rfl
theorem dL_law_1490 : decode cL_law 1490 = .ok (.iconst 2, 1) := dq_5  (uat ck_cL_law_1466 24 rfl)
theorem dL_law_1491 : decode cL_law 1491 = .ok (.iadd, 1) := dq_96  (uat ck_cL_law_1466 25 rfl)
theorem dL_law_1492 : decode cL_law 1492 = .ok (.iaload, 1) := dq_46  (uat ck_cL_law_1466 26 rfl)
theorem dL_law_1493 : decode cL_law 1493 = .ok (.aload_n 0, 1) := dq_42  (uat ck_cL_law_1466 27 rfl)
theorem dL_law_1494 : decode cL_law 1494 = .ok (.iload 4, 2) := dq_21 4 (uat ck_cL_law_1466 28 rfl) (uat ck_cL_law_1466 29 rfl) rfl
theorem dL_law_1496 : decode cL_law 1496 = .ok (.iconst 3, 1) := dq_6  (uat ck_cL_law_1466 30 rfl)
theorem dL_law_1497 : decode cL_law 1497 = .ok (.iadd, 1) := dq_96  (uat ck_cL_law_1466 31 rfl)
theorem dL_law_1498 : decode cL_law 1498 = .ok (.iaload, 1) := dq_46  (uat ck_cL_law_1466 32 rfl)
theorem dL_law_1499 : decode cL_law 1499 = .ok (.invokevirtual 261, 3) := dq_182 1 5 (uat ck_cL_law_1466 33 rfl) (uat ck_cL_law_1466 34 rfl) (uat ck_cL_law_1466 35 rfl) rfl
theorem dL_law_1502 : decode cL_law 1502 = .ok (.istore 6, 2) := dq_54 6 (uat ck_cL_law_1466 36 rfl) (uat ck_cL_law_1466 37 rfl) rfl
theorem dL_law_1504 : decode cL_law 1504 = .ok (.goto 611, 3) := dq_167 2 99 (uat ck_cL_law_1466 38 rfl) (uat ck_cL_law_1466 39 rfl) (uat ck_cL_law_1466 40 rfl) (by decide)
theorem dL_law_1507 : decode cL_law 1507 = .ok (.aload_n 1, 1) := dq_43  (uat ck_cL_law_1466 41 rfl)
theorem dL_law_1508 : decode cL_law 1508 = .ok (.aload_n 0, 1) := dq_42  (uat ck_cL_law_1466 42 rfl)
theorem dL_law_1509 : decode cL_law 1509 = .ok (.iload 4, 2) := dq_21 4 (uat ck_cL_law_1466 43 rfl) (uat ck_cL_law_1466 44 rfl) rfl
theorem dL_law_1511 : decode cL_law 1511 = .ok (.iconst 1, 1) := dq_4  (uat ck_cL_law_1466 45 rfl)
theorem dL_law_1512 : decode cL_law 1512 = .ok (.iadd, 1) := dq_96  (uat ck_cL_law_1466 46 rfl)
theorem dL_law_1513 : decode cL_law 1513 = .ok (.iaload, 1) := dq_46  (uat ck_cL_law_1466 47 rfl)
theorem dL_law_1514 : decode cL_law 1514 = .ok (.aload_n 0, 1) := dq_42  (uat ck_cL_law_1466 48 rfl)
theorem dL_law_1515 : decode cL_law 1515 = .ok (.iload 4, 2) := dq_21 4 (uat ck_cL_law_1466 49 rfl) (uat ck_cL_law_1466 50 rfl) rfl
theorem dL_law_1517 : decode cL_law 1517 = .ok (.iconst 2, 1) := dq_5  (uat ck_cL_law_1466 51 rfl)
theorem dL_law_1518 : decode cL_law 1518 = .ok (.iadd, 1) := dq_96  (uat ck_cL_law_1466 52 rfl)
theorem dL_law_1519 : decode cL_law 1519 = .ok (.iaload, 1) := dq_46  (uat ck_cL_law_1466 53 rfl)
theorem ck_cL_law_1520 : (cL_law.data.toList.drop 1520).take 61 = [42, 21, 4, 6, 96, 46, 153, 0, 7, 4, 167, 0, 4, 3, 45, 184, 1, 6, 54, 5, 44, 42, 21, 4, 4, 96, 46, 42, 21, 4, 5, 96, 46, 42, 21, 4, 6, 96, 46, 153, 0, 7, 4, 167, 0, 4, 3, 182, 1, 8, 54, 6, 167, 2, 31, 43, 42, 21, 4, 4, 96] := by decide +kernel
theorem dL_law_1520 : decode cL_law 1520 = .ok (.aload_n 0, 1) := dq_42  (uat ck_cL_law_1520 0 rfl)
theorem dL_law_1521 : decode cL_law 1521 = .ok (.iload 4, 2) := dq_21 4 (uat ck_cL_law_1520 1 rfl) (uat ck_cL_law_1520 2 rfl) rfl
theorem dL_law_1523 : decode cL_law 1523 = .ok (.iconst 3, 1) := dq_6  (uat ck_cL_law_1520 3 rfl)
theorem dL_law_1524 : decode cL_law 1524 = .ok (.iadd, 1) := dq_96  (uat ck_cL_law_1520 4 rfl)
theorem dL_law_1525 : decode cL_law 1525 = .ok (.iaload, 1) := dq_46  (uat ck_cL_law_1520 5 rfl)
theorem dL_law_1526 : decode cL_law 1526 = .ok (.ifCond .eq 7, 3) := dq_153 0 7 (uat ck_cL_law_1520 6 rfl) (uat ck_cL_law_1520 7 rfl) (uat ck_cL_law_1520 8 rfl) (by decide)
theorem dL_law_1529 : decode cL_law 1529 = .ok (.iconst 1, 1) := dq_4  (uat ck_cL_law_1520 9 rfl)
theorem dL_law_1530 : decode cL_law 1530 = .ok (.goto 4, 3) := dq_167 0 4 (uat ck_cL_law_1520 10 rfl) (uat ck_cL_law_1520 11 rfl) (uat ck_cL_law_1520 12 rfl) (by decide)
theorem dL_law_1533 : decode cL_law 1533 = .ok (.iconst 0, 1) := dq_3  (uat ck_cL_law_1520 13 rfl)
theorem dL_law_1534 : decode cL_law 1534 = .ok (.aload_n 3, 1) := dq_45  (uat ck_cL_law_1520 14 rfl)
theorem dL_law_1535 : decode cL_law 1535 = .ok (.invokestatic 262, 3) := dq_184 1 6 (uat ck_cL_law_1520 15 rfl) (uat ck_cL_law_1520 16 rfl) (uat ck_cL_law_1520 17 rfl) rfl
theorem dL_law_1538 : decode cL_law 1538 = .ok (.istore 5, 2) := dq_54 5 (uat ck_cL_law_1520 18 rfl) (uat ck_cL_law_1520 19 rfl) rfl
theorem dL_law_1540 : decode cL_law 1540 = .ok (.aload_n 2, 1) := dq_44  (uat ck_cL_law_1520 20 rfl)
theorem dL_law_1541 : decode cL_law 1541 = .ok (.aload_n 0, 1) := dq_42  (uat ck_cL_law_1520 21 rfl)
theorem dL_law_1542 : decode cL_law 1542 = .ok (.iload 4, 2) := dq_21 4 (uat ck_cL_law_1520 22 rfl) (uat ck_cL_law_1520 23 rfl) rfl
theorem dL_law_1544 : decode cL_law 1544 = .ok (.iconst 1, 1) := dq_4  (uat ck_cL_law_1520 24 rfl)
theorem dL_law_1545 : decode cL_law 1545 = .ok (.iadd, 1) := dq_96  (uat ck_cL_law_1520 25 rfl)
theorem dL_law_1546 : decode cL_law 1546 = .ok (.iaload, 1) := dq_46  (uat ck_cL_law_1520 26 rfl)
theorem dL_law_1547 : decode cL_law 1547 = .ok (.aload_n 0, 1) := dq_42  (uat ck_cL_law_1520 27 rfl)
theorem dL_law_1548 : decode cL_law 1548 = .ok (.iload 4, 2) := dq_21 4 (uat ck_cL_law_1520 28 rfl) (uat ck_cL_law_1520 29 rfl) rfl
theorem dL_law_1550 : decode cL_law 1550 = .ok (.iconst 2, 1) := dq_5  (uat ck_cL_law_1520 30 rfl)
theorem dL_law_1551 : decode cL_law 1551 = .ok (.iadd, 1) := dq_96  (uat ck_cL_law_1520 31 rfl)
theorem dL_law_1552 : decode cL_law 1552 = .ok (.iaload, 1) := dq_46  (uat ck_cL_law_1520 32 rfl)
theorem dL_law_1553 : decode cL_law 1553 = .ok (.aload_n 0, 1) := dq_42  (uat ck_cL_law_1520 33 rfl)
theorem dL_law_1554 : decode cL_law 1554 = .ok (.iload 4, 2) := dq_21 4 (uat ck_cL_law_1520 34 rfl) (uat ck_cL_law_1520 35 rfl) rfl
theorem dL_law_1556 : decode cL_law 1556 = .ok (.iconst 3, 1) := dq_6  (uat ck_cL_law_1520 36 rfl)
theorem dL_law_1557 : decode cL_law 1557 = .ok (.iadd, 1) := dq_96  (uat ck_cL_law_1520 37 rfl)
theorem dL_law_1558 : decode cL_law 1558 = .ok (.iaload, 1) := dq_46  (uat ck_cL_law_1520 38 rfl)
theorem dL_law_1559 : decode cL_law 1559 = .ok (.ifCond .eq 7, 3) := dq_153 0 7 (uat ck_cL_law_1520 39 rfl) (uat ck_cL_law_1520 40 rfl) (uat ck_cL_law_1520 41 rfl) (by decide)
theorem dL_law_1562 : decode cL_law 1562 = .ok (.iconst 1, 1) := dq_4  (uat ck_cL_law_1520 42 rfl)
theorem dL_law_1563 : decode cL_law 1563 = .ok (.goto 4, 3) := dq_167 0 4 (uat ck_cL_law_1520 43 rfl) (uat ck_cL_law_1520 44 rfl) (uat ck_cL_law_1520 45 rfl) (by decide)
theorem dL_law_1566 : decode cL_law 1566 = .ok (.iconst 0, 1) := dq_3  (uat ck_cL_law_1520 46 rfl)
theorem dL_law_1567 : decode cL_law 1567 = .ok (.invokevirtual 264, 3) := dq_182 1 8 (uat ck_cL_law_1520 47 rfl) (uat ck_cL_law_1520 48 rfl) (uat ck_cL_law_1520 49 rfl) rfl
theorem dL_law_1570 : decode cL_law 1570 = .ok (.istore 6, 2) := dq_54 6 (uat ck_cL_law_1520 50 rfl) (uat ck_cL_law_1520 51 rfl) rfl
theorem dL_law_1572 : decode cL_law 1572 = .ok (.goto 543, 3) := dq_167 2 31 (uat ck_cL_law_1520 52 rfl) (uat ck_cL_law_1520 53 rfl) (uat ck_cL_law_1520 54 rfl) (by decide)
theorem dL_law_1575 : decode cL_law 1575 = .ok (.aload_n 1, 1) := dq_43  (uat ck_cL_law_1520 55 rfl)
theorem dL_law_1576 : decode cL_law 1576 = .ok (.aload_n 0, 1) := dq_42  (uat ck_cL_law_1520 56 rfl)
theorem dL_law_1577 : decode cL_law 1577 = .ok (.iload 4, 2) := dq_21 4 (uat ck_cL_law_1520 57 rfl) (uat ck_cL_law_1520 58 rfl) rfl
theorem dL_law_1579 : decode cL_law 1579 = .ok (.iconst 1, 1) := dq_4  (uat ck_cL_law_1520 59 rfl)
theorem dL_law_1580 : decode cL_law 1580 = .ok (.iadd, 1) := dq_96  (uat ck_cL_law_1520 60 rfl)
theorem ck_cL_law_1581 : (cL_law.data.toList.drop 1581).take 53 = [46, 42, 21, 4, 5, 96, 46, 42, 21, 4, 6, 96, 46, 42, 21, 4, 7, 96, 46, 153, 0, 7, 4, 167, 0, 4, 3, 45, 184, 1, 9, 54, 5, 44, 42, 21, 4, 4, 96, 46, 42, 21, 4, 5, 96, 46, 42, 21, 4, 6, 96, 46, 42] := by decide +kernel
theorem dL_law_1581 : decode cL_law 1581 = .ok (.iaload, 1) := dq_46  (uat ck_cL_law_1581 0 rfl)
theorem dL_law_1582 : decode cL_law 1582 = .ok (.aload_n 0, 1) := dq_42  (uat ck_cL_law_1581 1 rfl)
theorem dL_law_1583 : decode cL_law 1583 = .ok (.iload 4, 2) := dq_21 4 (uat ck_cL_law_1581 2 rfl) (uat ck_cL_law_1581 3 rfl) rfl
theorem dL_law_1585 : decode cL_law 1585 = .ok (.iconst 2, 1) := dq_5  (uat ck_cL_law_1581 4 rfl)
theorem dL_law_1586 : decode cL_law 1586 = .ok (.iadd, 1) := dq_96  (uat ck_cL_law_1581 5 rfl)
theorem dL_law_1587 : decode cL_law 1587 = .ok (.iaload, 1) := dq_46  (uat ck_cL_law_1581 6 rfl)
theorem dL_law_1588 : decode cL_law 1588 = .ok (.aload_n 0, 1) := dq_42  (uat ck_cL_law_1581 7 rfl)
theorem dL_law_1589 : decode cL_law 1589 = .ok (.iload 4, 2) := dq_21 4 (uat ck_cL_law_1581 8 rfl) (uat ck_cL_law_1581 9 rfl) rfl
theorem dL_law_1591 : decode cL_law 1591 = .ok (.iconst 3, 1) := dq_6  (uat ck_cL_law_1581 10 rfl)
theorem dL_law_1592 : decode cL_law 1592 = .ok (.iadd, 1) := dq_96  (uat ck_cL_law_1581 11 rfl)
theorem dL_law_1593 : decode cL_law 1593 = .ok (.iaload, 1) := dq_46  (uat ck_cL_law_1581 12 rfl)
theorem dL_law_1594 : decode cL_law 1594 = .ok (.aload_n 0, 1) := dq_42  (uat ck_cL_law_1581 13 rfl)
theorem dL_law_1595 : decode cL_law 1595 = .ok (.iload 4, 2) := dq_21 4 (uat ck_cL_law_1581 14 rfl) (uat ck_cL_law_1581 15 rfl) rfl
theorem dL_law_1597 : decode cL_law 1597 = .ok (.iconst 4, 1) := dq_7  (uat ck_cL_law_1581 16 rfl)
theorem dL_law_1598 : decode cL_law 1598 = .ok (.iadd, 1) := dq_96  (uat ck_cL_law_1581 17 rfl)
theorem dL_law_1599 : decode cL_law 1599 = .ok (.iaload, 1) := dq_46  (uat ck_cL_law_1581 18 rfl)
theorem dL_law_1600 : decode cL_law 1600 = .ok (.ifCond .eq 7, 3) := dq_153 0 7 (uat ck_cL_law_1581 19 rfl) (uat ck_cL_law_1581 20 rfl) (uat ck_cL_law_1581 21 rfl) (by decide)
theorem dL_law_1603 : decode cL_law 1603 = .ok (.iconst 1, 1) := dq_4  (uat ck_cL_law_1581 22 rfl)
theorem dL_law_1604 : decode cL_law 1604 = .ok (.goto 4, 3) := dq_167 0 4 (uat ck_cL_law_1581 23 rfl) (uat ck_cL_law_1581 24 rfl) (uat ck_cL_law_1581 25 rfl) (by decide)
theorem dL_law_1607 : decode cL_law 1607 = .ok (.iconst 0, 1) := dq_3  (uat ck_cL_law_1581 26 rfl)
theorem dL_law_1608 : decode cL_law 1608 = .ok (.aload_n 3, 1) := dq_45  (uat ck_cL_law_1581 27 rfl)
theorem dL_law_1609 : decode cL_law 1609 = .ok (.invokestatic 265, 3) := dq_184 1 9 (uat ck_cL_law_1581 28 rfl) (uat ck_cL_law_1581 29 rfl) (uat ck_cL_law_1581 30 rfl) rfl
theorem dL_law_1612 : decode cL_law 1612 = .ok (.istore 5, 2) := dq_54 5 (uat ck_cL_law_1581 31 rfl) (uat ck_cL_law_1581 32 rfl) rfl
theorem dL_law_1614 : decode cL_law 1614 = .ok (.aload_n 2, 1) := dq_44  (uat ck_cL_law_1581 33 rfl)
theorem dL_law_1615 : decode cL_law 1615 = .ok (.aload_n 0, 1) := dq_42  (uat ck_cL_law_1581 34 rfl)
theorem dL_law_1616 : decode cL_law 1616 = .ok (.iload 4, 2) := dq_21 4 (uat ck_cL_law_1581 35 rfl) (uat ck_cL_law_1581 36 rfl) rfl
theorem dL_law_1618 : decode cL_law 1618 = .ok (.iconst 1, 1) := dq_4  (uat ck_cL_law_1581 37 rfl)
theorem dL_law_1619 : decode cL_law 1619 = .ok (.iadd, 1) := dq_96  (uat ck_cL_law_1581 38 rfl)
theorem dL_law_1620 : decode cL_law 1620 = .ok (.iaload, 1) := dq_46  (uat ck_cL_law_1581 39 rfl)
theorem dL_law_1621 : decode cL_law 1621 = .ok (.aload_n 0, 1) := dq_42  (uat ck_cL_law_1581 40 rfl)
theorem dL_law_1622 : decode cL_law 1622 = .ok (.iload 4, 2) := dq_21 4 (uat ck_cL_law_1581 41 rfl) (uat ck_cL_law_1581 42 rfl) rfl
theorem dL_law_1624 : decode cL_law 1624 = .ok (.iconst 2, 1) := dq_5  (uat ck_cL_law_1581 43 rfl)
theorem dL_law_1625 : decode cL_law 1625 = .ok (.iadd, 1) := dq_96  (uat ck_cL_law_1581 44 rfl)
theorem dL_law_1626 : decode cL_law 1626 = .ok (.iaload, 1) := dq_46  (uat ck_cL_law_1581 45 rfl)
theorem dL_law_1627 : decode cL_law 1627 = .ok (.aload_n 0, 1) := dq_42  (uat ck_cL_law_1581 46 rfl)
theorem dL_law_1628 : decode cL_law 1628 = .ok (.iload 4, 2) := dq_21 4 (uat ck_cL_law_1581 47 rfl) (uat ck_cL_law_1581 48 rfl) rfl
theorem dL_law_1630 : decode cL_law 1630 = .ok (.iconst 3, 1) := dq_6  (uat ck_cL_law_1581 49 rfl)
theorem dL_law_1631 : decode cL_law 1631 = .ok (.iadd, 1) := dq_96  (uat ck_cL_law_1581 50 rfl)
theorem dL_law_1632 : decode cL_law 1632 = .ok (.iaload, 1) := dq_46  (uat ck_cL_law_1581 51 rfl)
theorem dL_law_1633 : decode cL_law 1633 = .ok (.aload_n 0, 1) := dq_42  (uat ck_cL_law_1581 52 rfl)
theorem ck_cL_law_1634 : (cL_law.data.toList.drop 1634).take 62 = [21, 4, 7, 96, 46, 153, 0, 7, 4, 167, 0, 4, 3, 182, 1, 12, 54, 6, 167, 1, 207, 43, 42, 21, 4, 4, 96, 46, 42, 21, 4, 5, 96, 46, 45, 184, 1, 13, 54, 5, 44, 42, 21, 4, 4, 96, 46, 42, 21, 4, 5, 96, 46, 182, 1, 15, 54, 6, 167, 1, 167, 43] := by decide +kernel
theorem dL_law_1634 : decode cL_law 1634 = .ok (.iload 4, 2) := dq_21 4 (uat ck_cL_law_1634 0 rfl) (uat ck_cL_law_1634 1 rfl) rfl
theorem dL_law_1636 : decode cL_law 1636 = .ok (.iconst 4, 1) := dq_7  (uat ck_cL_law_1634 2 rfl)
theorem dL_law_1637 : decode cL_law 1637 = .ok (.iadd, 1) := dq_96  (uat ck_cL_law_1634 3 rfl)
theorem dL_law_1638 : decode cL_law 1638 = .ok (.iaload, 1) := dq_46  (uat ck_cL_law_1634 4 rfl)
theorem dL_law_1639 : decode cL_law 1639 = .ok (.ifCond .eq 7, 3) := dq_153 0 7 (uat ck_cL_law_1634 5 rfl) (uat ck_cL_law_1634 6 rfl) (uat ck_cL_law_1634 7 rfl) (by decide)
theorem dL_law_1642 : decode cL_law 1642 = .ok (.iconst 1, 1) := dq_4  (uat ck_cL_law_1634 8 rfl)
theorem dL_law_1643 : decode cL_law 1643 = .ok (.goto 4, 3) := dq_167 0 4 (uat ck_cL_law_1634 9 rfl) (uat ck_cL_law_1634 10 rfl) (uat ck_cL_law_1634 11 rfl) (by decide)
theorem dL_law_1646 : decode cL_law 1646 = .ok (.iconst 0, 1) := dq_3  (uat ck_cL_law_1634 12 rfl)
theorem dL_law_1647 : decode cL_law 1647 = .ok (.invokevirtual 268, 3) := dq_182 1 12 (uat ck_cL_law_1634 13 rfl) (uat ck_cL_law_1634 14 rfl) (uat ck_cL_law_1634 15 rfl) rfl
theorem dL_law_1650 : decode cL_law 1650 = .ok (.istore 6, 2) := dq_54 6 (uat ck_cL_law_1634 16 rfl) (uat ck_cL_law_1634 17 rfl) rfl
theorem dL_law_1652 : decode cL_law 1652 = .ok (.goto 463, 3) := dq_167 1 207 (uat ck_cL_law_1634 18 rfl) (uat ck_cL_law_1634 19 rfl) (uat ck_cL_law_1634 20 rfl) (by decide)
theorem dL_law_1655 : decode cL_law 1655 = .ok (.aload_n 1, 1) := dq_43  (uat ck_cL_law_1634 21 rfl)
theorem dL_law_1656 : decode cL_law 1656 = .ok (.aload_n 0, 1) := dq_42  (uat ck_cL_law_1634 22 rfl)
theorem dL_law_1657 : decode cL_law 1657 = .ok (.iload 4, 2) := dq_21 4 (uat ck_cL_law_1634 23 rfl) (uat ck_cL_law_1634 24 rfl) rfl
theorem dL_law_1659 : decode cL_law 1659 = .ok (.iconst 1, 1) := dq_4  (uat ck_cL_law_1634 25 rfl)
theorem dL_law_1660 : decode cL_law 1660 = .ok (.iadd, 1) := dq_96  (uat ck_cL_law_1634 26 rfl)
theorem dL_law_1661 : decode cL_law 1661 = .ok (.iaload, 1) := dq_46  (uat ck_cL_law_1634 27 rfl)
theorem dL_law_1662 : decode cL_law 1662 = .ok (.aload_n 0, 1) := dq_42  (uat ck_cL_law_1634 28 rfl)
theorem dL_law_1663 : decode cL_law 1663 = .ok (.iload 4, 2) := dq_21 4 (uat ck_cL_law_1634 29 rfl) (uat ck_cL_law_1634 30 rfl) rfl
theorem dL_law_1665 : decode cL_law 1665 = .ok (.iconst 2, 1) := dq_5  (uat ck_cL_law_1634 31 rfl)
theorem dL_law_1666 : decode cL_law 1666 = .ok (.iadd, 1) := dq_96  (uat ck_cL_law_1634 32 rfl)
theorem dL_law_1667 : decode cL_law 1667 = .ok (.iaload, 1) := dq_46  (uat ck_cL_law_1634 33 rfl)
theorem dL_law_1668 : decode cL_law 1668 = .ok (.aload_n 3, 1) := dq_45  (uat ck_cL_law_1634 34 rfl)
theorem dL_law_1669 : decode cL_law 1669 = .ok (.invokestatic 269, 3) := dq_184 1 13 (uat ck_cL_law_1634 35 rfl) (uat ck_cL_law_1634 36 rfl) (uat ck_cL_law_1634 37 rfl) rfl
theorem dL_law_1672 : decode cL_law 1672 = .ok (.istore 5, 2) := dq_54 5 (uat ck_cL_law_1634 38 rfl) (uat ck_cL_law_1634 39 rfl) rfl
theorem dL_law_1674 : decode cL_law 1674 = .ok (.aload_n 2, 1) := dq_44  (uat ck_cL_law_1634 40 rfl)
theorem dL_law_1675 : decode cL_law 1675 = .ok (.aload_n 0, 1) := dq_42  (uat ck_cL_law_1634 41 rfl)
theorem dL_law_1676 : decode cL_law 1676 = .ok (.iload 4, 2) := dq_21 4 (uat ck_cL_law_1634 42 rfl) (uat ck_cL_law_1634 43 rfl) rfl
theorem dL_law_1678 : decode cL_law 1678 = .ok (.iconst 1, 1) := dq_4  (uat ck_cL_law_1634 44 rfl)
theorem dL_law_1679 : decode cL_law 1679 = .ok (.iadd, 1) := dq_96  (uat ck_cL_law_1634 45 rfl)
theorem dL_law_1680 : decode cL_law 1680 = .ok (.iaload, 1) := dq_46  (uat ck_cL_law_1634 46 rfl)
theorem dL_law_1681 : decode cL_law 1681 = .ok (.aload_n 0, 1) := dq_42  (uat ck_cL_law_1634 47 rfl)
theorem dL_law_1682 : decode cL_law 1682 = .ok (.iload 4, 2) := dq_21 4 (uat ck_cL_law_1634 48 rfl) (uat ck_cL_law_1634 49 rfl) rfl
theorem dL_law_1684 : decode cL_law 1684 = .ok (.iconst 2, 1) := dq_5  (uat ck_cL_law_1634 50 rfl)
theorem dL_law_1685 : decode cL_law 1685 = .ok (.iadd, 1) := dq_96  (uat ck_cL_law_1634 51 rfl)
theorem dL_law_1686 : decode cL_law 1686 = .ok (.iaload, 1) := dq_46  (uat ck_cL_law_1634 52 rfl)
theorem dL_law_1687 : decode cL_law 1687 = .ok (.invokevirtual 271, 3) := dq_182 1 15 (uat ck_cL_law_1634 53 rfl) (uat ck_cL_law_1634 54 rfl) (uat ck_cL_law_1634 55 rfl) rfl
theorem dL_law_1690 : decode cL_law 1690 = .ok (.istore 6, 2) := dq_54 6 (uat ck_cL_law_1634 56 rfl) (uat ck_cL_law_1634 57 rfl) rfl
theorem dL_law_1692 : decode cL_law 1692 = .ok (.goto 423, 3) := dq_167 1 167 (uat ck_cL_law_1634 58 rfl) (uat ck_cL_law_1634 59 rfl) (uat ck_cL_law_1634 60 rfl) (by decide)
theorem dL_law_1695 : decode cL_law 1695 = .ok (.aload_n 1, 1) := dq_43  (uat ck_cL_law_1634 61 rfl)
theorem ck_cL_law_1696 : (cL_law.data.toList.drop 1696).take 56 = [42, 21, 4, 4, 96, 46, 42, 21, 4, 5, 96, 46, 45, 184, 1, 16, 54, 5, 44, 42, 21, 4, 4, 96, 46, 42, 21, 4, 5, 96, 46, 182, 1, 18, 54, 6, 167, 1, 127, 43, 42, 21, 4, 4, 96, 46, 42, 21, 4, 5, 96, 46, 45, 184, 1, 19] := by decide +kernel
theorem dL_law_1696 : decode cL_law 1696 = .ok (.aload_n 0, 1) := dq_42  (uat ck_cL_law_1696 0 rfl)
theorem dL_law_1697 : decode cL_law 1697 = .ok (.iload 4, 2) := dq_21 4 (uat ck_cL_law_1696 1 rfl) (uat ck_cL_law_1696 2 rfl) rfl
theorem dL_law_1699 : decode cL_law 1699 = .ok (.iconst 1, 1) := dq_4  (uat ck_cL_law_1696 3 rfl)
theorem dL_law_1700 : decode cL_law 1700 = .ok (.iadd, 1) := dq_96  (uat ck_cL_law_1696 4 rfl)
theorem dL_law_1701 : decode cL_law 1701 = .ok (.iaload, 1) := dq_46  (uat ck_cL_law_1696 5 rfl)
theorem dL_law_1702 : decode cL_law 1702 = .ok (.aload_n 0, 1) := dq_42  (uat ck_cL_law_1696 6 rfl)
theorem dL_law_1703 : decode cL_law 1703 = .ok (.iload 4, 2) := dq_21 4 (uat ck_cL_law_1696 7 rfl) (uat ck_cL_law_1696 8 rfl) rfl
theorem dL_law_1705 : decode cL_law 1705 = .ok (.iconst 2, 1) := dq_5  (uat ck_cL_law_1696 9 rfl)
theorem dL_law_1706 : decode cL_law 1706 = .ok (.iadd, 1) := dq_96  (uat ck_cL_law_1696 10 rfl)
theorem dL_law_1707 : decode cL_law 1707 = .ok (.iaload, 1) := dq_46  (uat ck_cL_law_1696 11 rfl)
theorem dL_law_1708 : decode cL_law 1708 = .ok (.aload_n 3, 1) := dq_45  (uat ck_cL_law_1696 12 rfl)
theorem dL_law_1709 : decode cL_law 1709 = .ok (.invokestatic 272, 3) := dq_184 1 16 (uat ck_cL_law_1696 13 rfl) (uat ck_cL_law_1696 14 rfl) (uat ck_cL_law_1696 15 rfl) rfl
theorem dL_law_1712 : decode cL_law 1712 = .ok (.istore 5, 2) := dq_54 5 (uat ck_cL_law_1696 16 rfl) (uat ck_cL_law_1696 17 rfl) rfl
theorem dL_law_1714 : decode cL_law 1714 = .ok (.aload_n 2, 1) := dq_44  (uat ck_cL_law_1696 18 rfl)
theorem dL_law_1715 : decode cL_law 1715 = .ok (.aload_n 0, 1) := dq_42  (uat ck_cL_law_1696 19 rfl)
theorem dL_law_1716 : decode cL_law 1716 = .ok (.iload 4, 2) := dq_21 4 (uat ck_cL_law_1696 20 rfl) (uat ck_cL_law_1696 21 rfl) rfl
theorem dL_law_1718 : decode cL_law 1718 = .ok (.iconst 1, 1) := dq_4  (uat ck_cL_law_1696 22 rfl)
theorem dL_law_1719 : decode cL_law 1719 = .ok (.iadd, 1) := dq_96  (uat ck_cL_law_1696 23 rfl)
theorem dL_law_1720 : decode cL_law 1720 = .ok (.iaload, 1) := dq_46  (uat ck_cL_law_1696 24 rfl)
theorem dL_law_1721 : decode cL_law 1721 = .ok (.aload_n 0, 1) := dq_42  (uat ck_cL_law_1696 25 rfl)
theorem dL_law_1722 : decode cL_law 1722 = .ok (.iload 4, 2) := dq_21 4 (uat ck_cL_law_1696 26 rfl) (uat ck_cL_law_1696 27 rfl) rfl
theorem dL_law_1724 : decode cL_law 1724 = .ok (.iconst 2, 1) := dq_5  (uat ck_cL_law_1696 28 rfl)
theorem dL_law_1725 : decode cL_law 1725 = .ok (.iadd, 1) := dq_96  (uat ck_cL_law_1696 29 rfl)
theorem dL_law_1726 : decode cL_law 1726 = .ok (.iaload, 1) := dq_46  (uat ck_cL_law_1696 30 rfl)
theorem dL_law_1727 : decode cL_law 1727 = .ok (.invokevirtual 274, 3) := dq_182 1 18 (uat ck_cL_law_1696 31 rfl) (uat ck_cL_law_1696 32 rfl) (uat ck_cL_law_1696 33 rfl) rfl
theorem dL_law_1730 : decode cL_law 1730 = .ok (.istore 6, 2) := dq_54 6 (uat ck_cL_law_1696 34 rfl) (uat ck_cL_law_1696 35 rfl) rfl
theorem dL_law_1732 : decode cL_law 1732 = .ok (.goto 383, 3) := dq_167 1 127 (uat ck_cL_law_1696 36 rfl) (uat ck_cL_law_1696 37 rfl) (uat ck_cL_law_1696 38 rfl) (by decide)
theorem dL_law_1735 : decode cL_law 1735 = .ok (.aload_n 1, 1) := dq_43  (uat ck_cL_law_1696 39 rfl)
theorem dL_law_1736 : decode cL_law 1736 = .ok (.aload_n 0, 1) := dq_42  (uat ck_cL_law_1696 40 rfl)
theorem dL_law_1737 : decode cL_law 1737 = .ok (.iload 4, 2) := dq_21 4 (uat ck_cL_law_1696 41 rfl) (uat ck_cL_law_1696 42 rfl) rfl
theorem dL_law_1739 : decode cL_law 1739 = .ok (.iconst 1, 1) := dq_4  (uat ck_cL_law_1696 43 rfl)
theorem dL_law_1740 : decode cL_law 1740 = .ok (.iadd, 1) := dq_96  (uat ck_cL_law_1696 44 rfl)
theorem dL_law_1741 : decode cL_law 1741 = .ok (.iaload, 1) := dq_46  (uat ck_cL_law_1696 45 rfl)
theorem dL_law_1742 : decode cL_law 1742 = .ok (.aload_n 0, 1) := dq_42  (uat ck_cL_law_1696 46 rfl)
theorem dL_law_1743 : decode cL_law 1743 = .ok (.iload 4, 2) := dq_21 4 (uat ck_cL_law_1696 47 rfl) (uat ck_cL_law_1696 48 rfl) rfl
theorem dL_law_1745 : decode cL_law 1745 = .ok (.iconst 2, 1) := dq_5  (uat ck_cL_law_1696 49 rfl)
theorem dL_law_1746 : decode cL_law 1746 = .ok (.iadd, 1) := dq_96  (uat ck_cL_law_1696 50 rfl)
theorem dL_law_1747 : decode cL_law 1747 = .ok (.iaload, 1) := dq_46  (uat ck_cL_law_1696 51 rfl)
theorem dL_law_1748 : decode cL_law 1748 = .ok (.aload_n 3, 1) := dq_45  (uat ck_cL_law_1696 52 rfl)
theorem dL_law_1749 : decode cL_law 1749 = .ok (.invokestatic 275, 3) := dq_184 1 19 (uat ck_cL_law_1696 53 rfl) (uat ck_cL_law_1696 54 rfl) (uat ck_cL_law_1696 55 rfl) rfl
theorem ck_cL_law_1752 : (cL_law.data.toList.drop 1752).take 58 = [54, 5, 44, 42, 21, 4, 4, 96, 46, 42, 21, 4, 5, 96, 46, 182, 1, 21, 54, 6, 167, 1, 87, 43, 42, 21, 4, 4, 96, 46, 42, 21, 4, 5, 96, 46, 42, 21, 4, 6, 96, 46, 153, 0, 7, 4, 167, 0, 4, 3, 45, 184, 1, 22, 54, 5, 44, 42] := by decide +kernel
theorem dL_law_1752 : decode cL_law 1752 = .ok (.istore 5, 2) := dq_54 5 (uat ck_cL_law_1752 0 rfl) (uat ck_cL_law_1752 1 rfl) rfl
theorem dL_law_1754 : decode cL_law 1754 = .ok (.aload_n 2, 1) := dq_44  (uat ck_cL_law_1752 2 rfl)
theorem dL_law_1755 : decode cL_law 1755 = .ok (.aload_n 0, 1) := dq_42  (uat ck_cL_law_1752 3 rfl)
theorem dL_law_1756 : decode cL_law 1756 = .ok (.iload 4, 2) := dq_21 4 (uat ck_cL_law_1752 4 rfl) (uat ck_cL_law_1752 5 rfl) rfl
theorem dL_law_1758 : decode cL_law 1758 = .ok (.iconst 1, 1) := dq_4  (uat ck_cL_law_1752 6 rfl)
theorem dL_law_1759 : decode cL_law 1759 = .ok (.iadd, 1) := dq_96  (uat ck_cL_law_1752 7 rfl)
theorem dL_law_1760 : decode cL_law 1760 = .ok (.iaload, 1) := dq_46  (uat ck_cL_law_1752 8 rfl)
theorem dL_law_1761 : decode cL_law 1761 = .ok (.aload_n 0, 1) := dq_42  (uat ck_cL_law_1752 9 rfl)
theorem dL_law_1762 : decode cL_law 1762 = .ok (.iload 4, 2) := dq_21 4 (uat ck_cL_law_1752 10 rfl) (uat ck_cL_law_1752 11 rfl) rfl
theorem dL_law_1764 : decode cL_law 1764 = .ok (.iconst 2, 1) := dq_5  (uat ck_cL_law_1752 12 rfl)
theorem dL_law_1765 : decode cL_law 1765 = .ok (.iadd, 1) := dq_96  (uat ck_cL_law_1752 13 rfl)
theorem dL_law_1766 : decode cL_law 1766 = .ok (.iaload, 1) := dq_46  (uat ck_cL_law_1752 14 rfl)
theorem dL_law_1767 : decode cL_law 1767 = .ok (.invokevirtual 277, 3) := dq_182 1 21 (uat ck_cL_law_1752 15 rfl) (uat ck_cL_law_1752 16 rfl) (uat ck_cL_law_1752 17 rfl) rfl
theorem dL_law_1770 : decode cL_law 1770 = .ok (.istore 6, 2) := dq_54 6 (uat ck_cL_law_1752 18 rfl) (uat ck_cL_law_1752 19 rfl) rfl
theorem dL_law_1772 : decode cL_law 1772 = .ok (.goto 343, 3) := dq_167 1 87 (uat ck_cL_law_1752 20 rfl) (uat ck_cL_law_1752 21 rfl) (uat ck_cL_law_1752 22 rfl) (by decide)
theorem dL_law_1775 : decode cL_law 1775 = .ok (.aload_n 1, 1) := dq_43  (uat ck_cL_law_1752 23 rfl)
theorem dL_law_1776 : decode cL_law 1776 = .ok (.aload_n 0, 1) := dq_42  (uat ck_cL_law_1752 24 rfl)
theorem dL_law_1777 : decode cL_law 1777 = .ok (.iload 4, 2) := dq_21 4 (uat ck_cL_law_1752 25 rfl) (uat ck_cL_law_1752 26 rfl) rfl
theorem dL_law_1779 : decode cL_law 1779 = .ok (.iconst 1, 1) := dq_4  (uat ck_cL_law_1752 27 rfl)
theorem dL_law_1780 : decode cL_law 1780 = .ok (.iadd, 1) := dq_96  (uat ck_cL_law_1752 28 rfl)
theorem dL_law_1781 : decode cL_law 1781 = .ok (.iaload, 1) := dq_46  (uat ck_cL_law_1752 29 rfl)
theorem dL_law_1782 : decode cL_law 1782 = .ok (.aload_n 0, 1) := dq_42  (uat ck_cL_law_1752 30 rfl)
theorem dL_law_1783 : decode cL_law 1783 = .ok (.iload 4, 2) := dq_21 4 (uat ck_cL_law_1752 31 rfl) (uat ck_cL_law_1752 32 rfl) rfl
theorem dL_law_1785 : decode cL_law 1785 = .ok (.iconst 2, 1) := dq_5  (uat ck_cL_law_1752 33 rfl)
theorem dL_law_1786 : decode cL_law 1786 = .ok (.iadd, 1) := dq_96  (uat ck_cL_law_1752 34 rfl)
theorem dL_law_1787 : decode cL_law 1787 = .ok (.iaload, 1) := dq_46  (uat ck_cL_law_1752 35 rfl)
theorem dL_law_1788 : decode cL_law 1788 = .ok (.aload_n 0, 1) := dq_42  (uat ck_cL_law_1752 36 rfl)
theorem dL_law_1789 : decode cL_law 1789 = .ok (.iload 4, 2) := dq_21 4 (uat ck_cL_law_1752 37 rfl) (uat ck_cL_law_1752 38 rfl) rfl
theorem dL_law_1791 : decode cL_law 1791 = .ok (.iconst 3, 1) := dq_6  (uat ck_cL_law_1752 39 rfl)
theorem dL_law_1792 : decode cL_law 1792 = .ok (.iadd, 1) := dq_96  (uat ck_cL_law_1752 40 rfl)
theorem dL_law_1793 : decode cL_law 1793 = .ok (.iaload, 1) := dq_46  (uat ck_cL_law_1752 41 rfl)
theorem dL_law_1794 : decode cL_law 1794 = .ok (.ifCond .eq 7, 3) := dq_153 0 7 (uat ck_cL_law_1752 42 rfl) (uat ck_cL_law_1752 43 rfl) (uat ck_cL_law_1752 44 rfl) (by decide)
theorem dL_law_1797 : decode cL_law 1797 = .ok (.iconst 1, 1) := dq_4  (uat ck_cL_law_1752 45 rfl)
theorem dL_law_1798 : decode cL_law 1798 = .ok (.goto 4, 3) := dq_167 0 4 (uat ck_cL_law_1752 46 rfl) (uat ck_cL_law_1752 47 rfl) (uat ck_cL_law_1752 48 rfl) (by decide)
theorem dL_law_1801 : decode cL_law 1801 = .ok (.iconst 0, 1) := dq_3  (uat ck_cL_law_1752 49 rfl)
theorem dL_law_1802 : decode cL_law 1802 = .ok (.aload_n 3, 1) := dq_45  (uat ck_cL_law_1752 50 rfl)
theorem dL_law_1803 : decode cL_law 1803 = .ok (.invokestatic 278, 3) := dq_184 1 22 (uat ck_cL_law_1752 51 rfl) (uat ck_cL_law_1752 52 rfl) (uat ck_cL_law_1752 53 rfl) rfl
theorem dL_law_1806 : decode cL_law 1806 = .ok (.istore 5, 2) := dq_54 5 (uat ck_cL_law_1752 54 rfl) (uat ck_cL_law_1752 55 rfl) rfl
theorem dL_law_1808 : decode cL_law 1808 = .ok (.aload_n 2, 1) := dq_44  (uat ck_cL_law_1752 56 rfl)
theorem dL_law_1809 : decode cL_law 1809 = .ok (.aload_n 0, 1) := dq_42  (uat ck_cL_law_1752 57 rfl)
theorem ck_cL_law_1810 : (cL_law.data.toList.drop 1810).take 58 = [21, 4, 4, 96, 46, 42, 21, 4, 5, 96, 46, 42, 21, 4, 6, 96, 46, 153, 0, 7, 4, 167, 0, 4, 3, 182, 1, 24, 54, 6, 167, 1, 19, 43, 42, 21, 4, 4, 96, 46, 42, 21, 4, 5, 96, 46, 45, 184, 1, 25, 54, 5, 44, 42, 21, 4, 4, 96] := by decide +kernel
theorem dL_law_1810 : decode cL_law 1810 = .ok (.iload 4, 2) := dq_21 4 (uat ck_cL_law_1810 0 rfl) (uat ck_cL_law_1810 1 rfl) rfl
theorem dL_law_1812 : decode cL_law 1812 = .ok (.iconst 1, 1) := dq_4  (uat ck_cL_law_1810 2 rfl)
theorem dL_law_1813 : decode cL_law 1813 = .ok (.iadd, 1) := dq_96  (uat ck_cL_law_1810 3 rfl)
theorem dL_law_1814 : decode cL_law 1814 = .ok (.iaload, 1) := dq_46  (uat ck_cL_law_1810 4 rfl)
theorem dL_law_1815 : decode cL_law 1815 = .ok (.aload_n 0, 1) := dq_42  (uat ck_cL_law_1810 5 rfl)
theorem dL_law_1816 : decode cL_law 1816 = .ok (.iload 4, 2) := dq_21 4 (uat ck_cL_law_1810 6 rfl) (uat ck_cL_law_1810 7 rfl) rfl
theorem dL_law_1818 : decode cL_law 1818 = .ok (.iconst 2, 1) := dq_5  (uat ck_cL_law_1810 8 rfl)
theorem dL_law_1819 : decode cL_law 1819 = .ok (.iadd, 1) := dq_96  (uat ck_cL_law_1810 9 rfl)
theorem dL_law_1820 : decode cL_law 1820 = .ok (.iaload, 1) := dq_46  (uat ck_cL_law_1810 10 rfl)
theorem dL_law_1821 : decode cL_law 1821 = .ok (.aload_n 0, 1) := dq_42  (uat ck_cL_law_1810 11 rfl)
theorem dL_law_1822 : decode cL_law 1822 = .ok (.iload 4, 2) := dq_21 4 (uat ck_cL_law_1810 12 rfl) (uat ck_cL_law_1810 13 rfl) rfl
theorem dL_law_1824 : decode cL_law 1824 = .ok (.iconst 3, 1) := dq_6  (uat ck_cL_law_1810 14 rfl)
theorem dL_law_1825 : decode cL_law 1825 = .ok (.iadd, 1) := dq_96  (uat ck_cL_law_1810 15 rfl)
theorem dL_law_1826 : decode cL_law 1826 = .ok (.iaload, 1) := dq_46  (uat ck_cL_law_1810 16 rfl)
theorem dL_law_1827 : decode cL_law 1827 = .ok (.ifCond .eq 7, 3) := dq_153 0 7 (uat ck_cL_law_1810 17 rfl) (uat ck_cL_law_1810 18 rfl) (uat ck_cL_law_1810 19 rfl) (by decide)
theorem dL_law_1830 : decode cL_law 1830 = .ok (.iconst 1, 1) := dq_4  (uat ck_cL_law_1810 20 rfl)
theorem dL_law_1831 : decode cL_law 1831 = .ok (.goto 4, 3) := dq_167 0 4 (uat ck_cL_law_1810 21 rfl) (uat ck_cL_law_1810 22 rfl) (uat ck_cL_law_1810 23 rfl) (by decide)
theorem dL_law_1834 : decode cL_law 1834 = .ok (.iconst 0, 1) := dq_3  (uat ck_cL_law_1810 24 rfl)
theorem dL_law_1835 : decode cL_law 1835 = .ok (.invokevirtual 280, 3) := dq_182 1 24 (uat ck_cL_law_1810 25 rfl) (uat ck_cL_law_1810 26 rfl) (uat ck_cL_law_1810 27 rfl) rfl
theorem dL_law_1838 : decode cL_law 1838 = .ok (.istore 6, 2) := dq_54 6 (uat ck_cL_law_1810 28 rfl) (uat ck_cL_law_1810 29 rfl) rfl
theorem dL_law_1840 : decode cL_law 1840 = .ok (.goto 275, 3) := dq_167 1 19 (uat ck_cL_law_1810 30 rfl) (uat ck_cL_law_1810 31 rfl) (uat ck_cL_law_1810 32 rfl) (by decide)
theorem dL_law_1843 : decode cL_law 1843 = .ok (.aload_n 1, 1) := dq_43  (uat ck_cL_law_1810 33 rfl)
theorem dL_law_1844 : decode cL_law 1844 = .ok (.aload_n 0, 1) := dq_42  (uat ck_cL_law_1810 34 rfl)
theorem dL_law_1845 : decode cL_law 1845 = .ok (.iload 4, 2) := dq_21 4 (uat ck_cL_law_1810 35 rfl) (uat ck_cL_law_1810 36 rfl) rfl
theorem dL_law_1847 : decode cL_law 1847 = .ok (.iconst 1, 1) := dq_4  (uat ck_cL_law_1810 37 rfl)
theorem dL_law_1848 : decode cL_law 1848 = .ok (.iadd, 1) := dq_96  (uat ck_cL_law_1810 38 rfl)
theorem dL_law_1849 : decode cL_law 1849 = .ok (.iaload, 1) := dq_46  (uat ck_cL_law_1810 39 rfl)
theorem dL_law_1850 : decode cL_law 1850 = .ok (.aload_n 0, 1) := dq_42  (uat ck_cL_law_1810 40 rfl)
theorem dL_law_1851 : decode cL_law 1851 = .ok (.iload 4, 2) := dq_21 4 (uat ck_cL_law_1810 41 rfl) (uat ck_cL_law_1810 42 rfl) rfl
theorem dL_law_1853 : decode cL_law 1853 = .ok (.iconst 2, 1) := dq_5  (uat ck_cL_law_1810 43 rfl)
theorem dL_law_1854 : decode cL_law 1854 = .ok (.iadd, 1) := dq_96  (uat ck_cL_law_1810 44 rfl)
theorem dL_law_1855 : decode cL_law 1855 = .ok (.iaload, 1) := dq_46  (uat ck_cL_law_1810 45 rfl)
theorem dL_law_1856 : decode cL_law 1856 = .ok (.aload_n 3, 1) := dq_45  (uat ck_cL_law_1810 46 rfl)
theorem dL_law_1857 : decode cL_law 1857 = .ok (.invokestatic 281, 3) := dq_184 1 25 (uat ck_cL_law_1810 47 rfl) (uat ck_cL_law_1810 48 rfl) (uat ck_cL_law_1810 49 rfl) rfl
theorem dL_law_1860 : decode cL_law 1860 = .ok (.istore 5, 2) := dq_54 5 (uat ck_cL_law_1810 50 rfl) (uat ck_cL_law_1810 51 rfl) rfl
theorem dL_law_1862 : decode cL_law 1862 = .ok (.aload_n 2, 1) := dq_44  (uat ck_cL_law_1810 52 rfl)
theorem dL_law_1863 : decode cL_law 1863 = .ok (.aload_n 0, 1) := dq_42  (uat ck_cL_law_1810 53 rfl)
theorem dL_law_1864 : decode cL_law 1864 = .ok (.iload 4, 2) := dq_21 4 (uat ck_cL_law_1810 54 rfl) (uat ck_cL_law_1810 55 rfl) rfl
theorem dL_law_1866 : decode cL_law 1866 = .ok (.iconst 1, 1) := dq_4  (uat ck_cL_law_1810 56 rfl)
theorem dL_law_1867 : decode cL_law 1867 = .ok (.iadd, 1) := dq_96  (uat ck_cL_law_1810 57 rfl)
theorem ck_cL_law_1868 : (cL_law.data.toList.drop 1868).take 58 = [46, 42, 21, 4, 5, 96, 46, 182, 1, 27, 54, 6, 167, 0, 235, 43, 42, 21, 4, 4, 96, 46, 42, 21, 4, 5, 96, 46, 45, 184, 1, 28, 54, 5, 44, 42, 21, 4, 4, 96, 46, 42, 21, 4, 5, 96, 46, 182, 1, 30, 54, 6, 44, 182, 1, 31, 21, 5] := by decide +kernel
theorem dL_law_1868 : decode cL_law 1868 = .ok (.iaload, 1) := dq_46  (uat ck_cL_law_1868 0 rfl)
theorem dL_law_1869 : decode cL_law 1869 = .ok (.aload_n 0, 1) := dq_42  (uat ck_cL_law_1868 1 rfl)
theorem dL_law_1870 : decode cL_law 1870 = .ok (.iload 4, 2) := dq_21 4 (uat ck_cL_law_1868 2 rfl) (uat ck_cL_law_1868 3 rfl) rfl
theorem dL_law_1872 : decode cL_law 1872 = .ok (.iconst 2, 1) := dq_5  (uat ck_cL_law_1868 4 rfl)
theorem dL_law_1873 : decode cL_law 1873 = .ok (.iadd, 1) := dq_96  (uat ck_cL_law_1868 5 rfl)
theorem dL_law_1874 : decode cL_law 1874 = .ok (.iaload, 1) := dq_46  (uat ck_cL_law_1868 6 rfl)
theorem dL_law_1875 : decode cL_law 1875 = .ok (.invokevirtual 283, 3) := dq_182 1 27 (uat ck_cL_law_1868 7 rfl) (uat ck_cL_law_1868 8 rfl) (uat ck_cL_law_1868 9 rfl) rfl
theorem dL_law_1878 : decode cL_law 1878 = .ok (.istore 6, 2) := dq_54 6 (uat ck_cL_law_1868 10 rfl) (uat ck_cL_law_1868 11 rfl) rfl
theorem dL_law_1880 : decode cL_law 1880 = .ok (.goto 235, 3) := dq_167 0 235 (uat ck_cL_law_1868 12 rfl) (uat ck_cL_law_1868 13 rfl) (uat ck_cL_law_1868 14 rfl) (by decide)
theorem dL_law_1883 : decode cL_law 1883 = .ok (.aload_n 1, 1) := dq_43  (uat ck_cL_law_1868 15 rfl)
theorem dL_law_1884 : decode cL_law 1884 = .ok (.aload_n 0, 1) := dq_42  (uat ck_cL_law_1868 16 rfl)
theorem dL_law_1885 : decode cL_law 1885 = .ok (.iload 4, 2) := dq_21 4 (uat ck_cL_law_1868 17 rfl) (uat ck_cL_law_1868 18 rfl) rfl
theorem dL_law_1887 : decode cL_law 1887 = .ok (.iconst 1, 1) := dq_4  (uat ck_cL_law_1868 19 rfl)
theorem dL_law_1888 : decode cL_law 1888 = .ok (.iadd, 1) := dq_96  (uat ck_cL_law_1868 20 rfl)
theorem dL_law_1889 : decode cL_law 1889 = .ok (.iaload, 1) := dq_46  (uat ck_cL_law_1868 21 rfl)
theorem dL_law_1890 : decode cL_law 1890 = .ok (.aload_n 0, 1) := dq_42  (uat ck_cL_law_1868 22 rfl)
theorem dL_law_1891 : decode cL_law 1891 = .ok (.iload 4, 2) := dq_21 4 (uat ck_cL_law_1868 23 rfl) (uat ck_cL_law_1868 24 rfl) rfl
theorem dL_law_1893 : decode cL_law 1893 = .ok (.iconst 2, 1) := dq_5  (uat ck_cL_law_1868 25 rfl)
theorem dL_law_1894 : decode cL_law 1894 = .ok (.iadd, 1) := dq_96  (uat ck_cL_law_1868 26 rfl)
theorem dL_law_1895 : decode cL_law 1895 = .ok (.iaload, 1) := dq_46  (uat ck_cL_law_1868 27 rfl)
theorem dL_law_1896 : decode cL_law 1896 = .ok (.aload_n 3, 1) := dq_45  (uat ck_cL_law_1868 28 rfl)
theorem dL_law_1897 : decode cL_law 1897 = .ok (.invokestatic 284, 3) := dq_184 1 28 (uat ck_cL_law_1868 29 rfl) (uat ck_cL_law_1868 30 rfl) (uat ck_cL_law_1868 31 rfl) rfl
theorem dL_law_1900 : decode cL_law 1900 = .ok (.istore 5, 2) := dq_54 5 (uat ck_cL_law_1868 32 rfl) (uat ck_cL_law_1868 33 rfl) rfl
theorem dL_law_1902 : decode cL_law 1902 = .ok (.aload_n 2, 1) := dq_44  (uat ck_cL_law_1868 34 rfl)
theorem dL_law_1903 : decode cL_law 1903 = .ok (.aload_n 0, 1) := dq_42  (uat ck_cL_law_1868 35 rfl)
theorem dL_law_1904 : decode cL_law 1904 = .ok (.iload 4, 2) := dq_21 4 (uat ck_cL_law_1868 36 rfl) (uat ck_cL_law_1868 37 rfl) rfl
theorem dL_law_1906 : decode cL_law 1906 = .ok (.iconst 1, 1) := dq_4  (uat ck_cL_law_1868 38 rfl)
theorem dL_law_1907 : decode cL_law 1907 = .ok (.iadd, 1) := dq_96  (uat ck_cL_law_1868 39 rfl)
theorem dL_law_1908 : decode cL_law 1908 = .ok (.iaload, 1) := dq_46  (uat ck_cL_law_1868 40 rfl)
theorem dL_law_1909 : decode cL_law 1909 = .ok (.aload_n 0, 1) := dq_42  (uat ck_cL_law_1868 41 rfl)
theorem dL_law_1910 : decode cL_law 1910 = .ok (.iload 4, 2) := dq_21 4 (uat ck_cL_law_1868 42 rfl) (uat ck_cL_law_1868 43 rfl) rfl
theorem dL_law_1912 : decode cL_law 1912 = .ok (.iconst 2, 1) := dq_5  (uat ck_cL_law_1868 44 rfl)
theorem dL_law_1913 : decode cL_law 1913 = .ok (.iadd, 1) := dq_96  (uat ck_cL_law_1868 45 rfl)
theorem dL_law_1914 : decode cL_law 1914 = .ok (.iaload, 1) := dq_46  (uat ck_cL_law_1868 46 rfl)
theorem dL_law_1915 : decode cL_law 1915 = .ok (.invokevirtual 286, 3) := dq_182 1 30 (uat ck_cL_law_1868 47 rfl) (uat ck_cL_law_1868 48 rfl) (uat ck_cL_law_1868 49 rfl) rfl
theorem dL_law_1918 : decode cL_law 1918 = .ok (.istore 6, 2) := dq_54 6 (uat ck_cL_law_1868 50 rfl) (uat ck_cL_law_1868 51 rfl) rfl
theorem dL_law_1920 : decode cL_law 1920 = .ok (.aload_n 2, 1) := dq_44  (uat ck_cL_law_1868 52 rfl)
theorem dL_law_1921 : decode cL_law 1921 = .ok (.invokevirtual 287, 3) := dq_182 1 31 (uat ck_cL_law_1868 53 rfl) (uat ck_cL_law_1868 54 rfl) (uat ck_cL_law_1868 55 rfl) rfl
theorem dL_law_1924 : decode cL_law 1924 = .ok (.iload 5, 2) := dq_21 5 (uat ck_cL_law_1868 56 rfl) (uat ck_cL_law_1868 57 rfl) rfl
theorem dL_law_1926 : decode cL_law 1926 = .ok (.if_icmp .eq 5, 3) := by decide +kernel
theorem ck_cL_law_1929 : (cL_law.data.toList.drop 1929).take 66 = [3, 172, 21, 5, 154, 0, 16, 45, 180, 0, 13, 21, 6, 133, 148, 153, 0, 5, 3, 172, 167, 0, 166, 43, 182, 1, 34, 87, 44, 182, 1, 38, 87, 167, 0, 153, 43, 42, 21, 4, 4, 96, 46, 45, 184, 1, 39, 54, 5, 44, 42, 21, 4, 4, 96, 46, 182, 1, 41, 54, 6, 167, 0, 125, 43, 42] := by decide +kernel
theorem dL_law_1929 : decode cL_law 1929 = .ok (.iconst 0, 1) := dq_3  (uat ck_cL_law_1929 0 rfl)
theorem dL_law_1930 : decode cL_law 1930 = .ok (.ireturn, 1) := by decide +kernel
theorem dL_law_1931 : decode cL_law 1931 = .ok (.iload 5, 2) := dq_21 5 (uat ck_cL_law_1929 2 rfl) (uat ck_cL_law_1929 3 rfl) rfl
theorem dL_law_1933 : decode cL_law 1933 = .ok (.ifCond .ne 16, 3) := by decide +kernel
theorem dL_law_1936 : decode cL_law 1936 = .ok (.aload_n 3, 1) := dq_45  (uat ck_cL_law_1929 7 rfl)
theorem dL_law_1937 : decode cL_law 1937 = .ok (.getfield 13, 3) := by decide +kernel
theorem dL_law_1940 : decode cL_law 1940 = .ok (.iload 6, 2) := dq_21 6 (uat ck_cL_law_1929 11 rfl) (uat ck_cL_law_1929 12 rfl) rfl
theorem dL_law_1942 : decode cL_law 1942 = .ok (.i2l, 1) := by decide +kernel
theorem dL_law_1943 : decode cL_law 1943 = .ok (.lcmp, 1) := by decide +kernel
theorem dL_law_1944 : decode cL_law 1944 = .ok (.ifCond .eq 5, 3) := dq_153 0 5 (uat ck_cL_law_1929 15 rfl) (uat ck_cL_law_1929 16 rfl) (uat ck_cL_law_1929 17 rfl) (by decide)
theorem dL_law_1947 : decode cL_law 1947 = .ok (.iconst 0, 1) := dq_3  (uat ck_cL_law_1929 18 rfl)
theorem dL_law_1948 : decode cL_law 1948 = .ok (.ireturn, 1) := by decide +kernel
theorem dL_law_1949 : decode cL_law 1949 = .ok (.goto 166, 3) := dq_167 0 166 (uat ck_cL_law_1929 20 rfl) (uat ck_cL_law_1929 21 rfl) (uat ck_cL_law_1929 22 rfl) (by decide)
theorem dL_law_1952 : decode cL_law 1952 = .ok (.aload_n 1, 1) := dq_43  (uat ck_cL_law_1929 23 rfl)
theorem dL_law_1953 : decode cL_law 1953 = .ok (.invokevirtual 290, 3) := dq_182 1 34 (uat ck_cL_law_1929 24 rfl) (uat ck_cL_law_1929 25 rfl) (uat ck_cL_law_1929 26 rfl) rfl
theorem dL_law_1956 : decode cL_law 1956 = .ok (.pop, 1) := by decide +kernel
theorem dL_law_1957 : decode cL_law 1957 = .ok (.aload_n 2, 1) := dq_44  (uat ck_cL_law_1929 28 rfl)
theorem dL_law_1958 : decode cL_law 1958 = .ok (.invokevirtual 294, 3) := dq_182 1 38 (uat ck_cL_law_1929 29 rfl) (uat ck_cL_law_1929 30 rfl) (uat ck_cL_law_1929 31 rfl) rfl
theorem dL_law_1961 : decode cL_law 1961 = .ok (.pop, 1) := by decide +kernel
theorem dL_law_1962 : decode cL_law 1962 = .ok (.goto 153, 3) := dq_167 0 153 (uat ck_cL_law_1929 33 rfl) (uat ck_cL_law_1929 34 rfl) (uat ck_cL_law_1929 35 rfl) (by decide)
theorem dL_law_1965 : decode cL_law 1965 = .ok (.aload_n 1, 1) := dq_43  (uat ck_cL_law_1929 36 rfl)
theorem dL_law_1966 : decode cL_law 1966 = .ok (.aload_n 0, 1) := dq_42  (uat ck_cL_law_1929 37 rfl)
theorem dL_law_1967 : decode cL_law 1967 = .ok (.iload 4, 2) := dq_21 4 (uat ck_cL_law_1929 38 rfl) (uat ck_cL_law_1929 39 rfl) rfl
theorem dL_law_1969 : decode cL_law 1969 = .ok (.iconst 1, 1) := dq_4  (uat ck_cL_law_1929 40 rfl)
theorem dL_law_1970 : decode cL_law 1970 = .ok (.iadd, 1) := dq_96  (uat ck_cL_law_1929 41 rfl)
theorem dL_law_1971 : decode cL_law 1971 = .ok (.iaload, 1) := dq_46  (uat ck_cL_law_1929 42 rfl)
theorem dL_law_1972 : decode cL_law 1972 = .ok (.aload_n 3, 1) := dq_45  (uat ck_cL_law_1929 43 rfl)
theorem dL_law_1973 : decode cL_law 1973 = .ok (.invokestatic 295, 3) := dq_184 1 39 (uat ck_cL_law_1929 44 rfl) (uat ck_cL_law_1929 45 rfl) (uat ck_cL_law_1929 46 rfl) rfl
theorem dL_law_1976 : decode cL_law 1976 = .ok (.istore 5, 2) := dq_54 5 (uat ck_cL_law_1929 47 rfl) (uat ck_cL_law_1929 48 rfl) rfl
theorem dL_law_1978 : decode cL_law 1978 = .ok (.aload_n 2, 1) := dq_44  (uat ck_cL_law_1929 49 rfl)
theorem dL_law_1979 : decode cL_law 1979 = .ok (.aload_n 0, 1) := dq_42  (uat ck_cL_law_1929 50 rfl)
theorem dL_law_1980 : decode cL_law 1980 = .ok (.iload 4, 2) := dq_21 4 (uat ck_cL_law_1929 51 rfl) (uat ck_cL_law_1929 52 rfl) rfl
theorem dL_law_1982 : decode cL_law 1982 = .ok (.iconst 1, 1) := dq_4  (uat ck_cL_law_1929 53 rfl)
theorem dL_law_1983 : decode cL_law 1983 = .ok (.iadd, 1) := dq_96  (uat ck_cL_law_1929 54 rfl)
theorem dL_law_1984 : decode cL_law 1984 = .ok (.iaload, 1) := dq_46  (uat ck_cL_law_1929 55 rfl)
theorem dL_law_1985 : decode cL_law 1985 = .ok (.invokevirtual 297, 3) := dq_182 1 41 (uat ck_cL_law_1929 56 rfl) (uat ck_cL_law_1929 57 rfl) (uat ck_cL_law_1929 58 rfl) rfl
theorem dL_law_1988 : decode cL_law 1988 = .ok (.istore 6, 2) := dq_54 6 (uat ck_cL_law_1929 59 rfl) (uat ck_cL_law_1929 60 rfl) rfl
theorem dL_law_1990 : decode cL_law 1990 = .ok (.goto 125, 3) := dq_167 0 125 (uat ck_cL_law_1929 61 rfl) (uat ck_cL_law_1929 62 rfl) (uat ck_cL_law_1929 63 rfl) (by decide)
theorem dL_law_1993 : decode cL_law 1993 = .ok (.aload_n 1, 1) := dq_43  (uat ck_cL_law_1929 64 rfl)
theorem dL_law_1994 : decode cL_law 1994 = .ok (.aload_n 0, 1) := dq_42  (uat ck_cL_law_1929 65 rfl)
theorem ck_cL_law_1995 : (cL_law.data.toList.drop 1995).take 57 = [21, 4, 4, 96, 46, 45, 184, 1, 42, 54, 5, 44, 42, 21, 4, 4, 96, 46, 182, 1, 44, 58, 6, 167, 0, 97, 43, 42, 21, 4, 4, 96, 46, 42, 21, 4, 5, 96, 46, 45, 184, 1, 45, 54, 5, 44, 42, 21, 4, 4, 96, 46, 42, 21, 4, 5, 96] := by decide +kernel
theorem dL_law_1995 : decode cL_law 1995 = .ok (.iload 4, 2) := dq_21 4 (uat ck_cL_law_1995 0 rfl) (uat ck_cL_law_1995 1 rfl) rfl
theorem dL_law_1997 : decode cL_law 1997 = .ok (.iconst 1, 1) := dq_4  (uat ck_cL_law_1995 2 rfl)
theorem dL_law_1998 : decode cL_law 1998 = .ok (.iadd, 1) := dq_96  (uat ck_cL_law_1995 3 rfl)
theorem dL_law_1999 : decode cL_law 1999 = .ok (.iaload, 1) := dq_46  (uat ck_cL_law_1995 4 rfl)
theorem dL_law_2000 : decode cL_law 2000 = .ok (.aload_n 3, 1) := dq_45  (uat ck_cL_law_1995 5 rfl)
theorem dL_law_2001 : decode cL_law 2001 = .ok (.invokestatic 298, 3) := dq_184 1 42 (uat ck_cL_law_1995 6 rfl) (uat ck_cL_law_1995 7 rfl) (uat ck_cL_law_1995 8 rfl) rfl
theorem dL_law_2004 : decode cL_law 2004 = .ok (.istore 5, 2) := dq_54 5 (uat ck_cL_law_1995 9 rfl) (uat ck_cL_law_1995 10 rfl) rfl
theorem dL_law_2006 : decode cL_law 2006 = .ok (.aload_n 2, 1) := dq_44  (uat ck_cL_law_1995 11 rfl)
theorem dL_law_2007 : decode cL_law 2007 = .ok (.aload_n 0, 1) := dq_42  (uat ck_cL_law_1995 12 rfl)
theorem dL_law_2008 : decode cL_law 2008 = .ok (.iload 4, 2) := dq_21 4 (uat ck_cL_law_1995 13 rfl) (uat ck_cL_law_1995 14 rfl) rfl
theorem dL_law_2010 : decode cL_law 2010 = .ok (.iconst 1, 1) := dq_4  (uat ck_cL_law_1995 15 rfl)
theorem dL_law_2011 : decode cL_law 2011 = .ok (.iadd, 1) := dq_96  (uat ck_cL_law_1995 16 rfl)
theorem dL_law_2012 : decode cL_law 2012 = .ok (.iaload, 1) := dq_46  (uat ck_cL_law_1995 17 rfl)
theorem dL_law_2013 : decode cL_law 2013 = .ok (.invokevirtual 300, 3) := dq_182 1 44 (uat ck_cL_law_1995 18 rfl) (uat ck_cL_law_1995 19 rfl) (uat ck_cL_law_1995 20 rfl) rfl
theorem dL_law_2016 : decode cL_law 2016 = .ok (.astore 6, 2) := by decide +kernel
theorem dL_law_2018 : decode cL_law 2018 = .ok (.goto 97, 3) := dq_167 0 97 (uat ck_cL_law_1995 23 rfl) (uat ck_cL_law_1995 24 rfl) (uat ck_cL_law_1995 25 rfl) (by decide)
theorem dL_law_2021 : decode cL_law 2021 = .ok (.aload_n 1, 1) := dq_43  (uat ck_cL_law_1995 26 rfl)
theorem dL_law_2022 : decode cL_law 2022 = .ok (.aload_n 0, 1) := dq_42  (uat ck_cL_law_1995 27 rfl)
theorem dL_law_2023 : decode cL_law 2023 = .ok (.iload 4, 2) := dq_21 4 (uat ck_cL_law_1995 28 rfl) (uat ck_cL_law_1995 29 rfl) rfl
theorem dL_law_2025 : decode cL_law 2025 = .ok (.iconst 1, 1) := dq_4  (uat ck_cL_law_1995 30 rfl)
theorem dL_law_2026 : decode cL_law 2026 = .ok (.iadd, 1) := dq_96  (uat ck_cL_law_1995 31 rfl)
theorem dL_law_2027 : decode cL_law 2027 = .ok (.iaload, 1) := dq_46  (uat ck_cL_law_1995 32 rfl)
theorem dL_law_2028 : decode cL_law 2028 = .ok (.aload_n 0, 1) := dq_42  (uat ck_cL_law_1995 33 rfl)
theorem dL_law_2029 : decode cL_law 2029 = .ok (.iload 4, 2) := dq_21 4 (uat ck_cL_law_1995 34 rfl) (uat ck_cL_law_1995 35 rfl) rfl
theorem dL_law_2031 : decode cL_law 2031 = .ok (.iconst 2, 1) := dq_5  (uat ck_cL_law_1995 36 rfl)
theorem dL_law_2032 : decode cL_law 2032 = .ok (.iadd, 1) := dq_96  (uat ck_cL_law_1995 37 rfl)
theorem dL_law_2033 : decode cL_law 2033 = .ok (.iaload, 1) := dq_46  (uat ck_cL_law_1995 38 rfl)
theorem dL_law_2034 : decode cL_law 2034 = .ok (.aload_n 3, 1) := dq_45  (uat ck_cL_law_1995 39 rfl)
theorem dL_law_2035 : decode cL_law 2035 = .ok (.invokestatic 301, 3) := dq_184 1 45 (uat ck_cL_law_1995 40 rfl) (uat ck_cL_law_1995 41 rfl) (uat ck_cL_law_1995 42 rfl) rfl
theorem dL_law_2038 : decode cL_law 2038 = .ok (.istore 5, 2) := dq_54 5 (uat ck_cL_law_1995 43 rfl) (uat ck_cL_law_1995 44 rfl) rfl
theorem dL_law_2040 : decode cL_law 2040 = .ok (.aload_n 2, 1) := dq_44  (uat ck_cL_law_1995 45 rfl)
theorem dL_law_2041 : decode cL_law 2041 = .ok (.aload_n 0, 1) := dq_42  (uat ck_cL_law_1995 46 rfl)
theorem dL_law_2042 : decode cL_law 2042 = .ok (.iload 4, 2) := dq_21 4 (uat ck_cL_law_1995 47 rfl) (uat ck_cL_law_1995 48 rfl) rfl
theorem dL_law_2044 : decode cL_law 2044 = .ok (.iconst 1, 1) := dq_4  (uat ck_cL_law_1995 49 rfl)
theorem dL_law_2045 : decode cL_law 2045 = .ok (.iadd, 1) := dq_96  (uat ck_cL_law_1995 50 rfl)
theorem dL_law_2046 : decode cL_law 2046 = .ok (.iaload, 1) := dq_46  (uat ck_cL_law_1995 51 rfl)
theorem dL_law_2047 : decode cL_law 2047 = .ok (.aload_n 0, 1) := dq_42  (uat ck_cL_law_1995 52 rfl)
theorem dL_law_2048 : decode cL_law 2048 = .ok (.iload 4, 2) := dq_21 4 (uat ck_cL_law_1995 53 rfl) (uat ck_cL_law_1995 54 rfl) rfl
theorem dL_law_2050 : decode cL_law 2050 = .ok (.iconst 2, 1) := dq_5  (uat ck_cL_law_1995 55 rfl)
theorem dL_law_2051 : decode cL_law 2051 = .ok (.iadd, 1) := dq_96  (uat ck_cL_law_1995 56 rfl)
theorem ck_cL_law_2052 : (cL_law.data.toList.drop 2052).take 70 = [46, 182, 1, 47, 54, 6, 167, 0, 57, 43, 42, 21, 4, 4, 96, 46, 45, 184, 1, 48, 54, 5, 44, 42, 21, 4, 4, 96, 46, 182, 1, 50, 54, 6, 167, 0, 29, 43, 182, 1, 51, 87, 44, 182, 1, 55, 87, 167, 0, 16, 43, 182, 1, 56, 88, 44, 182, 1, 60, 88, 167, 0, 3, 132, 4, 7, 167, 247, 213, 4] := by decide +kernel
theorem dL_law_2052 : decode cL_law 2052 = .ok (.iaload, 1) := dq_46  (uat ck_cL_law_2052 0 rfl)
theorem dL_law_2053 : decode cL_law 2053 = .ok (.invokevirtual 303, 3) := dq_182 1 47 (uat ck_cL_law_2052 1 rfl) (uat ck_cL_law_2052 2 rfl) (uat ck_cL_law_2052 3 rfl) rfl
theorem dL_law_2056 : decode cL_law 2056 = .ok (.istore 6, 2) := dq_54 6 (uat ck_cL_law_2052 4 rfl) (uat ck_cL_law_2052 5 rfl) rfl
theorem dL_law_2058 : decode cL_law 2058 = .ok (.goto 57, 3) := dq_167 0 57 (uat ck_cL_law_2052 6 rfl) (uat ck_cL_law_2052 7 rfl) (uat ck_cL_law_2052 8 rfl) (by decide)
theorem dL_law_2061 : decode cL_law 2061 = .ok (.aload_n 1, 1) := dq_43  (uat ck_cL_law_2052 9 rfl)
theorem dL_law_2062 : decode cL_law 2062 = .ok (.aload_n 0, 1) := dq_42  (uat ck_cL_law_2052 10 rfl)
theorem dL_law_2063 : decode cL_law 2063 = .ok (.iload 4, 2) := dq_21 4 (uat ck_cL_law_2052 11 rfl) (uat ck_cL_law_2052 12 rfl) rfl
theorem dL_law_2065 : decode cL_law 2065 = .ok (.iconst 1, 1) := dq_4  (uat ck_cL_law_2052 13 rfl)
theorem dL_law_2066 : decode cL_law 2066 = .ok (.iadd, 1) := dq_96  (uat ck_cL_law_2052 14 rfl)
theorem dL_law_2067 : decode cL_law 2067 = .ok (.iaload, 1) := dq_46  (uat ck_cL_law_2052 15 rfl)
theorem dL_law_2068 : decode cL_law 2068 = .ok (.aload_n 3, 1) := dq_45  (uat ck_cL_law_2052 16 rfl)
theorem dL_law_2069 : decode cL_law 2069 = .ok (.invokestatic 304, 3) := dq_184 1 48 (uat ck_cL_law_2052 17 rfl) (uat ck_cL_law_2052 18 rfl) (uat ck_cL_law_2052 19 rfl) rfl
theorem dL_law_2072 : decode cL_law 2072 = .ok (.istore 5, 2) := dq_54 5 (uat ck_cL_law_2052 20 rfl) (uat ck_cL_law_2052 21 rfl) rfl
theorem dL_law_2074 : decode cL_law 2074 = .ok (.aload_n 2, 1) := dq_44  (uat ck_cL_law_2052 22 rfl)
theorem dL_law_2075 : decode cL_law 2075 = .ok (.aload_n 0, 1) := dq_42  (uat ck_cL_law_2052 23 rfl)
theorem dL_law_2076 : decode cL_law 2076 = .ok (.iload 4, 2) := dq_21 4 (uat ck_cL_law_2052 24 rfl) (uat ck_cL_law_2052 25 rfl) rfl
theorem dL_law_2078 : decode cL_law 2078 = .ok (.iconst 1, 1) := dq_4  (uat ck_cL_law_2052 26 rfl)
theorem dL_law_2079 : decode cL_law 2079 = .ok (.iadd, 1) := dq_96  (uat ck_cL_law_2052 27 rfl)
theorem dL_law_2080 : decode cL_law 2080 = .ok (.iaload, 1) := dq_46  (uat ck_cL_law_2052 28 rfl)
theorem dL_law_2081 : decode cL_law 2081 = .ok (.invokevirtual 306, 3) := dq_182 1 50 (uat ck_cL_law_2052 29 rfl) (uat ck_cL_law_2052 30 rfl) (uat ck_cL_law_2052 31 rfl) rfl
theorem dL_law_2084 : decode cL_law 2084 = .ok (.istore 6, 2) := dq_54 6 (uat ck_cL_law_2052 32 rfl) (uat ck_cL_law_2052 33 rfl) rfl
theorem dL_law_2086 : decode cL_law 2086 = .ok (.goto 29, 3) := dq_167 0 29 (uat ck_cL_law_2052 34 rfl) (uat ck_cL_law_2052 35 rfl) (uat ck_cL_law_2052 36 rfl) (by decide)
theorem dL_law_2089 : decode cL_law 2089 = .ok (.aload_n 1, 1) := dq_43  (uat ck_cL_law_2052 37 rfl)
theorem dL_law_2090 : decode cL_law 2090 = .ok (.invokevirtual 307, 3) := dq_182 1 51 (uat ck_cL_law_2052 38 rfl) (uat ck_cL_law_2052 39 rfl) (uat ck_cL_law_2052 40 rfl) rfl
theorem dL_law_2093 : decode cL_law 2093 = .ok (.pop, 1) := by decide +kernel
theorem dL_law_2094 : decode cL_law 2094 = .ok (.aload_n 2, 1) := dq_44  (uat ck_cL_law_2052 42 rfl)
theorem dL_law_2095 : decode cL_law 2095 = .ok (.invokevirtual 311, 3) := dq_182 1 55 (uat ck_cL_law_2052 43 rfl) (uat ck_cL_law_2052 44 rfl) (uat ck_cL_law_2052 45 rfl) rfl
theorem dL_law_2098 : decode cL_law 2098 = .ok (.pop, 1) := by decide +kernel
theorem dL_law_2099 : decode cL_law 2099 = .ok (.goto 16, 3) := dq_167 0 16 (uat ck_cL_law_2052 47 rfl) (uat ck_cL_law_2052 48 rfl) (uat ck_cL_law_2052 49 rfl) (by decide)
theorem dL_law_2102 : decode cL_law 2102 = .ok (.aload_n 1, 1) := dq_43  (uat ck_cL_law_2052 50 rfl)
theorem dL_law_2103 : decode cL_law 2103 = .ok (.invokevirtual 312, 3) := dq_182 1 56 (uat ck_cL_law_2052 51 rfl) (uat ck_cL_law_2052 52 rfl) (uat ck_cL_law_2052 53 rfl) rfl
theorem dL_law_2106 : decode cL_law 2106 = .ok (.pop2, 1) := by decide +kernel
theorem dL_law_2107 : decode cL_law 2107 = .ok (.aload_n 2, 1) := dq_44  (uat ck_cL_law_2052 55 rfl)
theorem dL_law_2108 : decode cL_law 2108 = .ok (.invokevirtual 316, 3) := dq_182 1 60 (uat ck_cL_law_2052 56 rfl) (uat ck_cL_law_2052 57 rfl) (uat ck_cL_law_2052 58 rfl) rfl
theorem dL_law_2111 : decode cL_law 2111 = .ok (.pop2, 1) := by decide +kernel
theorem dL_law_2112 : decode cL_law 2112 = .ok (.goto 3, 3) := dq_167 0 3 (uat ck_cL_law_2052 60 rfl) (uat ck_cL_law_2052 61 rfl) (uat ck_cL_law_2052 62 rfl) (by decide)
theorem dL_law_2115 : decode cL_law 2115 = .ok (.iinc 4 7, 3) := by decide +kernel
theorem dL_law_2118 : decode cL_law 2118 = .ok (.goto (-2091), 3) := dq_167 247 213 (uat ck_cL_law_2052 66 rfl) (uat ck_cL_law_2052 67 rfl) (uat ck_cL_law_2052 68 rfl) (by decide)
theorem dL_law_2121 : decode cL_law 2121 = .ok (.iconst 1, 1) := dq_4  (uat ck_cL_law_2052 69 rfl)
theorem dL_law_2122 : decode cL_law 2122 = .ok (.ireturn, 1) := by decide +kernel
