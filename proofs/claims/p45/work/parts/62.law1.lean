/-! THE LAW, 1: what lies in Out; bodies with handlers; calls whose exceptions are caught -/
theorem SS.kp {G : Cx} {SA : Nat → Nat} {X : Nat → List Nat} {es : List Nat} {k : Int32} {H H1 : Heap} {Y : Nat → Prop} (h : SS G SA X es k H) (hk : Pilot.CSigntextLaw_law_r7290_016d97.kp Y H H1) (hX : ∀ i : Nat, i < 39 → ¬ Y (SA i)) : SS G SA X es k H1 := by
  obtain ⟨T, es2, h1, h2⟩ := h
  exact ⟨T, es2, h1.kp hk hX, h2⟩
theorem SS.recv {G : Cx} {SA : Nat → Nat} {X : Nat → List Nat} {es : List Nat} {k : Int32} {H : Heap} {s : State} (h : SS G SA X es k H) (hK : va_K G.1 vwCl (tyL G.2.1) s) : ∃ cell : Cell, H[SA 0]? = some cell ∧ cell.vm.isStatics = false ∧ s.vm.findClass "Signtext" = some cell.cls := by
  obtain ⟨T, es2, h1, h2⟩ := h
  exact h1.recv hK
def OA (G : Cx) (out : Nat) (H : Heap) : Prop := ∃ (n : Int64) (v : Value), va_at G.1 vwCl (out, .inr (7, [.long n, v])) H
theorem OA.lt {G : Cx} {out : Nat} {H : Heap} (h : OA G out H) : out < H.size := by
  obtain ⟨n, v, h⟩ := h
  exact h.lt
theorem OA.kp {G : Cx} {out : Nat} {H H1 : Heap} {Y : Nat → Prop} (h : OA G out H) (hk : Pilot.CSigntextLaw_law_r7290_016d97.kp Y H H1) (hX : ¬ Y out) : OA G out H1 := by
  obtain ⟨n, v, h⟩ := h
  exact ⟨n, v, at_kp h hk hX⟩
def oz (v : Int32) : Int64 := if v = 0 then 0 else 1
section LAW1
variable {p : Program} {l : Launch} {e : Env} {R : Room} {s : State} {m : MethodId} {args : Array Value} {below : List Frame} {meth : Method} {c : Code} {H H0 : Heap} {locs : List Loc} {cells slots : Nat} {Q : State → Prop}
variable {cc bytes : ByteArray} {pc nL maxL index n mc ms mc1 ms1 : Nat} {ls : Array Slot} {rest st0 : List Value} {G : Cx} {A A1 : Nat → Prop} {own C : String} {y : MethodName} {ret : Option FieldType} {ws : List Cond} {rm : Room} {a b : Nat} {As : List Value} {Wd : Heap → Prop} {PX1 : String → Heap → Prop} {D : va_G} {cl : List vw_C} {tys : List (ClassId × FieldType)}
theorem h_putN (hexec : p.tables.exec = Jvm.exec) (hb : c.code = cc) {own ref C host : String} {T : u_T} {N ci index : Nat} {Ts : List Cond} (hts : ∀ w ∈ Ts, w.before args s = true) (hin : ∀ w ∈ u_ws C T N, w ∈ Ts) (ty0 : Nat → FieldType) (hty : ∀ k, k < N → parseFieldDescriptor (T k).2.2.1 = some (ty0 k)) (hnm : ∀ a, a < N → ∀ b, b < N → a ≠ b → (T a).2.1 ≠ (T b).2.1) (hown : s.vm.findClass own = some m.cls) (hK : va_K D cl tys s) {fs : List Value} (h : va_at D cl (a, .inr (ci, fs)) H) (hS : va_S A H0 H locs) (ha : A a) (hc : cl[ci]? = some (C, T, N)) (k : Nat) (hk : k < N) (hlink : (Cond.fieldLinkNest own index ref (T k).2.1 (T k).2.2.1 host).before args s = true) (hsame : ∀ x, s.fieldFound? (T k).1 (T k).2.1 (T k).2.2.1 = some x → s.fieldFound? ref (T k).2.1 (T k).2.2.1 = some x) (hfin : (T k).2.2.2 = false) {ty : FieldType} {v : Value} (hd : parseFieldDescriptor (T k).2.2.1 = some ty) (hn : narrow ty v = v) (hfit : fits ty v = true) (hl : k < fs.length)
    (hdg : decode cc pc = .ok (.putfield index, 3)) (kk : ∀ (H1 : Heap) (locs1 : List Loc), va_at D cl (a, .inr (ci, fs.set k v)) H1 → H1.size = H.size → (∀ q : Nat, q ≠ a → H1[q]? = H[q]?) → va_S A H0 H1 locs1 → W p l e R s m args below meth c H1 locs1 cells slots Q (F0 m (pc + 3) ls rest)) : W p l e R s m args below meth c H locs cells slots Q (F0 m pc ls (v :: .ref a :: rest)) := by
  have hap := va_apart (own := own) hts hin ty0 hty hnm hK hc
  obtain ⟨r, h1, cell, q1, q2, q3, q4⟩ := h
  have hr : r = (C, T, N) := Option.some.inj (h1.symm.trans hc)
  subst hr
  obtain ⟨hSl, hfc, kC, hkC, hkind⟩ := hK.1 ci _ hc
  obtain ⟨cf, kf, fi, f, hi, hsl⟩ := hSl k hk
  have hlay := hts _ (hin _ (u_in_lay hk))
  unfold u_lay at hlay
  rw [if_neg (by rw [hfin]; decide)] at hlay
  have hst := (u_facts hfc hkC (u_lays hts hin hk) hi).1
  have h6 := u_store hfc hkC hkind hlay hi hd hn hfit
  refine va_WputK hexec hb (f := f) hown hlink (hsame _ hi) hst (by rw [q2]; exact h6) q1 q3 (by rw [hsl]; exact k2_hasslot (q4 k hk)) rfl rfl hdg fun H' e1 e2 e3 => ?_
  rw [hsl] at e1 ⊢
  exact kk H' _ ⟨_, hc, t_OB.to (V := updV (vp_V fs) k v) ⟨_, e1, q2, q3, t_set q4 hap hk v⟩ (fun j _ => vp_updV_set hl v j)⟩ e2 e3 (hS.put e2 e3 ha)
theorem mstartH {Qc : Array Value → State → Outcome → State → Prop} {free : Addr → Prop} {av : List Value} {hh : List (Nat × Nat × Nat × Nat)} (own : String) (hy : plainName y.cls = true) (hown : y.cls = own) (hn : (lg_sl av).length ≤ maxL)
    (body : ∀ (p : Program) (e : Env) (s : State) (m : MethodId) (below : List Frame) (meth : Method) (c : Code) (ls : Array Slot), p.tables.exec = Jvm.exec → c.code = cc → meth.sig.returnType = ret → (∀ w ∈ GW, w.before av.toArray s = true) → s.vm.findClass own = some m.cls → c.maxLocals = maxL → meth.locks = false → c.exceptionTable.toList = tableOf hh → cx G A s → (∀ q : Nat, s.heap.size ≤ q → A q) → Wd s.heap → lv_has ls maxL (lv_args 0 av) →
      W p l e rm s m av.toArray below meth c s.heap [] 0 0 (MQ below Qc av.toArray s mc ms free) (F0 m 0 ls [])) : Met l y (.codeWith y cc maxL ret hh :: GW) rm (PC G A av Wd) Qc mc ms free := by
  refine MetFree.of_bodyS (code := cc) (maxLocals := maxL) (ret := ret) hy ?_ ?_
  · intro args s m h hn
    obtain ⟨m9, meth, c, hn9, h1, h2, h3, h4, -, h5, h6, -⟩ := Cond.codeWith_spec (atoms_spec (ws := .codeWith y cc maxL ret hh :: GW) h _ List.mem_cons_self)
    cases hn.symm.trans hn9
    exact ⟨meth, c, h1, h2, h3, h4, h5, h6⟩
  · intro p e s m args below meth c s₁ B hml hP _
    have hh0 : s₁.heap = s.heap := by rw [B.state]; rfl
    have hts := atoms_spec (ws := .codeWith y cc maxL ret hh :: GW) B.pre
    obtain ⟨rfl, hC, hA, hW⟩ := hP
    have hl := lv_entry av (n := maxL) hn
    have hne : entryFrame m av.toArray maxL = F0 m 0 ((lg_sl av ++ List.replicate (maxL - (lg_sl av).length) Slot.unset).toArray) [] := by rw [lg_entry_eq]
    have K := body p e s m below meth c _ B.exec B.bytes B.returns (fun w h => hts w (List.mem_cons_of_mem _ h)) (by rw [← hown]; exact findClass_of_methodNamed B.named) hml B.notSynchronized (vx_table (x := y) B (hts _ List.mem_cons_self)) hC hA hW hl
    rw [hne]
    obtain ⟨t, a1, o, b1, b2, b3⟩ := K s₁ hh0 (Stand.of_body B)
    exact ⟨t, o, a1, b1, b2, b3⟩
theorem cI_V {P : Int32 → Heap → Prop} (S : CallFix p m c cc nL s args GW own) (hM : vx_Met l y ws rm (PC G A1 (.ref b :: As) Wd) (qI A1 P) (xE A1 PX1) mc1 ms1 A1) (cw : CallW R s args own C index y bytes maxL ret ws rm mc1 ms1 n) (hC : cx G A s) (hS : va_S A s.heap H locs) (hAA : ∀ q, A1 q → A q) (hA1 : ∀ q : Nat, H.size ≤ q → A1 q)
    (hr : ∃ cell : Cell, H[b]? = some cell ∧ cell.vm.isStatics = false ∧ s.vm.findClass C = some cell.cls) (hW : Wd H) (hst : st0 = As.reverse ++ .ref b :: rest) (hn : As.length = n) (hl : ls.size = nL) (hrm : (rest.map fun v => v.category).sum ≤ 8) (hf : cells + mc1 ≤ R.cells ∧ slots + ms1 ≤ R.slots) (hdg : decode cc pc = .ok (.invokevirtual index, 3))
    (kx : ∀ (E : String) (ce : Cell) (q9 : Addr) (H1 : Heap) (locs1 : List Loc), PX1 E H1 → kp A1 H H1 → va_S A s.heap H1 locs1 → H1[q9]? = some ce → ce.vm = .none → s.vm.findClass E = some ce.cls → vx_W p l e R s m args below meth c H1 locs1 (cells + mc1) (slots + ms1) Q (F0 m pc ls rest) q9)
    (kk : ∀ (r : Int32) (H1 : Heap) (locs1 : List Loc), P r H1 → kp A1 H H1 → va_S A s.heap H1 locs1 → W p l e R s m args below meth c H1 locs1 (cells + mc1) (slots + ms1) Q (F0 m (pc + 3) ls (.int r :: rest))) : W p l e R s m args below meth c H locs cells slots Q (F0 m pc ls st0) := by
  subst hst
  exact vx_calli (vx_runV (As := As) (rest := rest) (g := F0 m pc ls (As.reverse ++ .ref b :: rest)) S hM cw ⟨PC.blind, hr, PC.go hC hS hAA hA1 hW⟩ rfl hn hl rfl (lv_room hrm) hdg hf) hS (fun q _ h => hAA q h) hAA (fun q _ h => hAA q h)
    (fun E ce q9 u t H1 locs1 ht hvm _ hB hz hk hS1 h1 h2 h3 => kx E ce q9 H1 locs1 (show PX1 E H1 from ht ▸ hB) ⟨hz, hk⟩ hS1 h1 h2 h3)
    (fun r u t H1 locs1 ht _ hp hB hz hk hS1 => by subst hp; exact kk r H1 locs1 (show P r H1 from ht ▸ hB) ⟨hz, hk⟩ hS1)
theorem cR_V {P : Nat → Heap → Prop} (S : CallFix p m c cc nL s args GW own) (hM : vx_Met l y ws rm (PC G A1 (.ref b :: As) Wd) (qR A1 P) (xE A1 PX1) mc1 ms1 A1) (cw : CallW R s args own C index y bytes maxL ret ws rm mc1 ms1 n) (hC : cx G A s) (hS : va_S A s.heap H locs) (hAA : ∀ q, A1 q → A q) (hA1 : ∀ q : Nat, H.size ≤ q → A1 q)
    (hr : ∃ cell : Cell, H[b]? = some cell ∧ cell.vm.isStatics = false ∧ s.vm.findClass C = some cell.cls) (hW : Wd H) (hst : st0 = As.reverse ++ .ref b :: rest) (hn : As.length = n) (hl : ls.size = nL) (hrm : (rest.map fun v => v.category).sum ≤ 8) (hf : cells + mc1 ≤ R.cells ∧ slots + ms1 ≤ R.slots) (hdg : decode cc pc = .ok (.invokevirtual index, 3))
    (kx : ∀ (E : String) (ce : Cell) (q9 : Addr) (H1 : Heap) (locs1 : List Loc), PX1 E H1 → kp A1 H H1 → va_S A s.heap H1 locs1 → H1[q9]? = some ce → ce.vm = .none → s.vm.findClass E = some ce.cls → vx_W p l e R s m args below meth c H1 locs1 (cells + mc1) (slots + ms1) Q (F0 m pc ls rest) q9)
    (kk : ∀ (r : Nat) (H1 : Heap) (locs1 : List Loc), P r H1 → kp A1 H H1 → va_S A s.heap H1 locs1 → W p l e R s m args below meth c H1 locs1 (cells + mc1) (slots + ms1) Q (F0 m (pc + 3) ls (.ref r :: rest))) : W p l e R s m args below meth c H locs cells slots Q (F0 m pc ls st0) := by
  subst hst
  exact xcallr (vx_runV (As := As) (rest := rest) (g := F0 m pc ls (As.reverse ++ .ref b :: rest)) S hM cw ⟨PC.blind, hr, PC.go hC hS hAA hA1 hW⟩ rfl hn hl rfl (lv_room hrm) hdg hf) hS (fun q _ h => hAA q h) hAA (fun q _ h => hAA q h)
    (fun E ce q9 u t H1 locs1 ht hvm _ hB hz hk hS1 h1 h2 h3 => kx E ce q9 H1 locs1 (show PX1 E H1 from ht ▸ hB) ⟨hz, hk⟩ hS1 h1 h2 h3)
    (fun u r t H1 locs1 ht _ _ hB hz hk hS1 => kk r H1 locs1 (show P r H1 from ht ▸ hB) ⟨hz, hk⟩ hS1)
/-- a static call of a body with handlers -/
theorem qI_SW {P : Int32 → Heap → Prop} {hh : List (Nat × Nat × Nat × Nat)} (S : CallFix p m c cc nL s args GW own) (hM : Met l y ws rm (PC G A1 As Wd) (qI A1 P) mc ms A1) (cw : vx_CSW R s args own index y bytes maxL ret hh ws rm mc ms n) (hC : cx G A s) (hS : va_S A s.heap H locs) (hAA : ∀ q, A1 q → A q) (hA1 : ∀ q : Nat, H.size ≤ q → A1 q)
    (hW : Wd H) (hst : st0 = As.reverse ++ rest) (hn : As.length = n) (hl : ls.size = nL) (hrm : (rest.map fun v => v.category).sum ≤ 8) (hf : cells + mc ≤ R.cells ∧ slots + ms ≤ R.slots) (hdg : decode cc pc = .ok (.invokestatic index, 3))
    (kk : ∀ (r : Int32) (H1 : Heap) (locs1 : List Loc), P r H1 → kp A1 H H1 → va_S A s.heap H1 locs1 → W p l e R s m args below meth c H1 locs1 (cells + mc) (slots + ms) Q (F0 m (pc + 3) ls (.int r :: rest))) : W p l e R s m args below meth c H locs cells slots Q (F0 m pc ls st0) := by
  subst hst
  exact va_calli (vx_runSW (As := As) (rest := rest) (g := F0 m pc ls (As.reverse ++ rest)) S hM cw ⟨PC.blind, PC.go hC hS hAA hA1 hW⟩ rfl hn hl rfl (lv_room hrm) hdg hf) hS (fun q _ h => hAA q h) hAA (fun r u t H1 locs1 ht _ hp hB hz hk hS1 => by subst hp; exact kk r H1 locs1 (show P r H1 from ht ▸ hB) ⟨hz, hk⟩ hS1)
theorem gSW {own : String} {index n : Nat} {y : MethodName} {cc : ByteArray} {r : Option FieldType} {hh : List (Nat × Nat × Nat × Nat)} (h1 : Cond.methodLink own index y ∈ GW) (h2 : Cond.static y ∈ GW) (h4 : Cond.initialized y.cls ∈ GW) (h5 : Cond.codeWith y cc n r hh ∈ GW) : GoodIn GW (va_wsS own index y (.codeWith y cc n r hh :: GW)) := by
  intro w hw
  unfold va_wsS at hw
  rcases List.mem_append.mp hw with h | h
  · simp only [List.mem_cons, List.not_mem_nil, or_false] at h
    rcases h with rfl | rfl | rfl
    · exact good_gw h1
    · exact good_gw h2
    · exact good_gw h4
  · rcases List.mem_cons.mp h with rfl | h
    · exact good_gw h5
    · exact good_gw h
end LAW1
theorem xw_io : Cond.castable "java/lang/IndexOutOfBoundsException" "java/lang/IndexOutOfBoundsException" ∈ XW := xw_at tin_3 10 rfl rfl
theorem xw_ia : Cond.castable "java/lang/IllegalArgumentException" "java/lang/IllegalArgumentException" ∈ XW := xw_at tin_2 138 rfl rfl
theorem xw_is : Cond.castable "java/lang/IllegalStateException" "java/lang/IllegalStateException" ∈ XW := xw_at tin_3 41 rfl rfl
