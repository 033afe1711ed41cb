/-! OWN LAYER, 7: methods that throw -/
def exN : List String := ["java/lang/RuntimeException", "java/lang/Exception"]
theorem tA76 : ∀ w ∈ (vx_at0 "Signtext" 76 "java/lang/IndexOutOfBoundsException" exN).filter goodWord, w ∈ GW := by decide +kernel
theorem tB76 : ∀ w ∈ (vx_at0 "Signtext" 76 "java/lang/IndexOutOfBoundsException" exN).filter (fun w => !goodWord w), w ∈ XW := by decide +kernel
theorem tG76 : ∀ w ∈ Cond.classLink "Signtext" 74 "java/lang/IndexOutOfBoundsException" :: Cond.initialized "java/lang/IndexOutOfBoundsException" :: vx_at0 "Signtext" 76 "java/lang/IndexOutOfBoundsException" exN, vx_ot w = true := by decide +kernel
theorem tA83 : ∀ w ∈ (vx_at0 "Signtext" 83 "java/lang/IllegalArgumentException" exN).filter goodWord, w ∈ GW := by decide +kernel
theorem tB83 : ∀ w ∈ (vx_at0 "Signtext" 83 "java/lang/IllegalArgumentException" exN).filter (fun w => !goodWord w), w ∈ XW := by decide +kernel
theorem tG83 : ∀ w ∈ Cond.classLink "Signtext" 81 "java/lang/IllegalArgumentException" :: Cond.initialized "java/lang/IllegalArgumentException" :: vx_at0 "Signtext" 83 "java/lang/IllegalArgumentException" exN, vx_ot w = true := by decide +kernel
theorem tA234 : ∀ w ∈ (vx_at0 "Signtext" 234 "java/lang/IllegalStateException" exN).filter goodWord, w ∈ GW := by decide +kernel
theorem tB234 : ∀ w ∈ (vx_at0 "Signtext" 234 "java/lang/IllegalStateException" exN).filter (fun w => !goodWord w), w ∈ XW := by decide +kernel
theorem tG234 : ∀ w ∈ Cond.classLink "Signtext" 232 "java/lang/IllegalStateException" :: Cond.initialized "java/lang/IllegalStateException" :: vx_at0 "Signtext" 234 "java/lang/IllegalStateException" exN, vx_ot w = true := by decide +kernel
/-- where it throws: the exception's class, and the heap behind it -/
def xE (A : Nat → Prop) (PX : String → Heap → Prop) : String → State → State → Prop := vx_X (fun _ : Unit => True) (fun E _ t => PX E t.heap) A
theorem mstartX {l : Launch} {y : MethodName} {rm : Room} {G : Cx} {A : Nat → Prop} {av : List Value} {Wd : Heap → Prop} {Qc : Array Value → State → Outcome → State → Prop} {XC : String → State → State → Prop} {mc ms : Nat} {free : Addr → Prop} {cc : ByteArray} {maxL : Nat} {ret : Option FieldType} (own : String) (hy : plainName y.cls = true) (hown : y.cls = own) (hn : (lg_sl av).length ≤ maxL)
    (body : ∀ (p : Program) (e : Env) (s : State) (m : MethodId) (below : List Frame) (meth : Method) (c : Code) (ls : Array Slot), p.tables.exec = Jvm.exec → c.code = cc → meth.sig.returnType = ret → (∀ w ∈ GW, w.before av.toArray s = true) → s.vm.findClass own = some m.cls → c.maxLocals = maxL → meth.locks = false → (∀ x ∈ c.exceptionTable.toList, False) → cx G A s → (∀ q : Nat, s.heap.size ≤ q → A q) → Wd s.heap → lv_has ls maxL (lv_args 0 av) →
      W p l e rm s m av.toArray below meth c s.heap [] 0 0 (vx_MQ below Qc XC av.toArray s mc ms free) (F0 m 0 ls [])) : vx_Met l y (.code y cc maxL ret :: GW) rm (PC G A av Wd) Qc XC mc ms free := by
  refine vx_ofW (cc := cc) (maxL := maxL) (ret := ret) hy rfl ?_
  intro p e s m args below meth c s₁ B hml hnx hv
  obtain ⟨rfl, hC, hA, hW⟩ := hv
  have hts := atoms_spec (ws := .code y cc maxL ret :: GW) B.pre
  have hl := lv_entry av (n := maxL) hn
  have hne : entryFrame m av.toArray maxL = F0 m 0 ((lg_sl av ++ List.replicate (maxL - (lg_sl av).length) Slot.unset).toArray) [] := by rw [lg_entry_eq]
  rw [hne]
  exact body p e s m below meth c _ B.exec B.bytes B.returns (fun w h => hts w (List.mem_cons_of_mem _ h)) (by rw [← hown]; exact findClass_of_methodNamed B.named) hml B.notSynchronized hnx hC hA hW hl
theorem xE_wk {A : Nat → Prop} {PX : String → Heap → Prop} {E : String} {s t : State} {H : Heap} {locs : List Loc} (hS : va_S A s.heap H locs) (ht : t.heap = H) (h : PX E H) : xE A PX E s t := ⟨(), trivial, show PX E t.heap from ht ▸ h, hS.F ht⟩
section XR
variable {p : Program} {l : Launch} {e : Env} {R : Room} {s : State} {m : MethodId} {args : Array Value} {below : List Frame} {meth : Method} {c : Code} {H : Heap} {locs : List Loc} {cells slots : Nat}
variable {cc bytes : ByteArray} {pc nL maxL index n mc ms mc1 ms1 : Nat} {ls : Array Slot} {rest st0 : List Value} {G : Cx} {A A1 : Nat → Prop} {own C : String} {y : MethodName} {ret : Option FieldType} {ws : List Cond} {rm : Room} {b : Nat} {As : List Value} {Wd : Heap → Prop} {PX PX1 : String → Heap → Prop} {Qc : Array Value → State → Outcome → State → Prop}
/-- 'throw new E()' -/
theorem t_new {cls : String} {ik ic : Nat} (hx : p.tables.exec = Jvm.exec) (hb : c.code = cc) (hst : l.stackTraces = false) (hown : s.vm.findClass "Signtext" = some m.cls) (hts : ∀ w ∈ GW, w.before args s = true) (hC : cx G A s) (hS : va_S A s.heap H locs) (hls : ls.size = nL) (hml : c.maxLocals = nL) (hcls : Bundle.fit cls = true) (hk : Cond.classLink "Signtext" ik cls ∈ GW) (hi : Cond.initialized cls ∈ GW)
    (tA : ∀ w ∈ (vx_at0 "Signtext" ic cls exN).filter goodWord, w ∈ GW) (tB : ∀ w ∈ (vx_at0 "Signtext" ic cls exN).filter (fun w => !goodWord w), w ∈ XW) (tG : ∀ w ∈ Cond.classLink "Signtext" ik cls :: Cond.initialized cls :: vx_at0 "Signtext" ic cls exN, vx_ot w = true)
    (hnx : ∀ x ∈ c.exceptionTable.toList, False) (hlocks : meth.locks = false) (hRf : 5 < R.frames) (hRl : (rest.map fun v => v.category).sum + 81 ≤ R.locals) (hRc : cells + 1 ≤ R.cells) (hRs : slots + 6 ≤ R.slots) (hc : cells + 1 ≤ mc) (hs : slots + 6 ≤ ms)
    (d0 : decode cc pc = .ok (.new ik, 3)) (d3 : decode cc (pc + 3) = .ok (.dup, 1)) (d4 : decode cc (pc + 4) = .ok (.invokespecial ic, 3)) (d7 : decode cc (pc + 7) = .ok (.athrow, 1)) (hPX : ∀ H1 : Heap, kp (nw H.size) H H1 → PX cls H1) :
    W p l e R s m args below meth c H locs cells slots (vx_MQ below Qc (xE A PX) args s mc ms A) (F0 m pc ls rest) := by
  have hz := hC.2.2.1
  obtain ⟨z1, z2, z3, z4, z5, z6, z7, z8, z9, z10, z11, z12, z13⟩ := hz
  have hxw : xWs s := hC.2.2.2.2.2.2.2.2.2.2.2.1
  refine vx_throw0 (names := exN) hx hb hst hown hcls (by decide +kernel) (hts _ hk) (hts _ hi) (vx_hat (B := XW) (fun w h => hts _ (tA w h)) tB (fun w h => hxw.use h)) tG z12 z13 hS (hls.trans hml.symm) d0 d3 d4 d7 (fun x h => (hnx x h).elim) hRf hRl hRc hRs hlocks (fun t hvm h1 h2 => ⟨(), trivial, hPX _ ⟨h1, fun q a _ => h2 q a⟩, Nat.le_trans hS.1 h1, fun q a b => (h2 q (Nat.lt_of_lt_of_le a hS.1)).trans (hS.2.1 q a b)⟩) hS.2.2 hc hs
/-- calls whose exceptions go on to the caller -/
theorem xV_V {P : Heap → Prop} (S : CallFix p m c cc nL s args GW own) (hM : vx_Met l y ws rm (PC G A1 (.ref b :: As) Wd) (qV A1 P) (xE A1 PX1) mc1 ms1 A1) (cw : CallW R s args own C index y bytes maxL ret ws rm mc1 ms1 n) (hC : cx G A s) (hS : va_S A s.heap H locs) (hAA : ∀ q, A1 q → A q) (hA1 : ∀ q : Nat, H.size ≤ q → A1 q)
    (hr : ∃ cell : Cell, H[b]? = some cell ∧ cell.vm.isStatics = false ∧ s.vm.findClass C = some cell.cls) (hW : Wd H) (hst : st0 = As.reverse ++ .ref b :: rest) (hn : As.length = n) (hl : ls.size = nL) (hrm : (rest.map fun v => v.category).sum ≤ 8) (hf : cells + mc1 ≤ R.cells ∧ slots + ms1 ≤ R.slots) (hdg : decode cc pc = .ok (.invokevirtual index, 3))
    (hnx : ∀ x ∈ c.exceptionTable.toList, False) (hlocks : meth.locks = false) (hc : cells + mc1 ≤ mc) (hs : slots + ms1 ≤ ms) (hPX : ∀ (E : String) (H1 : Heap), PX1 E H1 → kp A1 H H1 → PX E H1)
    (kk : ∀ (H1 : Heap) (locs1 : List Loc), P H1 → kp A1 H H1 → va_S A s.heap H1 locs1 → W p l e R s m args below meth c H1 locs1 (cells + mc1) (slots + ms1) (vx_MQ below Qc (xE A PX) args s mc ms A) (F0 m (pc + 3) ls rest)) : W p l e R s m args below meth c H locs cells slots (vx_MQ below Qc (xE A PX) args s mc ms A) (F0 m pc ls st0) := by
  subst hst
  exact vx_callv (vx_runV (As := As) (rest := rest) (g := F0 m pc ls (As.reverse ++ .ref b :: rest)) S hM cw ⟨PC.blind, hr, PC.go hC hS hAA hA1 hW⟩ rfl hn hl rfl (lv_room hrm) hdg hf) hS (fun q _ h => hAA q h) hAA (fun q _ h => hAA q h)
    (fun E ce q9 u t H1 locs1 ht hvm _ hB hz hk hS1 h1 h2 h3 => vx_out (fun x h => (hnx x h).elim) hlocks h1 h2 h3 (fun t9 ht9 _ => xE_wk hS1 ht9 (hPX E H1 (show PX1 E H1 from ht ▸ hB) ⟨hz, hk⟩)) hS1.2.2 hc hs)
    (fun u t H1 locs1 ht _ _ hB hz hk hS1 => kk H1 locs1 (show P H1 from ht ▸ hB) ⟨hz, hk⟩ hS1)
theorem xI_V {P : Int32 → Heap → Prop} (S : CallFix p m c cc nL s args GW own) (hM : vx_Met l y ws rm (PC G A1 (.ref b :: As) Wd) (qI A1 P) (xE A1 PX1) mc1 ms1 A1) (cw : CallW R s args own C index y bytes maxL ret ws rm mc1 ms1 n) (hC : cx G A s) (hS : va_S A s.heap H locs) (hAA : ∀ q, A1 q → A q) (hA1 : ∀ q : Nat, H.size ≤ q → A1 q)
    (hr : ∃ cell : Cell, H[b]? = some cell ∧ cell.vm.isStatics = false ∧ s.vm.findClass C = some cell.cls) (hW : Wd H) (hst : st0 = As.reverse ++ .ref b :: rest) (hn : As.length = n) (hl : ls.size = nL) (hrm : (rest.map fun v => v.category).sum ≤ 8) (hf : cells + mc1 ≤ R.cells ∧ slots + ms1 ≤ R.slots) (hdg : decode cc pc = .ok (.invokevirtual index, 3))
    (hnx : ∀ x ∈ c.exceptionTable.toList, False) (hlocks : meth.locks = false) (hc : cells + mc1 ≤ mc) (hs : slots + ms1 ≤ ms) (hPX : ∀ (E : String) (H1 : Heap), PX1 E H1 → kp A1 H H1 → PX E H1)
    (kk : ∀ (r : Int32) (H1 : Heap) (locs1 : List Loc), P r H1 → kp A1 H H1 → va_S A s.heap H1 locs1 → W p l e R s m args below meth c H1 locs1 (cells + mc1) (slots + ms1) (vx_MQ below Qc (xE A PX) args s mc ms A) (F0 m (pc + 3) ls (.int r :: rest))) : W p l e R s m args below meth c H locs cells slots (vx_MQ below Qc (xE A PX) args s mc ms A) (F0 m pc ls st0) := by
  subst hst
  exact vx_calli (vx_runV (As := As) (rest := rest) (g := F0 m pc ls (As.reverse ++ .ref b :: rest)) S hM cw ⟨PC.blind, hr, PC.go hC hS hAA hA1 hW⟩ rfl hn hl rfl (lv_room hrm) hdg hf) hS (fun q _ h => hAA q h) hAA (fun q _ h => hAA q h)
    (fun E ce q9 u t H1 locs1 ht hvm _ hB hz hk hS1 h1 h2 h3 => vx_out (fun x h => (hnx x h).elim) hlocks h1 h2 h3 (fun t9 ht9 _ => xE_wk hS1 ht9 (hPX E H1 (show PX1 E H1 from ht ▸ hB) ⟨hz, hk⟩)) hS1.2.2 hc hs)
    (fun r u t H1 locs1 ht _ hp hB hz hk hS1 => by subst hp; exact kk r H1 locs1 (show P r H1 from ht ▸ hB) ⟨hz, hk⟩ hS1)
theorem xV_S {P : Heap → Prop} (S : CallFix p m c cc nL s args GW own) (hM : vx_Met l y ws rm (PC G A1 As Wd) (qV A1 P) (xE A1 PX1) mc1 ms1 A1) (cw : CallB R s args own index y bytes maxL ret ws rm mc1 ms1 n ∧ (Cond.static y).before args s = true) (hC : cx G A s) (hS : va_S A s.heap H locs) (hAA : ∀ q, A1 q → A q) (hA1 : ∀ q : Nat, H.size ≤ q → A1 q)
    (hW : Wd H) (hst : st0 = As.reverse ++ rest) (hn : As.length = n) (hl : ls.size = nL) (hrm : (rest.map fun v => v.category).sum ≤ 8) (hf : cells + mc1 ≤ R.cells ∧ slots + ms1 ≤ R.slots) (hdg : decode cc pc = .ok (.invokestatic index, 3))
    (hnx : ∀ x ∈ c.exceptionTable.toList, False) (hlocks : meth.locks = false) (hc : cells + mc1 ≤ mc) (hs : slots + ms1 ≤ ms) (hPX : ∀ (E : String) (H1 : Heap), PX1 E H1 → kp A1 H H1 → PX E H1)
    (kk : ∀ (H1 : Heap) (locs1 : List Loc), P H1 → kp A1 H H1 → va_S A s.heap H1 locs1 → W p l e R s m args below meth c H1 locs1 (cells + mc1) (slots + ms1) (vx_MQ below Qc (xE A PX) args s mc ms A) (F0 m (pc + 3) ls rest)) : W p l e R s m args below meth c H locs cells slots (vx_MQ below Qc (xE A PX) args s mc ms A) (F0 m pc ls st0) := by
  subst hst
  exact vx_callv (vx_runS (As := As) (rest := rest) (g := F0 m pc ls (As.reverse ++ rest)) S hM cw ⟨PC.blind, PC.go hC hS hAA hA1 hW⟩ rfl hn hl rfl (lv_room hrm) hdg hf) hS (fun q _ h => hAA q h) hAA (fun q _ h => hAA q h)
    (fun E ce q9 u t H1 locs1 ht hvm _ hB hz hk hS1 h1 h2 h3 => vx_out (fun x h => (hnx x h).elim) hlocks h1 h2 h3 (fun t9 ht9 _ => xE_wk hS1 ht9 (hPX E H1 (show PX1 E H1 from ht ▸ hB) ⟨hz, hk⟩)) hS1.2.2 hc hs)
    (fun u t H1 locs1 ht _ _ hB hz hk hS1 => kk H1 locs1 (show P H1 from ht ▸ hB) ⟨hz, hk⟩ hS1)
theorem xI_S {P : Int32 → Heap → Prop} (S : CallFix p m c cc nL s args GW own) (hM : vx_Met l y ws rm (PC G A1 As Wd) (qI A1 P) (xE A1 PX1) mc1 ms1 A1) (cw : CallB R s args own index y bytes maxL ret ws rm mc1 ms1 n ∧ (Cond.static y).before args s = true) (hC : cx G A s) (hS : va_S A s.heap H locs) (hAA : ∀ q, A1 q → A q) (hA1 : ∀ q : Nat, H.size ≤ q → A1 q)
    (hW : Wd H) (hst : st0 = As.reverse ++ rest) (hn : As.length = n) (hl : ls.size = nL) (hrm : (rest.map fun v => v.category).sum ≤ 8) (hf : cells + mc1 ≤ R.cells ∧ slots + ms1 ≤ R.slots) (hdg : decode cc pc = .ok (.invokestatic index, 3))
    (hnx : ∀ x ∈ c.exceptionTable.toList, False) (hlocks : meth.locks = false) (hc : cells + mc1 ≤ mc) (hs : slots + ms1 ≤ ms) (hPX : ∀ (E : String) (H1 : Heap), PX1 E H1 → kp A1 H H1 → PX E H1)
    (kk : ∀ (r : Int32) (H1 : Heap) (locs1 : List Loc), P r H1 → kp A1 H H1 → va_S A s.heap H1 locs1 → W p l e R s m args below meth c H1 locs1 (cells + mc1) (slots + ms1) (vx_MQ below Qc (xE A PX) args s mc ms A) (F0 m (pc + 3) ls (.int r :: rest))) : W p l e R s m args below meth c H locs cells slots (vx_MQ below Qc (xE A PX) args s mc ms A) (F0 m pc ls st0) := by
  subst hst
  exact vx_calli (vx_runS (As := As) (rest := rest) (g := F0 m pc ls (As.reverse ++ rest)) S hM cw ⟨PC.blind, PC.go hC hS hAA hA1 hW⟩ rfl hn hl rfl (lv_room hrm) hdg hf) hS (fun q _ h => hAA q h) hAA (fun q _ h => hAA q h)
    (fun E ce q9 u t H1 locs1 ht hvm _ hB hz hk hS1 h1 h2 h3 => vx_out (fun x h => (hnx x h).elim) hlocks h1 h2 h3 (fun t9 ht9 _ => xE_wk hS1 ht9 (hPX E H1 (show PX1 E H1 from ht ▸ hB) ⟨hz, hk⟩)) hS1.2.2 hc hs)
    (fun r u t H1 locs1 ht _ hp hB hz hk hS1 => by subst hp; exact kk r H1 locs1 (show P r H1 from ht ▸ hB) ⟨hz, hk⟩ hS1)
/-- a reference, or an exception -/
theorem xcallr {S SX : Type} {H0 : Heap} {A0 AX : Nat → Prop} {Q : State → Prop} {free : Addr → Prop} {a : Array Value} {post : S → Prop} {px : SX → Prop} {B : S → Nat → State → Prop} {BX : String → SX → State → Prop} (hr : vx_Run p l e R s m args below meth c H locs cells slots mc ms (F0 m pc ls st0) rest (va_Qr post B A1 a) (vx_X px BX AX) free) (hS : va_S A0 H0 H locs) (hA : ∀ q, q < H.size → A1 q → A0 q) (hf : ∀ q, free q → A0 q) (hAX : ∀ q, q < H.size → AX q → A0 q)
    (kx : ∀ (E : String) (ce : Cell) (q9 : Addr) (u : SX) (t : State) (H1 : Heap) (locs1 : List Loc), t.heap = H1 → s.vm.Alike t.vm → px u → BX E u t → H.size ≤ H1.size → (∀ q : Nat, q < H.size → ¬ AX q → H1[q]? = H[q]?) → va_S A0 H0 H1 locs1 → H1[q9]? = some ce → ce.vm = .none → s.vm.findClass E = some ce.cls → vx_W p l e R s m args below meth c H1 locs1 (cells + mc) (slots + ms) Q (F0 m pc ls rest) q9)
    (kk : ∀ (u : S) (r : Nat) (t : State) (H1 : Heap) (locs1 : List Loc), t.heap = H1 → s.vm.Alike t.vm → post u → B u r t → H.size ≤ H1.size → (∀ q : Nat, q < H.size → ¬ A1 q → H1[q]? = H[q]?) → va_S A0 H0 H1 locs1 → W p l e R s m args below meth c H1 locs1 (cells + mc) (slots + ms) Q (F0 m (pc + 3) ls (.ref r :: rest))) : W p l e R s m args below meth c H locs cells slots Q (F0 m pc ls st0) := by
  intro T hT X
  rcases hr T hT X with ⟨v, st₀, t, T', L, h0, X', hL, e1, e2, ⟨⟨u, r, hv, hp, hb⟩, hF⟩, st⟩ | ⟨q, st₀, t, T', L, E, ce, h0, X', hL, e1, e2, ⟨u, hp, hb, hF⟩, hce, hcv, hcl, st⟩
  · cases hv
    obtain ⟨k1, k2, k3⟩ := vx_keep h0 e1 hS hA hf hL hF
    obtain ⟨t2, a1, b1⟩ := kk u r t T'.heap (locs ++ L) e1.symm (by rw [← e2]; exact X'.warmed.alike) hp hb k1 k2 k3 T' rfl X'
    exact ⟨t2, st t2 a1, b1⟩
  · obtain ⟨k1, k2, k3⟩ := vx_keep h0 e1 hS hAX hf hL hF
    obtain ⟨t2, a1, b1⟩ := kx E ce q u t T'.heap (locs ++ L) e1.symm (by rw [← e2]; exact X'.warmed.alike) hp hb k1 k2 k3 (by rw [e1]; exact hce) hcv hcl T' rfl X'
    exact ⟨t2, st.trans a1, b1⟩
theorem xR_V {P : Nat → Heap → Prop} (S : CallFix p m c cc nL s args GW own) (hM : vx_Met l y ws rm (PC G A1 (.ref b :: As) Wd) (qR A1 P) (xE A1 PX1) mc1 ms1 A1) (cw : CallW R s args own C index y bytes maxL ret ws rm mc1 ms1 n) (hC : cx G A s) (hS : va_S A s.heap H locs) (hAA : ∀ q, A1 q → A q) (hA1 : ∀ q : Nat, H.size ≤ q → A1 q)
    (hr : ∃ cell : Cell, H[b]? = some cell ∧ cell.vm.isStatics = false ∧ s.vm.findClass C = some cell.cls) (hW : Wd H) (hst : st0 = As.reverse ++ .ref b :: rest) (hn : As.length = n) (hl : ls.size = nL) (hrm : (rest.map fun v => v.category).sum ≤ 8) (hf : cells + mc1 ≤ R.cells ∧ slots + ms1 ≤ R.slots) (hdg : decode cc pc = .ok (.invokevirtual index, 3))
    (hnx : ∀ x ∈ c.exceptionTable.toList, False) (hlocks : meth.locks = false) (hc : cells + mc1 ≤ mc) (hs : slots + ms1 ≤ ms) (hPX : ∀ (E : String) (H1 : Heap), PX1 E H1 → kp A1 H H1 → PX E H1)
    (kk : ∀ (r : Nat) (H1 : Heap) (locs1 : List Loc), P r H1 → kp A1 H H1 → va_S A s.heap H1 locs1 → W p l e R s m args below meth c H1 locs1 (cells + mc1) (slots + ms1) (vx_MQ below Qc (xE A PX) args s mc ms A) (F0 m (pc + 3) ls (.ref r :: rest))) : W p l e R s m args below meth c H locs cells slots (vx_MQ below Qc (xE A PX) args s mc ms A) (F0 m pc ls st0) := by
  subst hst
  exact xcallr (vx_runV (As := As) (rest := rest) (g := F0 m pc ls (As.reverse ++ .ref b :: rest)) S hM cw ⟨PC.blind, hr, PC.go hC hS hAA hA1 hW⟩ rfl hn hl rfl (lv_room hrm) hdg hf) hS (fun q _ h => hAA q h) hAA (fun q _ h => hAA q h)
    (fun E ce q9 u t H1 locs1 ht hvm _ hB hz hk hS1 h1 h2 h3 => vx_out (fun x h => (hnx x h).elim) hlocks h1 h2 h3 (fun t9 ht9 _ => xE_wk hS1 ht9 (hPX E H1 (show PX1 E H1 from ht ▸ hB) ⟨hz, hk⟩)) hS1.2.2 hc hs)
    (fun u r t H1 locs1 ht _ _ hB hz hk hS1 => kk r H1 locs1 (show P r H1 from ht ▸ hB) ⟨hz, hk⟩ hS1)
end XR
