/-! The model, 21: digest -/
section FI
variable {p : Program} {l : Launch} {e : Env} {R : Room} {s : State} {m : MethodId} {args : Array Value} {below : List Frame} {meth : Method} {c : Code} {H H1 : Heap} {locs : List Loc} {cells slots : Nat} {Q : State → Prop}
variable {cc bytes : ByteArray} {pc nL maxL index n mc ms count : Nat} {ls : Array Slot} {rest st0 : List Value} {G : Cx} {A A1 B : Nat → Prop} {own C : String} {cC : ClassId} {x y : MethodName} {ret : Option FieldType} {ws : List Cond} {rm : Room} {b a : Nat} {As : List Value} {Wd : Heap → Prop}
theorem gF {own C : String} {index n : Nat} {x y : MethodName} {cc : ByteArray} {r : Option FieldType} (h1 : Cond.methodLink own index x ∈ GW) (h2 : Cond.selects C x y ∈ GW) (h3 : Cond.instanceMethod y ∈ GW) (h4 : Cond.initialized y.cls ∈ GW) (h5 : Cond.code y cc n r ∈ GW) : GoodIn GW (va_wsF own index C x y (.code y cc n r :: GW)) := by
  intro w hw
  unfold va_wsF at hw
  rcases List.mem_append.mp hw with h | h
  · simp only [List.mem_cons, List.not_mem_nil, or_false] at h
    rcases h with rfl | rfl | rfl | rfl
    · exact good_gw h1
    · exact good_gw h2
    · exact good_gw h3
    · exact good_gw h4
  · exact gI h5 w h
theorem kF_i {post : Int32 → Prop} (hat : ClassAt s C cC) (S : CallFix p m c cc nL s args GW own) (hM : Met l y ws rm (PC G A (.ref b :: As) Wd) (vp_Si post) 0 0 (fun _ => False)) (cw : va_CI R s args own C index x y bytes maxL ret ws rm 0 0 n) (hC : cx G A s) (hS : va_S A s.heap H locs) (hA : ∀ q : Nat, s.heap.size ≤ q → A q)
    (hr : ∃ cell : Cell, H[b]? = some cell ∧ cell.vm.isStatics = false ∧ s.vm.findClass C = some cell.cls) (hW : Wd H) (hst : st0 = As.reverse ++ .ref b :: rest) (hn : As.length = n) (hl : ls.size = nL) (hrm : (rest.map fun v => v.category).sum ≤ 8) (hf : cells ≤ R.cells ∧ slots ≤ R.slots) (hdg : decode cc pc = .ok (.invokeinterface index count, 5))
    (kk : ∀ r : Int32, post r → W p l e R s m args below meth c H locs cells slots Q (F0 m (pc + 5) ls (.int r :: rest))) : W p l e R s m args below meth c H locs cells slots Q (F0 m pc ls st0) := by
  subst hst
  exact va_csFi (va_runF (As := As) (rest := rest) (g := F0 m pc ls (As.reverse ++ .ref b :: rest)) hat S hM cw ⟨PC.blind, hr, PC.go hC hS (fun _ z => z) (fun q h => hA q (Nat.le_trans hS.1 h)) hW⟩ rfl hn hl rfl (lv_room hrm) hdg hf) kk
theorem qR_F {P : Nat → Heap → Prop} (hat : ClassAt s C cC) (S : CallFix p m c cc nL s args GW own) (hM : Met l y ws rm (PC G A1 (.ref b :: As) Wd) (qR A1 P) mc ms A1) (cw : va_CI R s args own C index x y bytes maxL ret ws rm mc ms n) (hC : cx G A s) (hS : va_S A s.heap H locs) (hAA : ∀ q, A1 q → A q) (hA1 : ∀ q : Nat, H.size ≤ q → A1 q)
    (hr : ∃ cell : Cell, H[b]? = some cell ∧ cell.vm.isStatics = false ∧ s.vm.findClass C = some cell.cls) (hW : Wd H) (hst : st0 = As.reverse ++ .ref b :: rest) (hn : As.length = n) (hl : ls.size = nL) (hrm : (rest.map fun v => v.category).sum ≤ 8) (hf : cells + mc ≤ R.cells ∧ slots + ms ≤ R.slots) (hdg : decode cc pc = .ok (.invokeinterface index count, 5))
    (kk : ∀ (a : Nat) (H1 : Heap) (locs1 : List Loc), P a H1 → kp A1 H H1 → va_S A s.heap H1 locs1 → W p l e R s m args below meth c H1 locs1 (cells + mc) (slots + ms) Q (F0 m (pc + 5) ls (.ref a :: rest))) : W p l e R s m args below meth c H locs cells slots Q (F0 m pc ls st0) := by
  subst hst
  exact va_callFr (va_runF (As := As) (rest := rest) (g := F0 m pc ls (As.reverse ++ .ref b :: rest)) hat S hM cw ⟨PC.blind, hr, PC.go hC hS hAA hA1 hW⟩ rfl hn hl rfl (lv_room hrm) hdg hf) hS (fun q _ h => hAA q h) hAA (fun u a t H1 locs1 ht _ _ hB hz hk hS1 => kk a H1 locs1 (show P a H1 from ht ▸ hB) ⟨hz, hk⟩ hS1)
end FI
theorem MWx_it {G : Cx} {A : Nat → Prop} {am xa : Nat} {X : Nat → List Nat} {P : List (List Nat)} {k th : Int32} {H : Heap} {ra pa : Nat} {tx : Nat → Nat} (h : MWx G A am xa ra pa tx X P k th H) : ∃ (md : Int32) (ed : Nat), va_at G.1 vwCl (pa, .inr (3, [.int md, .ref ed, .int (nI P.length)])) H ∧ ∀ j : Nat, j < P.length → ∃ (cap : Nat) (f : Nat → Option Nat) (q : Nat), va_at G.1 vwCl (ed, .inl (G.2.1 5, cap, .inr (.inr (.inr (.inr f))))) H ∧ P.length ≤ cap ∧ cap < 2 ^ 20 ∧ f j = some q ∧ IA0 G q (P.getD j []) H := by
  obtain ⟨h0, ⟨e, md, h9⟩ | ⟨md, ed, cap, f, pe, h1, h2, h3, h4, h5, h6⟩⟩ := h.2.2.2.2.2.2.2.2.2.2.2
  · subst e; exact ⟨md, _, h9, fun j hj => absurd hj (Nat.not_lt_zero j)⟩
  · exact ⟨md, ed, h1, fun j hj => ⟨cap, f, pe j, h2, h4, h5, (h6 j hj).1, (h6 j hj).2.1⟩⟩
theorem dX4_add_0 : decode cX4_add 0 = .ok (.lload_n 0, 1) := by decide +kernel
theorem dX4_add_1 : decode cX4_add 1 = .ok (.ldc2_w 185, 3) := by decide +kernel
theorem dX4_add_4 : decode cX4_add 4 = .ok (.lmul, 1) := by decide +kernel
theorem dX4_add_5 : decode cX4_add 5 = .ok (.lload_n 2, 1) := by decide +kernel
theorem dX4_add_6 : decode cX4_add 6 = .ok (.ladd, 1) := by decide +kernel
theorem dX4_add_7 : decode cX4_add 7 = .ok (.lreturn, 1) := by decide +kernel
theorem dX4_digest_0 : decode cX4_digest 0 = .ok (.aload_n 0, 1) := by decide +kernel
theorem dX4_digest_1 : decode cX4_digest 1 = .ok (.iconst 0, 1) := by decide +kernel
theorem dX4_digest_2 : decode cX4_digest 2 = .ok (.putfield 82, 3) := by decide +kernel
theorem dX4_digest_5 : decode cX4_digest 5 = .ok (.ldc2_w 187, 3) := by decide +kernel
theorem dX4_digest_8 : decode cX4_digest 8 = .ok (.lstore_n 1, 1) := by decide +kernel
theorem dX4_digest_9 : decode cX4_digest 9 = .ok (.iconst 0, 1) := by decide +kernel
theorem dX4_digest_10 : decode cX4_digest 10 = .ok (.istore_n 3, 1) := by decide +kernel
theorem dX4_digest_11 : decode cX4_digest 11 = .ok (.iload_n 3, 1) := by decide +kernel
theorem dX4_digest_12 : decode cX4_digest 12 = .ok (.iconst 5, 1) := by decide +kernel
theorem dX4_digest_13 : decode cX4_digest 13 = .ok (.if_icmp .ge 20, 3) := by decide +kernel
theorem dX4_digest_16 : decode cX4_digest 16 = .ok (.lload_n 1, 1) := by decide +kernel
theorem dX4_digest_17 : decode cX4_digest 17 = .ok (.aload_n 0, 1) := by decide +kernel
theorem dX4_digest_18 : decode cX4_digest 18 = .ok (.iload_n 3, 1) := by decide +kernel
theorem dX4_digest_19 : decode cX4_digest 19 = .ok (.invokevirtual 179, 3) := by decide +kernel
theorem dX4_digest_22 : decode cX4_digest 22 = .ok (.i2l, 1) := by decide +kernel
theorem dX4_digest_23 : decode cX4_digest 23 = .ok (.invokestatic 189, 3) := by decide +kernel
theorem dX4_digest_26 : decode cX4_digest 26 = .ok (.lstore_n 1, 1) := by decide +kernel
theorem dX4_digest_27 : decode cX4_digest 27 = .ok (.iinc 3 1, 3) := by decide +kernel
theorem dX4_digest_30 : decode cX4_digest 30 = .ok (.goto (-19), 3) := by decide +kernel
theorem dX4_digest_33 : decode cX4_digest 33 = .ok (.aload_n 0, 1) := by decide +kernel
theorem dX4_digest_34 : decode cX4_digest 34 = .ok (.getfield 72, 3) := by decide +kernel
theorem dX4_digest_37 : decode cX4_digest 37 = .ok (.astore_n 3, 1) := by decide +kernel
theorem dX4_digest_38 : decode cX4_digest 38 = .ok (.aload_n 3, 1) := by decide +kernel
theorem dX4_digest_39 : decode cX4_digest 39 = .ok (.arraylength, 1) := by decide +kernel
theorem dX4_digest_40 : decode cX4_digest 40 = .ok (.istore 4, 2) := by decide +kernel
theorem dX4_digest_42 : decode cX4_digest 42 = .ok (.iconst 0, 1) := by decide +kernel
theorem dX4_digest_43 : decode cX4_digest 43 = .ok (.istore 5, 2) := by decide +kernel
theorem dX4_digest_45 : decode cX4_digest 45 = .ok (.iload 5, 2) := by decide +kernel
theorem dX4_digest_47 : decode cX4_digest 47 = .ok (.iload 4, 2) := by decide +kernel
theorem dX4_digest_49 : decode cX4_digest 49 = .ok (.if_icmp .ge 79, 3) := by decide +kernel
theorem dX4_digest_52 : decode cX4_digest 52 = .ok (.aload_n 3, 1) := by decide +kernel
theorem dX4_digest_53 : decode cX4_digest 53 = .ok (.iload 5, 2) := by decide +kernel
theorem dX4_digest_55 : decode cX4_digest 55 = .ok (.aaload, 1) := by decide +kernel
theorem dX4_digest_56 : decode cX4_digest 56 = .ok (.astore 6, 2) := by decide +kernel
theorem dX4_digest_58 : decode cX4_digest 58 = .ok (.lload_n 1, 1) := by decide +kernel
theorem dX4_digest_59 : decode cX4_digest 59 = .ok (.aload 6, 2) := by decide +kernel
theorem dX4_digest_61 : decode cX4_digest 61 = .ok (.invokestatic 156, 3) := by decide +kernel
theorem dX4_digest_64 : decode cX4_digest 64 = .ok (.i2l, 1) := by decide +kernel
theorem dX4_digest_65 : decode cX4_digest 65 = .ok (.invokestatic 189, 3) := by decide +kernel
theorem dX4_digest_68 : decode cX4_digest 68 = .ok (.aload 6, 2) := by decide +kernel
theorem dX4_digest_70 : decode cX4_digest 70 = .ok (.arraylength, 1) := by decide +kernel
theorem dX4_digest_71 : decode cX4_digest 71 = .ok (.i2l, 1) := by decide +kernel
theorem dX4_digest_72 : decode cX4_digest 72 = .ok (.invokestatic 189, 3) := by decide +kernel
theorem dX4_digest_75 : decode cX4_digest 75 = .ok (.aload 6, 2) := by decide +kernel
theorem dX4_digest_77 : decode cX4_digest 77 = .ok (.iconst 1, 1) := by decide +kernel
theorem dX4_digest_78 : decode cX4_digest 78 = .ok (.invokestatic 117, 3) := by decide +kernel
theorem dX4_digest_81 : decode cX4_digest 81 = .ok (.arraylength, 1) := by decide +kernel
theorem dX4_digest_82 : decode cX4_digest 82 = .ok (.ifCond .ne 7, 3) := by decide +kernel
theorem dX4_digest_85 : decode cX4_digest 85 = .ok (.iconst 1, 1) := by decide +kernel
theorem dX4_digest_86 : decode cX4_digest 86 = .ok (.goto 4, 3) := by decide +kernel
theorem dX4_digest_89 : decode cX4_digest 89 = .ok (.iconst 0, 1) := by decide +kernel
theorem dX4_digest_90 : decode cX4_digest 90 = .ok (.invokestatic 17, 3) := by decide +kernel
theorem dX4_digest_93 : decode cX4_digest 93 = .ok (.i2l, 1) := by decide +kernel
theorem dX4_digest_94 : decode cX4_digest 94 = .ok (.invokestatic 189, 3) := by decide +kernel
theorem dX4_digest_97 : decode cX4_digest 97 = .ok (.lstore_n 1, 1) := by decide +kernel
theorem dX4_digest_98 : decode cX4_digest 98 = .ok (.lload_n 1, 1) := by decide +kernel
theorem dX4_digest_99 : decode cX4_digest 99 = .ok (.aload 6, 2) := by decide +kernel
theorem dX4_digest_101 : decode cX4_digest 101 = .ok (.iconst 0, 1) := by decide +kernel
theorem dX4_digest_102 : decode cX4_digest 102 = .ok (.invokestatic 117, 3) := by decide +kernel
theorem dX4_digest_105 : decode cX4_digest 105 = .ok (.arraylength, 1) := by decide +kernel
theorem dX4_digest_106 : decode cX4_digest 106 = .ok (.i2l, 1) := by decide +kernel
theorem dX4_digest_107 : decode cX4_digest 107 = .ok (.invokestatic 189, 3) := by decide +kernel
theorem dX4_digest_110 : decode cX4_digest 110 = .ok (.aload 6, 2) := by decide +kernel
theorem dX4_digest_112 : decode cX4_digest 112 = .ok (.iconst 1, 1) := by decide +kernel
theorem dX4_digest_113 : decode cX4_digest 113 = .ok (.invokestatic 117, 3) := by decide +kernel
theorem dX4_digest_116 : decode cX4_digest 116 = .ok (.arraylength, 1) := by decide +kernel
theorem dX4_digest_117 : decode cX4_digest 117 = .ok (.i2l, 1) := by decide +kernel
theorem dX4_digest_118 : decode cX4_digest 118 = .ok (.invokestatic 189, 3) := by decide +kernel
theorem dX4_digest_121 : decode cX4_digest 121 = .ok (.lstore_n 1, 1) := by decide +kernel
theorem dX4_digest_122 : decode cX4_digest 122 = .ok (.iinc 5 1, 3) := by decide +kernel
theorem dX4_digest_125 : decode cX4_digest 125 = .ok (.goto (-80), 3) := by decide +kernel
theorem dX4_digest_128 : decode cX4_digest 128 = .ok (.aload_n 0, 1) := by decide +kernel
theorem dX4_digest_129 : decode cX4_digest 129 = .ok (.getfield 72, 3) := by decide +kernel
theorem dX4_digest_132 : decode cX4_digest 132 = .ok (.astore_n 3, 1) := by decide +kernel
theorem dX4_digest_133 : decode cX4_digest 133 = .ok (.aload_n 3, 1) := by decide +kernel
theorem dX4_digest_134 : decode cX4_digest 134 = .ok (.arraylength, 1) := by decide +kernel
theorem dX4_digest_135 : decode cX4_digest 135 = .ok (.istore 4, 2) := by decide +kernel
theorem dX4_digest_137 : decode cX4_digest 137 = .ok (.iconst 0, 1) := by decide +kernel
theorem dX4_digest_138 : decode cX4_digest 138 = .ok (.istore 5, 2) := by decide +kernel
theorem dX4_digest_140 : decode cX4_digest 140 = .ok (.iload 5, 2) := by decide +kernel
theorem dX4_digest_142 : decode cX4_digest 142 = .ok (.iload 4, 2) := by decide +kernel
theorem dX4_digest_144 : decode cX4_digest 144 = .ok (.if_icmp .ge 114, 3) := by decide +kernel
theorem dX4_digest_147 : decode cX4_digest 147 = .ok (.aload_n 3, 1) := by decide +kernel
theorem dX4_digest_148 : decode cX4_digest 148 = .ok (.iload 5, 2) := by decide +kernel
theorem dX4_digest_150 : decode cX4_digest 150 = .ok (.aaload, 1) := by decide +kernel
theorem dX4_digest_151 : decode cX4_digest 151 = .ok (.astore 6, 2) := by decide +kernel
theorem dX4_digest_153 : decode cX4_digest 153 = .ok (.aload_n 0, 1) := by decide +kernel
theorem dX4_digest_154 : decode cX4_digest 154 = .ok (.getfield 72, 3) := by decide +kernel
theorem dX4_digest_157 : decode cX4_digest 157 = .ok (.astore 7, 2) := by decide +kernel
theorem dX4_digest_159 : decode cX4_digest 159 = .ok (.aload 7, 2) := by decide +kernel
theorem dX4_digest_161 : decode cX4_digest 161 = .ok (.arraylength, 1) := by decide +kernel
theorem dX4_digest_162 : decode cX4_digest 162 = .ok (.istore 8, 2) := by decide +kernel
theorem dX4_digest_164 : decode cX4_digest 164 = .ok (.iconst 0, 1) := by decide +kernel
theorem dX4_digest_165 : decode cX4_digest 165 = .ok (.istore 9, 2) := by decide +kernel
theorem dX4_digest_167 : decode cX4_digest 167 = .ok (.iload 9, 2) := by decide +kernel
theorem dX4_digest_169 : decode cX4_digest 169 = .ok (.iload 8, 2) := by decide +kernel
theorem dX4_digest_171 : decode cX4_digest 171 = .ok (.if_icmp .ge 81, 3) := by decide +kernel
theorem dX4_digest_174 : decode cX4_digest 174 = .ok (.aload 7, 2) := by decide +kernel
theorem dX4_digest_176 : decode cX4_digest 176 = .ok (.iload 9, 2) := by decide +kernel
theorem dX4_digest_178 : decode cX4_digest 178 = .ok (.aaload, 1) := by decide +kernel
theorem dX4_digest_179 : decode cX4_digest 179 = .ok (.astore 10, 2) := by decide +kernel
theorem dX4_digest_181 : decode cX4_digest 181 = .ok (.lload_n 1, 1) := by decide +kernel
theorem dX4_digest_182 : decode cX4_digest 182 = .ok (.aload 6, 2) := by decide +kernel
theorem dX4_digest_184 : decode cX4_digest 184 = .ok (.aload 10, 2) := by decide +kernel
theorem dX4_digest_186 : decode cX4_digest 186 = .ok (.invokestatic 160, 3) := by decide +kernel
theorem dX4_digest_189 : decode cX4_digest 189 = .ok (.i2l, 1) := by decide +kernel
theorem dX4_digest_190 : decode cX4_digest 190 = .ok (.invokestatic 189, 3) := by decide +kernel
theorem dX4_digest_193 : decode cX4_digest 193 = .ok (.aload 6, 2) := by decide +kernel
theorem dX4_digest_195 : decode cX4_digest 195 = .ok (.aload 10, 2) := by decide +kernel
theorem dX4_digest_197 : decode cX4_digest 197 = .ok (.invokestatic 164, 3) := by decide +kernel
theorem dX4_digest_200 : decode cX4_digest 200 = .ok (.i2l, 1) := by decide +kernel
theorem dX4_digest_201 : decode cX4_digest 201 = .ok (.invokestatic 189, 3) := by decide +kernel
theorem dX4_digest_204 : decode cX4_digest 204 = .ok (.lstore_n 1, 1) := by decide +kernel
theorem dX4_digest_205 : decode cX4_digest 205 = .ok (.lload_n 1, 1) := by decide +kernel
theorem dX4_digest_206 : decode cX4_digest 206 = .ok (.aload 6, 2) := by decide +kernel
theorem dX4_digest_208 : decode cX4_digest 208 = .ok (.aload 10, 2) := by decide +kernel
theorem dX4_digest_210 : decode cX4_digest 210 = .ok (.iconst 0, 1) := by decide +kernel
theorem dX4_digest_211 : decode cX4_digest 211 = .ok (.invokestatic 175, 3) := by decide +kernel
theorem dX4_digest_214 : decode cX4_digest 214 = .ok (.i2l, 1) := by decide +kernel
theorem dX4_digest_215 : decode cX4_digest 215 = .ok (.invokestatic 189, 3) := by decide +kernel
theorem dX4_digest_218 : decode cX4_digest 218 = .ok (.aload 6, 2) := by decide +kernel
theorem dX4_digest_220 : decode cX4_digest 220 = .ok (.aload 10, 2) := by decide +kernel
theorem dX4_digest_222 : decode cX4_digest 222 = .ok (.iconst 1, 1) := by decide +kernel
theorem dX4_digest_223 : decode cX4_digest 223 = .ok (.invokestatic 175, 3) := by decide +kernel
theorem dX4_digest_226 : decode cX4_digest 226 = .ok (.i2l, 1) := by decide +kernel
theorem dX4_digest_227 : decode cX4_digest 227 = .ok (.invokestatic 189, 3) := by decide +kernel
theorem dX4_digest_230 : decode cX4_digest 230 = .ok (.aload 6, 2) := by decide +kernel
theorem dX4_digest_232 : decode cX4_digest 232 = .ok (.aload 10, 2) := by decide +kernel
theorem dX4_digest_234 : decode cX4_digest 234 = .ok (.iconst 1, 1) := by decide +kernel
theorem dX4_digest_235 : decode cX4_digest 235 = .ok (.invokestatic 171, 3) := by decide +kernel
theorem dX4_digest_238 : decode cX4_digest 238 = .ok (.invokestatic 17, 3) := by decide +kernel
theorem dX4_digest_241 : decode cX4_digest 241 = .ok (.i2l, 1) := by decide +kernel
theorem dX4_digest_242 : decode cX4_digest 242 = .ok (.invokestatic 189, 3) := by decide +kernel
theorem dX4_digest_245 : decode cX4_digest 245 = .ok (.lstore_n 1, 1) := by decide +kernel
theorem dX4_digest_246 : decode cX4_digest 246 = .ok (.iinc 9 1, 3) := by decide +kernel
theorem dX4_digest_249 : decode cX4_digest 249 = .ok (.goto (-82), 3) := by decide +kernel
theorem dX4_digest_252 : decode cX4_digest 252 = .ok (.iinc 5 1, 3) := by decide +kernel
theorem dX4_digest_255 : decode cX4_digest 255 = .ok (.goto (-115), 3) := by decide +kernel
theorem dX4_digest_258 : decode cX4_digest 258 = .ok (.aload_n 0, 1) := by decide +kernel
theorem dX4_digest_259 : decode cX4_digest 259 = .ok (.getfield 75, 3) := by decide +kernel
theorem dX4_digest_262 : decode cX4_digest 262 = .ok (.astore_n 3, 1) := by decide +kernel
theorem dX4_digest_263 : decode cX4_digest 263 = .ok (.aload_n 3, 1) := by decide +kernel
theorem dX4_digest_264 : decode cX4_digest 264 = .ok (.arraylength, 1) := by decide +kernel
theorem dX4_digest_265 : decode cX4_digest 265 = .ok (.istore 4, 2) := by decide +kernel
theorem dX4_digest_267 : decode cX4_digest 267 = .ok (.iconst 0, 1) := by decide +kernel
theorem dX4_digest_268 : decode cX4_digest 268 = .ok (.istore 5, 2) := by decide +kernel
theorem dX4_digest_270 : decode cX4_digest 270 = .ok (.iload 5, 2) := by decide +kernel
theorem dX4_digest_272 : decode cX4_digest 272 = .ok (.iload 4, 2) := by decide +kernel
theorem dX4_digest_274 : decode cX4_digest 274 = .ok (.if_icmp .ge 23, 3) := by decide +kernel
theorem dX4_digest_277 : decode cX4_digest 277 = .ok (.aload_n 3, 1) := by decide +kernel
theorem dX4_digest_278 : decode cX4_digest 278 = .ok (.iload 5, 2) := by decide +kernel
theorem dX4_digest_280 : decode cX4_digest 280 = .ok (.iaload, 1) := by decide +kernel
theorem dX4_digest_281 : decode cX4_digest 281 = .ok (.istore 6, 2) := by decide +kernel
theorem dX4_digest_283 : decode cX4_digest 283 = .ok (.lload_n 1, 1) := by decide +kernel
theorem dX4_digest_284 : decode cX4_digest 284 = .ok (.iload 6, 2) := by decide +kernel
theorem dX4_digest_286 : decode cX4_digest 286 = .ok (.i2l, 1) := by decide +kernel
theorem dX4_digest_287 : decode cX4_digest 287 = .ok (.invokestatic 189, 3) := by decide +kernel
theorem dX4_digest_290 : decode cX4_digest 290 = .ok (.lstore_n 1, 1) := by decide +kernel
theorem dX4_digest_291 : decode cX4_digest 291 = .ok (.iinc 5 1, 3) := by decide +kernel
theorem dX4_digest_294 : decode cX4_digest 294 = .ok (.goto (-24), 3) := by decide +kernel
theorem dX4_digest_297 : decode cX4_digest 297 = .ok (.aload_n 0, 1) := by decide +kernel
theorem dX4_digest_298 : decode cX4_digest 298 = .ok (.getfield 78, 3) := by decide +kernel
theorem dX4_digest_301 : decode cX4_digest 301 = .ok (.invokevirtual 192, 3) := by decide +kernel
theorem dX4_digest_304 : decode cX4_digest 304 = .ok (.astore_n 3, 1) := by decide +kernel
theorem dX4_digest_305 : decode cX4_digest 305 = .ok (.aload_n 3, 1) := by decide +kernel
theorem dX4_digest_306 : decode cX4_digest 306 = .ok (.invokeinterface 196 1, 5) := by decide +kernel
theorem dX4_digest_311 : decode cX4_digest 311 = .ok (.ifCond .eq 26, 3) := by decide +kernel
theorem dX4_digest_314 : decode cX4_digest 314 = .ok (.aload_n 3, 1) := by decide +kernel
theorem dX4_digest_315 : decode cX4_digest 315 = .ok (.invokeinterface 201 1, 5) := by decide +kernel
theorem dX4_digest_320 : decode cX4_digest 320 = .ok (.checkcast 62, 3) := by decide +kernel
theorem dX4_digest_323 : decode cX4_digest 323 = .ok (.astore 4, 2) := by decide +kernel
theorem dX4_digest_325 : decode cX4_digest 325 = .ok (.lload_n 1, 1) := by decide +kernel
theorem dX4_digest_326 : decode cX4_digest 326 = .ok (.aload 4, 2) := by decide +kernel
theorem dX4_digest_328 : decode cX4_digest 328 = .ok (.arraylength, 1) := by decide +kernel
theorem dX4_digest_329 : decode cX4_digest 329 = .ok (.i2l, 1) := by decide +kernel
theorem dX4_digest_330 : decode cX4_digest 330 = .ok (.invokestatic 189, 3) := by decide +kernel
theorem dX4_digest_333 : decode cX4_digest 333 = .ok (.lstore_n 1, 1) := by decide +kernel
theorem dX4_digest_334 : decode cX4_digest 334 = .ok (.goto (-29), 3) := by decide +kernel
theorem dX4_digest_337 : decode cX4_digest 337 = .ok (.lload_n 1, 1) := by decide +kernel
theorem dX4_digest_338 : decode cX4_digest 338 = .ok (.aload_n 0, 1) := by decide +kernel
theorem dX4_digest_339 : decode cX4_digest 339 = .ok (.invokevirtual 182, 3) := by decide +kernel
theorem dX4_digest_342 : decode cX4_digest 342 = .ok (.invokestatic 17, 3) := by decide +kernel
theorem dX4_digest_345 : decode cX4_digest 345 = .ok (.i2l, 1) := by decide +kernel
theorem dX4_digest_346 : decode cX4_digest 346 = .ok (.invokestatic 189, 3) := by decide +kernel
theorem dX4_digest_349 : decode cX4_digest 349 = .ok (.lreturn, 1) := by decide +kernel
abbrev rmX4_add : Room := { frames := 0, cells := 0, slots := 0, locals := 0 }
theorem mX4_add {l : Launch} {G : Cx} {A : Nat → Prop} {x y : Int64} : Met l yX4_add (.code yX4_add cX4_add 4 (some .long) :: GW) rmX4_add (PC G A [.long x, .long y] (fun _ => True)) (vp_Sl (fun r => r = x * 31 + y)) 0 0 (fun _ => False) := by
  refine mstart "SigntextModel" (by decide +kernel) rfl (Nat.le_of_ble_eq_true rfl) ?_
  intro p e s m below meth c ls hx hb hr hts hown hml hlocks hname hC hA hW hl
  have hl : lv_has ls 4 [(0, .long x), (2, .long y)] := hl
  have hK := hC.1
  have hS : va_S A s.heap s.heap [] := va_S.rf
  refine lv_lload_n hx hb dX4_add_0 rfl (lv_at hl 0 rfl) ?_
  refine lv_ldc2 (v := 31) hx hb hown (hts _ tw_7_34) dX4_add_1 ?_
  refine lv_lmul hx hb dX4_add_4 ?_
  refine lv_lload_n hx hb dX4_add_5 rfl (lv_at hl 1 rfl) ?_
  refine lv_ladd hx hb dX4_add_6 ?_
  exact p_l hx hb hr hlocks dX4_add_7 rfl

abbrev rmX4_digest : Room := { frames := 4, cells := 18, slots := 761, locals := 95 }
theorem mX4_digest {l : Launch} {G : Cx} {A : Nat → Prop} {am xa : Nat} {X : Nat → List Nat} {P : List (List Nat)} {k : Int32} {th : Int32} : Met l yX4_digest (.code yX4_digest cX4_digest 11 (some .long) :: GW) rmX4_digest (PC G A [.ref am] (MW G A am xa X P k th)) (qL A (fun _ H => MW G A am xa X P k 0 H)) 18 761 (A) := by
  refine mstart "SigntextModel" (by decide +kernel) rfl (Nat.le_of_ble_eq_true rfl) ?_
  intro p e s m below meth c ls hx hb hr hts hown hml hlocks hname hC hA hW hl
  have hl : lv_has ls 11 [(0, .ref am)] := hl
  have hK := hC.1
  have hS : va_S A s.heap s.heap [] := va_S.rf
  obtain ⟨ra, pa, tx, hW⟩ := hW
  have hO := hW.obj
  have hAm := hW.1
  refine lv_aload_n hx hb dX4_digest_0 rfl (lv_at hl 0 rfl) ?_
  refine lv_iconst (v := nI 0) hx hb dX4_digest_1 (by decide) ?_
  refine h_put (D := G.1) (ci := 8) (C := RX4) (T := TX4) (N := 5) hx hb hts inX4 tyX4 tyX4_ok nmX4 hown hK hO hS hAm rfl 0 (by decide) (hts _ tw_4_172) (fun _ h9 => h9) rfl (tyX4_ok 0 (by decide)) rfl rfl (Nat.le_of_ble_eq_true rfl) dX4_digest_2 (fun H14 L14 hO z14 o14 hS => ?_)
  have hO : va_at G.1 vwCl (am, .inr (8, [.int (nI 0), .ref xa, .ref ra, .ref pa, .int k])) H14 := hO
  have hZ14 := hS.1
  have hW := hW.nums hK hO o14
  have hO := hW.obj
  have hAm := hW.1
  refine lv_ldc2 (v := 6173) hx hb hown (hts _ tw_7_30) dX4_digest_5 ?_
  refine lv_lstore_n (lv' := [(1, .long 6173), (0, .ref am)]) hx hb dX4_digest_8 rfl hl (by decide) rfl (fun ls hl => ?_)
  refine lv_iconst (v := nI 0) hx hb dX4_digest_9 (by decide) ?_
  refine lv_istore_n (lv' := [(3, .int (nI 0)), (1, .long 6173), (0, .ref am)]) hx hb dX4_digest_10 rfl hl (by decide) rfl (fun ls hl => ?_)
  have hM : MW G A am xa X P k 0 H14 := ⟨ra, pa, tx, hW⟩
  refine W.widen (k := 0 + 0) (n := 0 + 0 * 5) (by decide) (by decide) ?_
  refine nloop (P := fun j => ∀ (ls : Array Slot) (H : Heap) (L : List Loc) (x : Int64), lv_has ls 11 [(3, .int (nI j)), (1, .long x), (0, .ref am)] → va_S A s.heap H L → MW G A am xa X P k 0 H → W p l e rmX4_digest s m [.ref am].toArray below meth c H L (0 + j) (0 + j * 5) (MQ below (qL A (fun _ H => MW G A am xa X P k 0 H)) [.ref am].toArray s 18 761 (A)) (F0 m 11 ls [])) 5 ?_ 0 (Nat.zero_le _) ls H14 L14 6173 hl hS hM
  clear hl
  intro j hj ih ls H L x hl
  clear hS hM hW hO
  intro hS hM
  have hZ0 := hS.1
  refine lv_iload_n hx hb dX4_digest_11 rfl (lv_at hl 0 rfl) ?_
  refine lv_iconst (v := nI 5) hx hb dX4_digest_12 (by decide) ?_
  refine b_ge (tgt := 33) hx hb dX4_digest_13 (by decide) (by omega) (by omega) (fun c_15 => ?_) (fun c_15 => ?_)
  · have e5 : j = 5 := by omega
    subst e5
    clear ih
    obtain ⟨ra, pa, tx, hW⟩ := hM
    have hO := hW.obj
    have hAm := hW.1
    have hXa := hW.txs
    refine lv_aload_n hx hb dX4_digest_33 rfl (lv_at hl 2 rfl) ?_
    refine va_get (D := G.1) (ci := 8) (C := RX4) (T := TX4) (N := 5) hx hb hts inX4 hown hK (at_P hO) 0 rfl rfl 1 (by decide) (hts _ tw_4_173) (fun _ h9 => h9) rfl dX4_digest_34 ?_
    refine lv_astore_n (lv' := [(3, .ref xa), (1, .long x), (0, .ref am)]) hx hb dX4_digest_37 rfl hl (by decide) rfl (fun ls hl => ?_)
    refine lv_aload_n hx hb dX4_digest_38 rfl (lv_at hl 0 rfl) ?_
    refine va_alen hx hb hK (at_P hXa) 0 4 (v := nI 4) rfl rfl rfl dX4_digest_39 ?_
    refine lv_istore (lv' := [(4, .int (nI 4)), (3, .ref xa), (1, .long x), (0, .ref am)]) hx hb dX4_digest_40 hl (by decide) rfl (fun ls hl => ?_)
    refine lv_iconst (v := nI 0) hx hb dX4_digest_42 (by decide) ?_
    refine lv_istore (lv' := [(5, .int (nI 0)), (4, .int (nI 4)), (3, .ref xa), (1, .long x), (0, .ref am)]) hx hb dX4_digest_43 hl (by decide) rfl (fun ls hl => ?_)
    have hl : lv_has ls 11 [(5, .int (nI 0)), (4, .int (nI 4)), (3, .ref xa), (1, .long x), (0, .ref am)] := (lv_sub hl [0, 1, 2, 3, 4] rfl)
    refine W.widen (k := 5 + 0 * 3) (n := 25 + 0 * 183) (by decide) (by decide) ?_
    refine nloop (P := fun j => ∀ (ls : Array Slot) (H : Heap) (L : List Loc) (x : Int64), lv_has ls 11 [(5, .int (nI j)), (4, .int (nI 4)), (3, .ref xa), (1, .long x), (0, .ref am)] → va_S A s.heap H L → MWx G A am xa ra pa tx X P k 0 H → W p l e rmX4_digest s m [.ref am].toArray below meth c H L (5 + j * 3) (25 + j * 183) (MQ below (qL A (fun _ H => MW G A am xa X P k 0 H)) [.ref am].toArray s 18 761 (A)) (F0 m 45 ls [])) 4 ?_ 0 (Nat.zero_le _) ls H L x hl hS hW
    clear hl
    intro j hj ih ls H L x hl
    clear hS hW hO hXa
    intro hS hW
    have hZ0 := hS.1
    refine lv_iload hx hb dX4_digest_45 (lv_at hl 0 rfl) ?_
    refine lv_iload hx hb dX4_digest_47 (lv_at hl 1 rfl) ?_
    refine b_ge (tgt := 128) hx hb dX4_digest_49 (by decide) (by omega) (by omega) (fun c_16 => ?_) (fun c_16 => ?_)
    · have e4 : j = 4 := by omega
      subst e4
      clear ih
      have hO := hW.obj
      have hAm := hW.1
      have hXa := hW.txs
      refine lv_aload_n hx hb dX4_digest_128 rfl (lv_at hl 4 rfl) ?_
      refine va_get (D := G.1) (ci := 8) (C := RX4) (T := TX4) (N := 5) hx hb hts inX4 hown hK (at_P hO) 0 rfl rfl 1 (by decide) (hts _ tw_4_173) (fun _ h9 => h9) rfl dX4_digest_129 ?_
      refine lv_astore_n (lv' := [(3, .ref xa), (5, .int (nI 4)), (4, .int (nI 4)), (1, .long x), (0, .ref am)]) hx hb dX4_digest_132 rfl hl (by decide) rfl (fun ls hl => ?_)
      refine lv_aload_n hx hb dX4_digest_133 rfl (lv_at hl 0 rfl) ?_
      refine va_alen hx hb hK (at_P hXa) 0 4 (v := nI 4) rfl rfl rfl dX4_digest_134 ?_
      refine lv_istore (lv' := [(4, .int (nI 4)), (3, .ref xa), (5, .int (nI 4)), (1, .long x), (0, .ref am)]) hx hb dX4_digest_135 hl (by decide) rfl (fun ls hl => ?_)
      refine lv_iconst (v := nI 0) hx hb dX4_digest_137 (by decide) ?_
      refine lv_istore (lv' := [(5, .int (nI 0)), (4, .int (nI 4)), (3, .ref xa), (1, .long x), (0, .ref am)]) hx hb dX4_digest_138 hl (by decide) rfl (fun ls hl => ?_)
      have hl : lv_has ls 11 [(5, .int (nI 0)), (4, .int (nI 4)), (3, .ref xa), (1, .long x), (0, .ref am)] := (lv_sub hl [0, 1, 2, 3, 4] rfl)
      refine nloop (P := fun j => ∀ (ls : Array Slot) (x : Int64), lv_has ls 11 [(5, .int (nI j)), (4, .int (nI 4)), (3, .ref xa), (1, .long x), (0, .ref am)] → W p l e rmX4_digest s m [.ref am].toArray below meth c H L (5 + 4 * 3) (25 + 4 * 183) (MQ below (qL A (fun _ H => MW G A am xa X P k 0 H)) [.ref am].toArray s 18 761 (A)) (F0 m 140 ls [])) 4 ?_ 0 (Nat.zero_le _) ls x hl 
      clear hl
      intro j hj ih ls x hl
      refine lv_iload hx hb dX4_digest_140 (lv_at hl 0 rfl) ?_
      refine lv_iload hx hb dX4_digest_142 (lv_at hl 1 rfl) ?_
      refine b_ge (tgt := 258) hx hb dX4_digest_144 (by decide) (by omega) (by omega) (fun c_17 => ?_) (fun c_17 => ?_)
      · clear ih
        have hR1 := hW.row.ia hC.2.1.2
        have x11 := hW.2.2.1 11 (Or.inr rfl)
        have r60 := x11.2
        refine lv_aload_n hx hb dX4_digest_258 rfl (lv_at hl 4 rfl) ?_
        refine va_get (D := G.1) (ci := 8) (C := RX4) (T := TX4) (N := 5) hx hb hts inX4 hown hK (at_P hO) 0 rfl rfl 2 (by decide) (hts _ tw_4_174) (fun _ h9 => h9) rfl dX4_digest_259 ?_
        refine lv_astore_n (lv' := [(3, .ref ra), (5, .int (nI j)), (4, .int (nI 4)), (1, .long x), (0, .ref am)]) hx hb dX4_digest_262 rfl hl (by decide) rfl (fun ls hl => ?_)
        refine lv_aload_n hx hb dX4_digest_263 rfl (lv_at hl 0 rfl) ?_
        refine h_ilen hx hb hC.2.1 hR1 dX4_digest_264 ?_
        refine lv_istore (lv' := [(4, .int (nI ((X 11).length))), (3, .ref ra), (5, .int (nI j)), (1, .long x), (0, .ref am)]) hx hb dX4_digest_265 hl (by decide) rfl (fun ls hl => ?_)
        refine lv_iconst (v := nI 0) hx hb dX4_digest_267 (by decide) ?_
        refine lv_istore (lv' := [(5, .int (nI 0)), (4, .int (nI ((X 11).length))), (3, .ref ra), (1, .long x), (0, .ref am)]) hx hb dX4_digest_268 hl (by decide) rfl (fun ls hl => ?_)
        have hl : lv_has ls 11 [(5, .int (nI 0)), (4, .int (nI ((X 11).length))), (3, .ref ra), (1, .long x), (0, .ref am)] := (lv_sub hl [0, 1, 2, 3, 4] rfl)
        refine nloop (P := fun q => ∀ (ls : Array Slot) (x : Int64), lv_has ls 11 [(5, .int (nI q)), (4, .int (nI ((X 11).length))), (3, .ref ra), (1, .long x), (0, .ref am)] → W p l e rmX4_digest s m [.ref am].toArray below meth c H L (5 + 4 * 3) (25 + 4 * 183) (MQ below (qL A (fun _ H => MW G A am xa X P k 0 H)) [.ref am].toArray s 18 761 (A)) (F0 m 270 ls [])) ((X 11).length) ?_ 0 (Nat.zero_le _) ls x hl 
        clear hl
        intro q hq ih ls x hl
        refine lv_iload hx hb dX4_digest_270 (lv_at hl 0 rfl) ?_
        refine lv_iload hx hb dX4_digest_272 (lv_at hl 1 rfl) ?_
        refine b_ge (tgt := 297) hx hb dX4_digest_274 (by decide) (by omega) (by omega) (fun c_18 => ?_) (fun c_18 => ?_)
        · clear ih
          refine lv_aload_n hx hb dX4_digest_297 rfl (lv_at hl 4 rfl) ?_
          refine va_get (D := G.1) (ci := 8) (C := RX4) (T := TX4) (N := 5) hx hb hts inX4 hown hK (at_P hO) 0 rfl rfl 3 (by decide) (hts _ tw_4_175) (fun _ h9 => h9) rfl dX4_digest_298 ?_
          obtain ⟨md, ed, hPa, hPc⟩ := MWx_it hW
          have hp61 := hW.2.2.2.2.2.2.2.2.2.2.2.1
          have hW0 := hW
          have hpl := hPa.lt
          obtain ⟨H0, hH0⟩ : ∃ H0, H0 = H := ⟨_, rfl⟩
          subst hH0
          refine qR_V (A := A) (A1 := nw H0.size) (b := pa) (As := []) (rest := []) ⟨hx, hb, hml, hown, hts⟩ (mJx4a65c_iterator_32c93 (A := nw H0.size) (md := md) (ed := ed) (n := P.length)) (cwV 0 hts (gV tw_7_35 tw_7_36 tw_7_37 tw_1_11 tw_7_38) rfl rfl rfl (by decide +kernel) ⟨Nat.le_of_ble_eq_true rfl, Nat.le_of_ble_eq_true rfl⟩) hC hS (nw_in hA hS.1) nw_n (at_recv hK hPa (q := (RJx4a65c, TJx4a65c, 3)) rfl) hPa rfl rfl hl.1 (Nat.le_of_ble_eq_true rfl) ⟨Nat.le_trans (show (5 + 4 * 3) + 1 ≤ 18 by omega) (Nat.le_of_ble_eq_true rfl), Nat.le_trans (show (25 + 4 * 183) + 4 ≤ 761 by omega) (Nat.le_of_ble_eq_true rfl)⟩ dX4_digest_301 (fun rv19 H19 L19 hP19 hk19 hS => ?_)
          have hZ19 := hS.1
          obtain ⟨hiz, hIt, hPa1⟩ := hP19
          have hkk := hk19
          have hiz : H0.size ≤ rv19 := hiz
          refine lv_astore_n (lv' := [(3, .ref rv19), (5, .int (nI q)), (4, .int (nI ((X 11).length))), (1, .long x), (0, .ref am)]) hx hb dX4_digest_304 rfl hl (by decide) rfl (fun ls hl => ?_)
          have hl : lv_has ls 11 [(3, .ref rv19), (1, .long x), (0, .ref am)] := (lv_sub hl [0, 3, 4] rfl)
          generalize hcl : ((5 + 4 * 3) + 1) = CC
          generalize hsl : ((25 + 4 * 183) + 4) = SS9
          refine nloop (P := fun cu => ∀ (ls : Array Slot) (H : Heap) (L : List Loc) (x : Int64) (lr : Int32), lv_has ls 11 [(3, .ref rv19), (1, .long x), (0, .ref am)] → va_S A s.heap H L → kp (nw H0.size) H0 H → va_at G.1 vwCl (rv19, .inr (2, [.int (nI cu), .int lr, .int md, .ref pa])) H → W p l e rmX4_digest s m [.ref am].toArray below meth c H L CC SS9 (MQ below (qL A (fun _ H => MW G A am xa X P k 0 H)) [.ref am].toArray s 18 761 (A)) (F0 m 305 ls [])) P.length ?_ 0 (Nat.zero_le _) ls H19 L19 x (-1) hl hS hkk hIt
          clear hl
          intro cu hcu ih ls H L x lr hl
          clear hS hkk hIt hPa1
          intro hS hkk hIt
          have hZ0 := hS.1
          have hPa := at_kp hPa hkk (Nat.not_le_of_lt hPa.lt)
          refine lv_aload_n hx hb dX4_digest_305 rfl (lv_at hl 0 rfl) ?_
          refine kF_i (x := xHN) (A := A) (b := rv19) (As := []) (rest := []) (hK.1 2 _ rfl).2 ⟨hx, hb, hml, hown, hts⟩ (mJx35411_hasNext_aae02 (A := A) (ed := ed) (n := P.length) (cu := cu) (md := md) (lr := lr) (by omega) (by omega)) (va_cwF 0 hts (gF tw_7_59 tw_7_63 tw_7_65 tw_1_28 tw_7_67) rfl rfl rfl hC.2.2.2.2.2.2.2.2.2.2.2.2.2.2.2.2.2.1 (by decide +kernel) ⟨Nat.le_of_ble_eq_true rfl, Nat.le_of_ble_eq_true rfl⟩) hC hS hA (at_recv hK hIt (q := (RJx35411, TJx35411, 4)) rfl) ⟨hIt, hPa⟩ rfl rfl hl.1 (Nat.le_of_ble_eq_true rfl) ⟨by rw [← hcl]; exact (Nat.le_of_ble_eq_true rfl), by rw [← hsl]; exact (Nat.le_of_ble_eq_true rfl)⟩ dX4_digest_306 (fun r9 h9 => lv_cv h9 ?_)
          refine f_eq (tgt := 337) hx hb dX4_digest_311 (by decide) (fun c_20 => ?_) (fun c_20 => ?_)
          · have hW := hW0.nw hkk
            refine lv_lload_n hx hb dX4_digest_337 rfl (lv_at hl 1 rfl) ?_
            refine lv_aload_n hx hb dX4_digest_338 rfl (lv_at hl 2 rfl) ?_
            refine kV_i (A := A) (b := am) (As := []) (rest := .long x :: []) ⟨hx, hb, hml, hown, hts⟩ (mX4_isTrue (A := A) (X := X) (P := P) (k := k) (xa := xa)) (cwV 0 hts (gV tw_7_22 tw_7_24 sel_X4_isTrue tw_1_8 tw_7_25) rfl rfl rfl (by decide +kernel) ⟨Nat.le_of_ble_eq_true rfl, Nat.le_of_ble_eq_true rfl⟩) hC hS hA (hW.recv hK) ⟨ra, pa, tx, hW⟩ rfl rfl hl.1 (Nat.le_of_ble_eq_true rfl) ⟨Nat.le_trans (show CC ≤ 18 by omega) (Nat.le_of_ble_eq_true rfl), Nat.le_trans (show SS9 ≤ 761 by omega) (Nat.le_of_ble_eq_true rfl)⟩ dX4_digest_339 (fun r9 h9 => lv_cv h9 ?_)
            refine kS_i (A := A) (As := [.int (bI true)]) (rest := .long x :: []) ⟨hx, hb, hml, hown, hts⟩ (mX4_one (A := A) ) (va_cwS 1 hts (gS tw_5_26 tw_5_27 tw_1_8 tw_5_28) rfl rfl rfl (by decide +kernel) ⟨Nat.le_of_ble_eq_true rfl, Nat.le_of_ble_eq_true rfl⟩) hC hS hA  trivial rfl rfl hl.1 (Nat.le_of_ble_eq_true rfl) ⟨Nat.le_trans (show CC ≤ 18 by omega) (Nat.le_of_ble_eq_true rfl), Nat.le_trans (show SS9 ≤ 761 by omega) (Nat.le_of_ble_eq_true rfl)⟩ dX4_digest_342 (fun r9 h9 => lv_cv h9 ?_)
            refine lv_i2l hx hb dX4_digest_345 rfl ?_
            refine kS_l (A := A) (As := [.long x, .long ((bI true).toInt64)]) (rest := []) ⟨hx, hb, hml, hown, hts⟩ (mX4_add (A := A) ) (va_cwS 2 hts (gS tw_7_31 tw_7_32 tw_1_8 tw_7_33) rfl rfl rfl (by decide +kernel) ⟨Nat.le_of_ble_eq_true rfl, Nat.le_of_ble_eq_true rfl⟩) hC hS hA trivial rfl rfl hl.1 (Nat.le_of_ble_eq_true rfl) ⟨Nat.le_trans (show CC ≤ 18 by omega) (Nat.le_of_ble_eq_true rfl), Nat.le_trans (show SS9 ≤ 761 by omega) (Nat.le_of_ble_eq_true rfl)⟩ dX4_digest_346 (fun y_21 _ => ?_)
            exact q_l hx hb hr hlocks dX4_digest_349 hS (by omega) (by omega) ⟨ra, pa, tx, hW⟩
          · have hcu : cu < P.length := by have := of_decide_eq_true c_20; omega
            obtain ⟨cap, f9, pq, w2, w3, w4, w5, w6⟩ := hPc cu hcu
            have w2 := at_kp w2 hkk (Nat.not_le_of_lt w2.lt)
            have hedl := w2.lt
            refine lv_aload_n hx hb dX4_digest_314 rfl (lv_at hl 0 rfl) ?_
            have d1 : pa ≠ rv19 := by have := hpl; omega
            have d2 : ed ≠ rv19 := Ne.symm (at_ne_oa hK hIt (r := (RJx35411, TJx35411, 4)) rfl w2 5 rfl)
            refine qR_F (x := xNX) (A := A) (A1 := ow rv19 rv19 H.size) (b := rv19) (As := []) (rest := []) (hK.1 2 _ rfl).2 ⟨hx, hb, hml, hown, hts⟩ (mJx35411_next_0502b (A := ow rv19 rv19 H.size) (lr := lr) (f := f9) (cap := cap) (n := P.length) (cu := cu) (md := md) (Or.inl rfl) hcu w3 (by omega) w5 d1 d2) (va_cwF 0 hts (gF tw_7_69 tw_7_72 tw_7_74 tw_1_28 tw_7_76) rfl rfl rfl hC.2.2.2.2.2.2.2.2.2.2.2.2.2.2.2.2.2.2 (by decide +kernel) ⟨Nat.le_of_ble_eq_true rfl, Nat.le_of_ble_eq_true rfl⟩) hC hS (ow_in (hA _ (by omega)) (hA _ (by omega)) hA hS.1) ow_n (at_recv hK hIt (q := (RJx35411, TJx35411, 4)) rfl) ⟨hIt, hPa, w2⟩ rfl rfl hl.1 (Nat.le_of_ble_eq_true rfl) ⟨by rw [← hcl]; exact (Nat.le_of_ble_eq_true rfl), by rw [← hsl]; exact (Nat.le_of_ble_eq_true rfl)⟩ dX4_digest_315 (fun r9 H9 L9 hP9 hk9 hS => ?_)
            obtain ⟨e9, hIt, -⟩ := hP9
            subst e9
            have hkk2 := hkk.tr (hk9.wk (fun q _ hq => by rcases hq with q1 | q1 | q1; exact q1 ▸ hiz; exact q1 ▸ hiz; exact Nat.le_trans hkk.1 q1))
            have w6 := w6.kp hkk2 (Nat.not_le_of_lt w6.lt)
            refine va_castA (D := G.1) hx hb hown (hts _ tw_5_164) (at_P w6.fst) 0 rfl (findIA hK) dX4_digest_320 ?_
            have hPq := w6.ia hC.2.1.2
            refine lv_astore (lv' := [(4, .ref r9), (3, .ref rv19), (1, .long x), (0, .ref am)]) hx hb dX4_digest_323 hl (by decide) rfl (fun ls hl => ?_)
            refine lv_lload_n hx hb dX4_digest_325 rfl (lv_at hl 2 rfl) ?_
            refine lv_aload hx hb dX4_digest_326 (lv_at hl 0 rfl) ?_
            refine h_ilen hx hb hC.2.1 hPq dX4_digest_328 ?_
            refine lv_i2l hx hb dX4_digest_329 rfl ?_
            refine kS_l (A := A) (As := [.long x, .long ((nI ((P.getD cu []).length)).toInt64)]) (rest := []) ⟨hx, hb, hml, hown, hts⟩ (mX4_add (A := A) ) (va_cwS 2 hts (gS tw_7_31 tw_7_32 tw_1_8 tw_7_33) rfl rfl rfl (by decide +kernel) ⟨Nat.le_of_ble_eq_true rfl, Nat.le_of_ble_eq_true rfl⟩) hC hS hA trivial rfl rfl hl.1 (Nat.le_of_ble_eq_true rfl) ⟨Nat.le_trans (show CC ≤ 18 by omega) (Nat.le_of_ble_eq_true rfl), Nat.le_trans (show SS9 ≤ 761 by omega) (Nat.le_of_ble_eq_true rfl)⟩ dX4_digest_330 (fun y_22 _ => ?_)
            refine lv_lstore_n (lv' := [(1, .long y_22), (4, .ref r9), (3, .ref rv19), (0, .ref am)]) hx hb dX4_digest_333 rfl hl (by decide) rfl (fun ls hl => ?_)
            refine lv_goto (tgt := 305) hx hb dX4_digest_334 (by decide) ?_
            exact ih (cu + 1) (by omega) (by omega) ls H9 L9 _ _ (lv_sub hl [2, 0, 3] rfl) hS hkk2 hIt
        · refine lv_aload_n hx hb dX4_digest_277 rfl (lv_at hl 2 rfl) ?_
          refine lv_iload hx hb dX4_digest_278 (lv_at hl 0 rfl) ?_
          refine h_ild hx hb hC.2.1 hR1 (i := q) (by omega) (by omega) dX4_digest_280 ?_
          refine lv_istore (lv' := [(6, .int (nI ((X 11).getD q 0))), (5, .int (nI q)), (4, .int (nI ((X 11).length))), (3, .ref ra), (1, .long x), (0, .ref am)]) hx hb dX4_digest_281 hl (by decide) rfl (fun ls hl => ?_)
          refine lv_lload_n hx hb dX4_digest_283 rfl (lv_at hl 4 rfl) ?_
          refine lv_iload hx hb dX4_digest_284 (lv_at hl 0 rfl) ?_
          refine lv_i2l hx hb dX4_digest_286 rfl ?_
          refine kS_l (A := A) (As := [.long x, .long ((nI ((X 11).getD q 0)).toInt64)]) (rest := []) ⟨hx, hb, hml, hown, hts⟩ (mX4_add (A := A) ) (va_cwS 2 hts (gS tw_7_31 tw_7_32 tw_1_8 tw_7_33) rfl rfl rfl (by decide +kernel) ⟨Nat.le_of_ble_eq_true rfl, Nat.le_of_ble_eq_true rfl⟩) hC hS hA trivial rfl rfl hl.1 (Nat.le_of_ble_eq_true rfl) ⟨Nat.le_trans (show (5 + 4 * 3) ≤ 18 by omega) (Nat.le_of_ble_eq_true rfl), Nat.le_trans (show (25 + 4 * 183) ≤ 761 by omega) (Nat.le_of_ble_eq_true rfl)⟩ dX4_digest_287 (fun y_23 _ => ?_)
          refine lv_lstore_n (lv' := [(1, .long y_23), (6, .int (nI ((X 11).getD q 0))), (5, .int (nI q)), (4, .int (nI ((X 11).length))), (3, .ref ra), (0, .ref am)]) hx hb dX4_digest_290 rfl hl (by decide) rfl (fun ls hl => ?_)
          refine lv_iinc (v := nI (q + 1)) (lv' := [(5, .int (nI (q + 1))), (1, .long y_23), (6, .int (nI ((X 11).getD q 0))), (4, .int (nI ((X 11).length))), (3, .ref ra), (0, .ref am)]) hx hb dX4_digest_291 hl (k := 2) rfl (nI_add q 1) (by decide) rfl (fun ls hl => ?_)
          refine lv_goto (tgt := 270) hx hb dX4_digest_294 (by decide) ?_
          exact ih (q + 1) (by omega) (by omega) ls _ (lv_sub hl [0, 3, 4, 1, 5] rfl)
      · have hXa := hW.txs
        refine lv_aload_n hx hb dX4_digest_147 rfl (lv_at hl 2 rfl) ?_
        refine lv_iload hx hb dX4_digest_148 (lv_at hl 0 rfl) ?_
        refine h_aaldI (D := G.1) hx hb hK 4 hW.txs rfl (vp_in_nI (n := j) (N := 4) (by omega) (by omega)) dX4_digest_150 ?_
        refine v_cv (show va_rf _ = .ref (tx j) from by rw [nI_clamp (n := j) (by omega)]; rfl) ?_
        have hTj := (hW.tx (j := j) (by omega)).ia hC.2.1.2
        have x60j := hW.2.2.1 j (Or.inl (by omega))
        have j60 := x60j.2
        refine lv_astore (lv' := [(6, .ref (tx j)), (5, .int (nI j)), (4, .int (nI 4)), (3, .ref xa), (1, .long x), (0, .ref am)]) hx hb dX4_digest_151 hl (by decide) rfl (fun ls hl => ?_)
        refine lv_aload_n hx hb dX4_digest_153 rfl (lv_at hl 5 rfl) ?_
        refine va_get (D := G.1) (ci := 8) (C := RX4) (T := TX4) (N := 5) hx hb hts inX4 hown hK (at_P hO) 0 rfl rfl 1 (by decide) (hts _ tw_4_173) (fun _ h9 => h9) rfl dX4_digest_154 ?_
        refine lv_astore (lv' := [(7, .ref xa), (6, .ref (tx j)), (5, .int (nI j)), (4, .int (nI 4)), (3, .ref xa), (1, .long x), (0, .ref am)]) hx hb dX4_digest_157 hl (by decide) rfl (fun ls hl => ?_)
        refine lv_aload hx hb dX4_digest_159 (lv_at hl 0 rfl) ?_
        refine va_alen hx hb hK (at_P hXa) 0 4 (v := nI 4) rfl rfl rfl dX4_digest_161 ?_
        refine lv_istore (lv' := [(8, .int (nI 4)), (7, .ref xa), (6, .ref (tx j)), (5, .int (nI j)), (4, .int (nI 4)), (3, .ref xa), (1, .long x), (0, .ref am)]) hx hb dX4_digest_162 hl (by decide) rfl (fun ls hl => ?_)
        refine lv_iconst (v := nI 0) hx hb dX4_digest_164 (by decide) ?_
        refine lv_istore (lv' := [(9, .int (nI 0)), (8, .int (nI 4)), (7, .ref xa), (6, .ref (tx j)), (5, .int (nI j)), (4, .int (nI 4)), (3, .ref xa), (1, .long x), (0, .ref am)]) hx hb dX4_digest_165 hl (by decide) rfl (fun ls hl => ?_)
        have ihj := ih
        clear ih
        have hl : lv_has ls 11 [(9, .int (nI 0)), (8, .int (nI 4)), (7, .ref xa), (6, .ref (tx j)), (5, .int (nI j)), (4, .int (nI 4)), (3, .ref xa), (1, .long x), (0, .ref am)] := (lv_sub hl [0, 1, 2, 3, 4, 5, 6, 7, 8] rfl)
        refine nloop (P := fun i => ∀ (ls : Array Slot) (x : Int64), lv_has ls 11 [(9, .int (nI i)), (8, .int (nI 4)), (7, .ref xa), (6, .ref (tx j)), (5, .int (nI j)), (4, .int (nI 4)), (3, .ref xa), (1, .long x), (0, .ref am)] → W p l e rmX4_digest s m [.ref am].toArray below meth c H L (5 + 4 * 3) (25 + 4 * 183) (MQ below (qL A (fun _ H => MW G A am xa X P k 0 H)) [.ref am].toArray s 18 761 (A)) (F0 m 167 ls [])) 4 ?_ 0 (Nat.zero_le _) ls x hl 
        clear hl
        intro i hi ih ls x hl
        refine lv_iload hx hb dX4_digest_167 (lv_at hl 0 rfl) ?_
        refine lv_iload hx hb dX4_digest_169 (lv_at hl 1 rfl) ?_
        refine b_ge (tgt := 252) hx hb dX4_digest_171 (by decide) (by omega) (by omega) (fun c_24 => ?_) (fun c_24 => ?_)
        · refine lv_iinc (v := nI (j + 1)) (lv' := [(5, .int (nI (j + 1))), (9, .int (nI i)), (8, .int (nI 4)), (7, .ref xa), (6, .ref (tx j)), (4, .int (nI 4)), (3, .ref xa), (1, .long x), (0, .ref am)]) hx hb dX4_digest_252 hl (k := 4) rfl (nI_add j 1) (by decide) rfl (fun ls hl => ?_)
          refine lv_goto (tgt := 140) hx hb dX4_digest_255 (by decide) ?_
          exact ihj (j + 1) (by omega) (by omega) ls _ (lv_sub hl [0, 5, 6, 7, 8] rfl)
        · refine lv_aload hx hb dX4_digest_174 (lv_at hl 2 rfl) ?_
          refine lv_iload hx hb dX4_digest_176 (lv_at hl 0 rfl) ?_
          refine h_aaldI (D := G.1) hx hb hK 4 hW.txs rfl (vp_in_nI (n := i) (N := 4) (by omega) (by omega)) dX4_digest_178 ?_
          refine v_cv (show va_rf _ = .ref (tx i) from by rw [nI_clamp (n := i) (by omega)]; rfl) ?_
          have hTi := (hW.tx (j := i) (by omega)).ia hC.2.1.2
          have x60i := hW.2.2.1 i (Or.inl (by omega))
          have i60 := x60i.2
          refine lv_astore (lv' := [(10, .ref (tx i)), (9, .int (nI i)), (8, .int (nI 4)), (7, .ref xa), (6, .ref (tx j)), (5, .int (nI j)), (4, .int (nI 4)), (3, .ref xa), (1, .long x), (0, .ref am)]) hx hb dX4_digest_179 hl (by decide) rfl (fun ls hl => ?_)
          refine lv_lload_n hx hb dX4_digest_181 rfl (lv_at hl 8 rfl) ?_
          refine lv_aload hx hb dX4_digest_182 (lv_at hl 4 rfl) ?_
          refine lv_aload hx hb dX4_digest_184 (lv_at hl 0 rfl) ?_
          refine kS_i (A := A) (As := [.ref (tx j), .ref (tx i)]) (rest := .long x :: []) ⟨hx, hb, hml, hown, hts⟩ (mX4_first (A := A) (t := X j) (u := X i) x60j.1 x60i.1 (by omega) (by omega)) (va_cwS 2 hts (gS tw_6_172 tw_6_173 tw_1_8 tw_6_174) rfl rfl rfl (by decide +kernel) ⟨Nat.le_of_ble_eq_true rfl, Nat.le_of_ble_eq_true rfl⟩) hC hS hA  ⟨hTj, hTi⟩ rfl rfl hl.1 (Nat.le_of_ble_eq_true rfl) ⟨Nat.le_trans (show (5 + 4 * 3) ≤ 18 by omega) (Nat.le_of_ble_eq_true rfl), Nat.le_trans (show (25 + 4 * 183) ≤ 761 by omega) (Nat.le_of_ble_eq_true rfl)⟩ dX4_digest_186 (fun r_25 hr_25 => ?_)
          refine lv_i2l hx hb dX4_digest_189 rfl ?_
          refine kS_l (A := A) (As := [.long x, .long r_25.toInt64]) (rest := []) ⟨hx, hb, hml, hown, hts⟩ (mX4_add (A := A) ) (va_cwS 2 hts (gS tw_7_31 tw_7_32 tw_1_8 tw_7_33) rfl rfl rfl (by decide +kernel) ⟨Nat.le_of_ble_eq_true rfl, Nat.le_of_ble_eq_true rfl⟩) hC hS hA trivial rfl rfl hl.1 (Nat.le_of_ble_eq_true rfl) ⟨Nat.le_trans (show (5 + 4 * 3) ≤ 18 by omega) (Nat.le_of_ble_eq_true rfl), Nat.le_trans (show (25 + 4 * 183) ≤ 761 by omega) (Nat.le_of_ble_eq_true rfl)⟩ dX4_digest_190 (fun y_26 _ => ?_)
          refine lv_aload hx hb dX4_digest_193 (lv_at hl 4 rfl) ?_
          refine lv_aload hx hb dX4_digest_195 (lv_at hl 0 rfl) ?_
          refine kS_i (A := A) (As := [.ref (tx j), .ref (tx i)]) (rest := .long y_26 :: []) ⟨hx, hb, hml, hown, hts⟩ (mX4_last (A := A) (t := X j) (u := X i) x60j.1 x60i.1 (by omega) (by omega)) (va_cwS 2 hts (gS tw_6_185 tw_6_186 tw_1_8 tw_6_187) rfl rfl rfl (by decide +kernel) ⟨Nat.le_of_ble_eq_true rfl, Nat.le_of_ble_eq_true rfl⟩) hC hS hA  ⟨hTj, hTi⟩ rfl rfl hl.1 (Nat.le_of_ble_eq_true rfl) ⟨Nat.le_trans (show (5 + 4 * 3) ≤ 18 by omega) (Nat.le_of_ble_eq_true rfl), Nat.le_trans (show (25 + 4 * 183) ≤ 761 by omega) (Nat.le_of_ble_eq_true rfl)⟩ dX4_digest_197 (fun r_27 hr_27 => ?_)
          refine lv_i2l hx hb dX4_digest_200 rfl ?_
          refine kS_l (A := A) (As := [.long y_26, .long r_27.toInt64]) (rest := []) ⟨hx, hb, hml, hown, hts⟩ (mX4_add (A := A) ) (va_cwS 2 hts (gS tw_7_31 tw_7_32 tw_1_8 tw_7_33) rfl rfl rfl (by decide +kernel) ⟨Nat.le_of_ble_eq_true rfl, Nat.le_of_ble_eq_true rfl⟩) hC hS hA trivial rfl rfl hl.1 (Nat.le_of_ble_eq_true rfl) ⟨Nat.le_trans (show (5 + 4 * 3) ≤ 18 by omega) (Nat.le_of_ble_eq_true rfl), Nat.le_trans (show (25 + 4 * 183) ≤ 761 by omega) (Nat.le_of_ble_eq_true rfl)⟩ dX4_digest_201 (fun y_28 _ => ?_)
          refine lv_lstore_n (lv' := [(1, .long y_28), (10, .ref (tx i)), (9, .int (nI i)), (8, .int (nI 4)), (7, .ref xa), (6, .ref (tx j)), (5, .int (nI j)), (4, .int (nI 4)), (3, .ref xa), (0, .ref am)]) hx hb dX4_digest_204 rfl hl (by decide) rfl (fun ls hl => ?_)
          refine lv_lload_n hx hb dX4_digest_205 rfl (lv_at hl 0 rfl) ?_
          refine lv_aload hx hb dX4_digest_206 (lv_at hl 5 rfl) ?_
          refine lv_aload hx hb dX4_digest_208 (lv_at hl 1 rfl) ?_
          refine lv_iconst (v := nI 0) hx hb dX4_digest_210 (by decide) ?_
          refine kS_i (A := A) (As := [.ref (tx j), .ref (tx i), .int (bI false)]) (rest := .long y_28 :: []) ⟨hx, hb, hml, hown, hts⟩ (mX4_order (A := A) (t := X j) (u := X i) (b0 := false) x60j.1 x60i.1 (by omega) (by omega)) (va_cwS 3 hts (gS tw_6_227 tw_6_228 tw_1_8 tw_6_229) rfl rfl rfl (by decide +kernel) ⟨Nat.le_of_ble_eq_true rfl, Nat.le_of_ble_eq_true rfl⟩) hC hS hA  ⟨hTj, hTi⟩ rfl rfl hl.1 (Nat.le_of_ble_eq_true rfl) ⟨Nat.le_trans (show (5 + 4 * 3) ≤ 18 by omega) (Nat.le_of_ble_eq_true rfl), Nat.le_trans (show (25 + 4 * 183) ≤ 761 by omega) (Nat.le_of_ble_eq_true rfl)⟩ dX4_digest_211 (fun r_29 hr_29 => ?_)
          refine lv_i2l hx hb dX4_digest_214 rfl ?_
          refine kS_l (A := A) (As := [.long y_28, .long r_29.toInt64]) (rest := []) ⟨hx, hb, hml, hown, hts⟩ (mX4_add (A := A) ) (va_cwS 2 hts (gS tw_7_31 tw_7_32 tw_1_8 tw_7_33) rfl rfl rfl (by decide +kernel) ⟨Nat.le_of_ble_eq_true rfl, Nat.le_of_ble_eq_true rfl⟩) hC hS hA trivial rfl rfl hl.1 (Nat.le_of_ble_eq_true rfl) ⟨Nat.le_trans (show (5 + 4 * 3) ≤ 18 by omega) (Nat.le_of_ble_eq_true rfl), Nat.le_trans (show (25 + 4 * 183) ≤ 761 by omega) (Nat.le_of_ble_eq_true rfl)⟩ dX4_digest_215 (fun y_30 _ => ?_)
          refine lv_aload hx hb dX4_digest_218 (lv_at hl 5 rfl) ?_
          refine lv_aload hx hb dX4_digest_220 (lv_at hl 1 rfl) ?_
          refine lv_iconst (v := nI 1) hx hb dX4_digest_222 (by decide) ?_
          refine kS_i (A := A) (As := [.ref (tx j), .ref (tx i), .int (bI true)]) (rest := .long y_30 :: []) ⟨hx, hb, hml, hown, hts⟩ (mX4_order (A := A) (t := X j) (u := X i) (b0 := true) x60j.1 x60i.1 (by omega) (by omega)) (va_cwS 3 hts (gS tw_6_227 tw_6_228 tw_1_8 tw_6_229) rfl rfl rfl (by decide +kernel) ⟨Nat.le_of_ble_eq_true rfl, Nat.le_of_ble_eq_true rfl⟩) hC hS hA  ⟨hTj, hTi⟩ rfl rfl hl.1 (Nat.le_of_ble_eq_true rfl) ⟨Nat.le_trans (show (5 + 4 * 3) ≤ 18 by omega) (Nat.le_of_ble_eq_true rfl), Nat.le_trans (show (25 + 4 * 183) ≤ 761 by omega) (Nat.le_of_ble_eq_true rfl)⟩ dX4_digest_223 (fun r_31 hr_31 => ?_)
          refine lv_i2l hx hb dX4_digest_226 rfl ?_
          refine kS_l (A := A) (As := [.long y_30, .long r_31.toInt64]) (rest := []) ⟨hx, hb, hml, hown, hts⟩ (mX4_add (A := A) ) (va_cwS 2 hts (gS tw_7_31 tw_7_32 tw_1_8 tw_7_33) rfl rfl rfl (by decide +kernel) ⟨Nat.le_of_ble_eq_true rfl, Nat.le_of_ble_eq_true rfl⟩) hC hS hA trivial rfl rfl hl.1 (Nat.le_of_ble_eq_true rfl) ⟨Nat.le_trans (show (5 + 4 * 3) ≤ 18 by omega) (Nat.le_of_ble_eq_true rfl), Nat.le_trans (show (25 + 4 * 183) ≤ 761 by omega) (Nat.le_of_ble_eq_true rfl)⟩ dX4_digest_227 (fun y_32 _ => ?_)
          refine lv_aload hx hb dX4_digest_230 (lv_at hl 5 rfl) ?_
          refine lv_aload hx hb dX4_digest_232 (lv_at hl 1 rfl) ?_
          refine lv_iconst (v := nI 1) hx hb dX4_digest_234 (by decide) ?_
          refine kS_i (A := A) (As := [.ref (tx j), .ref (tx i), .int (bI true)]) (rest := .long y_32 :: []) ⟨hx, hb, hml, hown, hts⟩ (mX4_isSame (A := A) (t := X j) (u := X i) (b0 := true) x60j.1 x60i.1 (by omega) (by omega)) (va_cwS 3 hts (gS tw_6_220 tw_6_221 tw_1_8 tw_6_222) rfl rfl rfl (by decide +kernel) ⟨Nat.le_of_ble_eq_true rfl, Nat.le_of_ble_eq_true rfl⟩) hC hS hA  ⟨hTj, hTi⟩ rfl rfl hl.1 (Nat.le_of_ble_eq_true rfl) ⟨Nat.le_trans (show (5 + 4 * 3) ≤ 18 by omega) (Nat.le_of_ble_eq_true rfl), Nat.le_trans (show (25 + 4 * 183) ≤ 761 by omega) (Nat.le_of_ble_eq_true rfl)⟩ dX4_digest_235 (fun r_33 hr_33 => ?_)
          obtain ⟨v9, hv9, rfl⟩ := hr_33
          refine kS_i (A := A) (As := [.int (bI v9)]) (rest := .long y_32 :: []) ⟨hx, hb, hml, hown, hts⟩ (mX4_one (A := A) ) (va_cwS 1 hts (gS tw_5_26 tw_5_27 tw_1_8 tw_5_28) rfl rfl rfl (by decide +kernel) ⟨Nat.le_of_ble_eq_true rfl, Nat.le_of_ble_eq_true rfl⟩) hC hS hA  trivial rfl rfl hl.1 (Nat.le_of_ble_eq_true rfl) ⟨Nat.le_trans (show (5 + 4 * 3) ≤ 18 by omega) (Nat.le_of_ble_eq_true rfl), Nat.le_trans (show (25 + 4 * 183) ≤ 761 by omega) (Nat.le_of_ble_eq_true rfl)⟩ dX4_digest_238 (fun r9 h9 => lv_cv h9 ?_)
          refine lv_i2l hx hb dX4_digest_241 rfl ?_
          refine kS_l (A := A) (As := [.long y_32, .long ((bI v9).toInt64)]) (rest := []) ⟨hx, hb, hml, hown, hts⟩ (mX4_add (A := A) ) (va_cwS 2 hts (gS tw_7_31 tw_7_32 tw_1_8 tw_7_33) rfl rfl rfl (by decide +kernel) ⟨Nat.le_of_ble_eq_true rfl, Nat.le_of_ble_eq_true rfl⟩) hC hS hA trivial rfl rfl hl.1 (Nat.le_of_ble_eq_true rfl) ⟨Nat.le_trans (show (5 + 4 * 3) ≤ 18 by omega) (Nat.le_of_ble_eq_true rfl), Nat.le_trans (show (25 + 4 * 183) ≤ 761 by omega) (Nat.le_of_ble_eq_true rfl)⟩ dX4_digest_242 (fun y_34 _ => ?_)
          refine lv_lstore_n (lv' := [(1, .long y_34), (10, .ref (tx i)), (9, .int (nI i)), (8, .int (nI 4)), (7, .ref xa), (6, .ref (tx j)), (5, .int (nI j)), (4, .int (nI 4)), (3, .ref xa), (0, .ref am)]) hx hb dX4_digest_245 rfl hl (by decide) rfl (fun ls hl => ?_)
          refine lv_iinc (v := nI (i + 1)) (lv' := [(9, .int (nI (i + 1))), (1, .long y_34), (10, .ref (tx i)), (8, .int (nI 4)), (7, .ref xa), (6, .ref (tx j)), (5, .int (nI j)), (4, .int (nI 4)), (3, .ref xa), (0, .ref am)]) hx hb dX4_digest_246 hl (k := 2) rfl (nI_add i 1) (by decide) rfl (fun ls hl => ?_)
          refine lv_goto (tgt := 167) hx hb dX4_digest_249 (by decide) ?_
          exact ih (i + 1) (by omega) (by omega) ls _ (lv_sub hl [0, 3, 4, 5, 6, 7, 8, 1, 9] rfl)
    · refine lv_aload_n hx hb dX4_digest_52 rfl (lv_at hl 2 rfl) ?_
      refine lv_iload hx hb dX4_digest_53 (lv_at hl 0 rfl) ?_
      refine h_aaldI (D := G.1) hx hb hK 4 hW.txs rfl (vp_in_nI (n := j) (N := 4) (by omega) (by omega)) dX4_digest_55 ?_
      refine v_cv (show va_rf _ = .ref (tx j) from by rw [nI_clamp (n := j) (by omega)]; rfl) ?_
      have hTj := (hW.tx (j := j) (by omega)).ia hC.2.1.2
      have x60j := hW.2.2.1 j (Or.inl (by omega))
      have j60 := x60j.2
      refine lv_astore (lv' := [(6, .ref (tx j)), (5, .int (nI j)), (4, .int (nI 4)), (3, .ref xa), (1, .long x), (0, .ref am)]) hx hb dX4_digest_56 hl (by decide) rfl (fun ls hl => ?_)
      refine lv_lload_n hx hb dX4_digest_58 rfl (lv_at hl 4 rfl) ?_
      refine lv_aload hx hb dX4_digest_59 (lv_at hl 0 rfl) ?_
      refine kS_i (A := A) (As := [.ref (tx j)]) (rest := .long x :: []) ⟨hx, hb, hml, hown, hts⟩ (mX4_hash (A := A) (t := X j) (by omega)) (va_cwS 1 hts (gS tw_6_165 tw_6_166 tw_1_8 tw_6_167) rfl rfl rfl (by decide +kernel) ⟨Nat.le_of_ble_eq_true rfl, Nat.le_of_ble_eq_true rfl⟩) hC hS hA  hTj rfl rfl hl.1 (Nat.le_of_ble_eq_true rfl) ⟨Nat.le_trans (show (5 + j * 3) ≤ 18 by omega) (Nat.le_of_ble_eq_true rfl), Nat.le_trans (show (25 + j * 183) ≤ 761 by omega) (Nat.le_of_ble_eq_true rfl)⟩ dX4_digest_61 (fun r9 h9 => lv_cv h9 ?_)
      refine lv_i2l hx hb dX4_digest_64 rfl ?_
      refine kS_l (A := A) (As := [.long x, .long ((hashL (X j)).toInt64)]) (rest := []) ⟨hx, hb, hml, hown, hts⟩ (mX4_add (A := A) ) (va_cwS 2 hts (gS tw_7_31 tw_7_32 tw_1_8 tw_7_33) rfl rfl rfl (by decide +kernel) ⟨Nat.le_of_ble_eq_true rfl, Nat.le_of_ble_eq_true rfl⟩) hC hS hA trivial rfl rfl hl.1 (Nat.le_of_ble_eq_true rfl) ⟨Nat.le_trans (show (5 + j * 3) ≤ 18 by omega) (Nat.le_of_ble_eq_true rfl), Nat.le_trans (show (25 + j * 183) ≤ 761 by omega) (Nat.le_of_ble_eq_true rfl)⟩ dX4_digest_65 (fun y_35 _ => ?_)
      refine lv_aload hx hb dX4_digest_68 (lv_at hl 0 rfl) ?_
      refine h_ilen hx hb hC.2.1 hTj dX4_digest_70 ?_
      refine lv_i2l hx hb dX4_digest_71 rfl ?_
      refine kS_l (A := A) (As := [.long y_35, .long ((nI ((X j).length)).toInt64)]) (rest := []) ⟨hx, hb, hml, hown, hts⟩ (mX4_add (A := A) ) (va_cwS 2 hts (gS tw_7_31 tw_7_32 tw_1_8 tw_7_33) rfl rfl rfl (by decide +kernel) ⟨Nat.le_of_ble_eq_true rfl, Nat.le_of_ble_eq_true rfl⟩) hC hS hA trivial rfl rfl hl.1 (Nat.le_of_ble_eq_true rfl) ⟨Nat.le_trans (show (5 + j * 3) ≤ 18 by omega) (Nat.le_of_ble_eq_true rfl), Nat.le_trans (show (25 + j * 183) ≤ 761 by omega) (Nat.le_of_ble_eq_true rfl)⟩ dX4_digest_72 (fun y_36 _ => ?_)
      refine lv_aload hx hb dX4_digest_75 (lv_at hl 0 rfl) ?_
      refine lv_iconst (v := nI 1) hx hb dX4_digest_77 (by decide) ?_
      have hra := hW.row.lt
      have hTj := (hW.tx (j := j) (by omega)).ia hC.2.1.2
      have x60j := hW.2.2.1 j (Or.inl (by omega))
      have j60 := x60j.2
      refine qR_S (A := A) (A1 := nw H.size)  (As := [.ref (tx j), .int (bI true)]) (rest := .long y_36 :: []) ⟨hx, hb, hml, hown, hts⟩ (mX4_trimmed (A := nw H.size) (sz := H.size) (t := X j) (b := true) x60j.1 (by omega)) (va_cwS 2 hts (gS tw_5_9 tw_5_10 tw_1_8 tw_5_11) rfl rfl rfl (by decide +kernel) ⟨Nat.le_of_ble_eq_true rfl, Nat.le_of_ble_eq_true rfl⟩) hC hS (nw_in hA hS.1) nw_n  ⟨rfl, hTj⟩ rfl rfl hl.1 (Nat.le_of_ble_eq_true rfl) ⟨Nat.le_trans (show (5 + j * 3) + 1 ≤ 18 by omega) (Nat.le_of_ble_eq_true rfl), Nat.le_trans (show (25 + j * 183) + 61 ≤ 761 by omega) (Nat.le_of_ble_eq_true rfl)⟩ dX4_digest_78 (fun rv37 H37 L37 hP37 hk37 hS => ?_)
      have hZ37 := hS.1
      obtain ⟨hsz9, e9, he9, hR9⟩ := hP37
      have hW := hW.nw hk37
      have hR8 := hR9.ia hC.2.1.2
      have hcle := cutL_le (X j) (tbL true (X j)) e9
      refine h_ilen hx hb hC.2.1 hR8 dX4_digest_81 ?_
      refine z_ne (tgt := 89) hx hb dX4_digest_82 (by decide) (by omega) (fun c_38 => ?_) (fun c_38 => ?_)
      · refine lv_iconst (v := nI 0) hx hb dX4_digest_89 (by decide) ?_
        refine kS_i (A := A) (As := [.int (bI false)]) (rest := .long y_36 :: []) ⟨hx, hb, hml, hown, hts⟩ (mX4_one (A := A) ) (va_cwS 1 hts (gS tw_5_26 tw_5_27 tw_1_8 tw_5_28) rfl rfl rfl (by decide +kernel) ⟨Nat.le_of_ble_eq_true rfl, Nat.le_of_ble_eq_true rfl⟩) hC hS hA  trivial rfl rfl hl.1 (Nat.le_of_ble_eq_true rfl) ⟨Nat.le_trans (show ((5 + j * 3) + 1) ≤ 18 by omega) (Nat.le_of_ble_eq_true rfl), Nat.le_trans (show ((25 + j * 183) + 61) ≤ 761 by omega) (Nat.le_of_ble_eq_true rfl)⟩ dX4_digest_90 (fun r9 h9 => lv_cv h9 ?_)
        refine lv_i2l hx hb dX4_digest_93 rfl ?_
        refine kS_l (A := A) (As := [.long y_36, .long ((bI false).toInt64)]) (rest := []) ⟨hx, hb, hml, hown, hts⟩ (mX4_add (A := A) ) (va_cwS 2 hts (gS tw_7_31 tw_7_32 tw_1_8 tw_7_33) rfl rfl rfl (by decide +kernel) ⟨Nat.le_of_ble_eq_true rfl, Nat.le_of_ble_eq_true rfl⟩) hC hS hA trivial rfl rfl hl.1 (Nat.le_of_ble_eq_true rfl) ⟨Nat.le_trans (show ((5 + j * 3) + 1) ≤ 18 by omega) (Nat.le_of_ble_eq_true rfl), Nat.le_trans (show ((25 + j * 183) + 61) ≤ 761 by omega) (Nat.le_of_ble_eq_true rfl)⟩ dX4_digest_94 (fun y_39 _ => ?_)
        refine lv_lstore_n (lv' := [(1, .long y_39), (6, .ref (tx j)), (5, .int (nI j)), (4, .int (nI 4)), (3, .ref xa), (0, .ref am)]) hx hb dX4_digest_97 rfl hl (by decide) rfl (fun ls hl => ?_)
        refine lv_lload_n hx hb dX4_digest_98 rfl (lv_at hl 0 rfl) ?_
        refine lv_aload hx hb dX4_digest_99 (lv_at hl 1 rfl) ?_
        refine lv_iconst (v := nI 0) hx hb dX4_digest_101 (by decide) ?_
        have hra := hW.row.lt
        have hTj := (hW.tx (j := j) (by omega)).ia hC.2.1.2
        have x60j := hW.2.2.1 j (Or.inl (by omega))
        have j60 := x60j.2
        refine qR_S (A := A) (A1 := nw H37.size)  (As := [.ref (tx j), .int (bI false)]) (rest := .long y_39 :: []) ⟨hx, hb, hml, hown, hts⟩ (mX4_trimmed (A := nw H37.size) (sz := H37.size) (t := X j) (b := false) x60j.1 (by omega)) (va_cwS 2 hts (gS tw_5_9 tw_5_10 tw_1_8 tw_5_11) rfl rfl rfl (by decide +kernel) ⟨Nat.le_of_ble_eq_true rfl, Nat.le_of_ble_eq_true rfl⟩) hC hS (nw_in hA hS.1) nw_n  ⟨rfl, hTj⟩ rfl rfl hl.1 (Nat.le_of_ble_eq_true rfl) ⟨Nat.le_trans (show ((5 + j * 3) + 1) + 1 ≤ 18 by omega) (Nat.le_of_ble_eq_true rfl), Nat.le_trans (show ((25 + j * 183) + 61) + 61 ≤ 761 by omega) (Nat.le_of_ble_eq_true rfl)⟩ dX4_digest_102 (fun rv40 H40 L40 hP40 hk40 hS => ?_)
        have hZ40 := hS.1
        obtain ⟨hsz9, e9, he9, hR9⟩ := hP40
        have hW := hW.nw hk40
        have hR8 := hR9.ia hC.2.1.2
        have hcle := cutL_le (X j) (tbL false (X j)) e9
        refine h_ilen hx hb hC.2.1 hR8 dX4_digest_105 ?_
        refine lv_i2l hx hb dX4_digest_106 rfl ?_
        refine kS_l (A := A) (As := [.long y_39, .long ((nI ((cutL (X j) (tbL false (X j)) e9).length)).toInt64)]) (rest := []) ⟨hx, hb, hml, hown, hts⟩ (mX4_add (A := A) ) (va_cwS 2 hts (gS tw_7_31 tw_7_32 tw_1_8 tw_7_33) rfl rfl rfl (by decide +kernel) ⟨Nat.le_of_ble_eq_true rfl, Nat.le_of_ble_eq_true rfl⟩) hC hS hA trivial rfl rfl hl.1 (Nat.le_of_ble_eq_true rfl) ⟨Nat.le_trans (show (((5 + j * 3) + 1) + 1) ≤ 18 by omega) (Nat.le_of_ble_eq_true rfl), Nat.le_trans (show (((25 + j * 183) + 61) + 61) ≤ 761 by omega) (Nat.le_of_ble_eq_true rfl)⟩ dX4_digest_107 (fun y_41 _ => ?_)
        refine lv_aload hx hb dX4_digest_110 (lv_at hl 1 rfl) ?_
        refine lv_iconst (v := nI 1) hx hb dX4_digest_112 (by decide) ?_
        have hra := hW.row.lt
        have hTj := (hW.tx (j := j) (by omega)).ia hC.2.1.2
        have x60j := hW.2.2.1 j (Or.inl (by omega))
        have j60 := x60j.2
        refine qR_S (A := A) (A1 := nw H40.size)  (As := [.ref (tx j), .int (bI true)]) (rest := .long y_41 :: []) ⟨hx, hb, hml, hown, hts⟩ (mX4_trimmed (A := nw H40.size) (sz := H40.size) (t := X j) (b := true) x60j.1 (by omega)) (va_cwS 2 hts (gS tw_5_9 tw_5_10 tw_1_8 tw_5_11) rfl rfl rfl (by decide +kernel) ⟨Nat.le_of_ble_eq_true rfl, Nat.le_of_ble_eq_true rfl⟩) hC hS (nw_in hA hS.1) nw_n  ⟨rfl, hTj⟩ rfl rfl hl.1 (Nat.le_of_ble_eq_true rfl) ⟨Nat.le_trans (show (((5 + j * 3) + 1) + 1) + 1 ≤ 18 by omega) (Nat.le_of_ble_eq_true rfl), Nat.le_trans (show (((25 + j * 183) + 61) + 61) + 61 ≤ 761 by omega) (Nat.le_of_ble_eq_true rfl)⟩ dX4_digest_113 (fun rv42 H42 L42 hP42 hk42 hS => ?_)
        have hZ42 := hS.1
        obtain ⟨hsz9, e9, he9, hR9⟩ := hP42
        have hW := hW.nw hk42
        have hR8 := hR9.ia hC.2.1.2
        have hcle := cutL_le (X j) (tbL true (X j)) e9
        refine h_ilen hx hb hC.2.1 hR8 dX4_digest_116 ?_
        refine lv_i2l hx hb dX4_digest_117 rfl ?_
        refine kS_l (A := A) (As := [.long y_41, .long ((nI ((cutL (X j) (tbL true (X j)) e9).length)).toInt64)]) (rest := []) ⟨hx, hb, hml, hown, hts⟩ (mX4_add (A := A) ) (va_cwS 2 hts (gS tw_7_31 tw_7_32 tw_1_8 tw_7_33) rfl rfl rfl (by decide +kernel) ⟨Nat.le_of_ble_eq_true rfl, Nat.le_of_ble_eq_true rfl⟩) hC hS hA trivial rfl rfl hl.1 (Nat.le_of_ble_eq_true rfl) ⟨Nat.le_trans (show ((((5 + j * 3) + 1) + 1) + 1) ≤ 18 by omega) (Nat.le_of_ble_eq_true rfl), Nat.le_trans (show ((((25 + j * 183) + 61) + 61) + 61) ≤ 761 by omega) (Nat.le_of_ble_eq_true rfl)⟩ dX4_digest_118 (fun y_43 _ => ?_)
        refine lv_lstore_n (lv' := [(1, .long y_43), (6, .ref (tx j)), (5, .int (nI j)), (4, .int (nI 4)), (3, .ref xa), (0, .ref am)]) hx hb dX4_digest_121 rfl hl (by decide) rfl (fun ls hl => ?_)
        refine lv_iinc (v := nI (j + 1)) (lv' := [(5, .int (nI (j + 1))), (1, .long y_43), (6, .ref (tx j)), (4, .int (nI 4)), (3, .ref xa), (0, .ref am)]) hx hb dX4_digest_122 hl (k := 2) rfl (nI_add j 1) (by decide) rfl (fun ls hl => ?_)
        refine lv_goto (tgt := 45) hx hb dX4_digest_125 (by decide) ?_
        refine W.widen (k := 5 + (j + 1) * 3) (n := 25 + (j + 1) * 183) (by omega) (by omega) ?_
        exact ih (j + 1) (by omega) (by omega) ls H42 L42 _ (lv_sub hl [0, 3, 4, 1, 5] rfl) hS hW
      · refine lv_iconst (v := nI 1) hx hb dX4_digest_85 (by decide) ?_
        refine lv_goto (tgt := 90) hx hb dX4_digest_86 (by decide) ?_
        refine kS_i (A := A) (As := [.int (bI true)]) (rest := .long y_36 :: []) ⟨hx, hb, hml, hown, hts⟩ (mX4_one (A := A) ) (va_cwS 1 hts (gS tw_5_26 tw_5_27 tw_1_8 tw_5_28) rfl rfl rfl (by decide +kernel) ⟨Nat.le_of_ble_eq_true rfl, Nat.le_of_ble_eq_true rfl⟩) hC hS hA  trivial rfl rfl hl.1 (Nat.le_of_ble_eq_true rfl) ⟨Nat.le_trans (show ((5 + j * 3) + 1) ≤ 18 by omega) (Nat.le_of_ble_eq_true rfl), Nat.le_trans (show ((25 + j * 183) + 61) ≤ 761 by omega) (Nat.le_of_ble_eq_true rfl)⟩ dX4_digest_90 (fun r9 h9 => lv_cv h9 ?_)
        refine lv_i2l hx hb dX4_digest_93 rfl ?_
        refine kS_l (A := A) (As := [.long y_36, .long ((bI true).toInt64)]) (rest := []) ⟨hx, hb, hml, hown, hts⟩ (mX4_add (A := A) ) (va_cwS 2 hts (gS tw_7_31 tw_7_32 tw_1_8 tw_7_33) rfl rfl rfl (by decide +kernel) ⟨Nat.le_of_ble_eq_true rfl, Nat.le_of_ble_eq_true rfl⟩) hC hS hA trivial rfl rfl hl.1 (Nat.le_of_ble_eq_true rfl) ⟨Nat.le_trans (show ((5 + j * 3) + 1) ≤ 18 by omega) (Nat.le_of_ble_eq_true rfl), Nat.le_trans (show ((25 + j * 183) + 61) ≤ 761 by omega) (Nat.le_of_ble_eq_true rfl)⟩ dX4_digest_94 (fun y_44 _ => ?_)
        refine lv_lstore_n (lv' := [(1, .long y_44), (6, .ref (tx j)), (5, .int (nI j)), (4, .int (nI 4)), (3, .ref xa), (0, .ref am)]) hx hb dX4_digest_97 rfl hl (by decide) rfl (fun ls hl => ?_)
        refine lv_lload_n hx hb dX4_digest_98 rfl (lv_at hl 0 rfl) ?_
        refine lv_aload hx hb dX4_digest_99 (lv_at hl 1 rfl) ?_
        refine lv_iconst (v := nI 0) hx hb dX4_digest_101 (by decide) ?_
        have hra := hW.row.lt
        have hTj := (hW.tx (j := j) (by omega)).ia hC.2.1.2
        have x60j := hW.2.2.1 j (Or.inl (by omega))
        have j60 := x60j.2
        refine qR_S (A := A) (A1 := nw H37.size)  (As := [.ref (tx j), .int (bI false)]) (rest := .long y_44 :: []) ⟨hx, hb, hml, hown, hts⟩ (mX4_trimmed (A := nw H37.size) (sz := H37.size) (t := X j) (b := false) x60j.1 (by omega)) (va_cwS 2 hts (gS tw_5_9 tw_5_10 tw_1_8 tw_5_11) rfl rfl rfl (by decide +kernel) ⟨Nat.le_of_ble_eq_true rfl, Nat.le_of_ble_eq_true rfl⟩) hC hS (nw_in hA hS.1) nw_n  ⟨rfl, hTj⟩ rfl rfl hl.1 (Nat.le_of_ble_eq_true rfl) ⟨Nat.le_trans (show ((5 + j * 3) + 1) + 1 ≤ 18 by omega) (Nat.le_of_ble_eq_true rfl), Nat.le_trans (show ((25 + j * 183) + 61) + 61 ≤ 761 by omega) (Nat.le_of_ble_eq_true rfl)⟩ dX4_digest_102 (fun rv45 H45 L45 hP45 hk45 hS => ?_)
        have hZ45 := hS.1
        obtain ⟨hsz9, e9, he9, hR9⟩ := hP45
        have hW := hW.nw hk45
        have hR8 := hR9.ia hC.2.1.2
        have hcle := cutL_le (X j) (tbL false (X j)) e9
        refine h_ilen hx hb hC.2.1 hR8 dX4_digest_105 ?_
        refine lv_i2l hx hb dX4_digest_106 rfl ?_
        refine kS_l (A := A) (As := [.long y_44, .long ((nI ((cutL (X j) (tbL false (X j)) e9).length)).toInt64)]) (rest := []) ⟨hx, hb, hml, hown, hts⟩ (mX4_add (A := A) ) (va_cwS 2 hts (gS tw_7_31 tw_7_32 tw_1_8 tw_7_33) rfl rfl rfl (by decide +kernel) ⟨Nat.le_of_ble_eq_true rfl, Nat.le_of_ble_eq_true rfl⟩) hC hS hA trivial rfl rfl hl.1 (Nat.le_of_ble_eq_true rfl) ⟨Nat.le_trans (show (((5 + j * 3) + 1) + 1) ≤ 18 by omega) (Nat.le_of_ble_eq_true rfl), Nat.le_trans (show (((25 + j * 183) + 61) + 61) ≤ 761 by omega) (Nat.le_of_ble_eq_true rfl)⟩ dX4_digest_107 (fun y_46 _ => ?_)
        refine lv_aload hx hb dX4_digest_110 (lv_at hl 1 rfl) ?_
        refine lv_iconst (v := nI 1) hx hb dX4_digest_112 (by decide) ?_
        have hra := hW.row.lt
        have hTj := (hW.tx (j := j) (by omega)).ia hC.2.1.2
        have x60j := hW.2.2.1 j (Or.inl (by omega))
        have j60 := x60j.2
        refine qR_S (A := A) (A1 := nw H45.size)  (As := [.ref (tx j), .int (bI true)]) (rest := .long y_46 :: []) ⟨hx, hb, hml, hown, hts⟩ (mX4_trimmed (A := nw H45.size) (sz := H45.size) (t := X j) (b := true) x60j.1 (by omega)) (va_cwS 2 hts (gS tw_5_9 tw_5_10 tw_1_8 tw_5_11) rfl rfl rfl (by decide +kernel) ⟨Nat.le_of_ble_eq_true rfl, Nat.le_of_ble_eq_true rfl⟩) hC hS (nw_in hA hS.1) nw_n  ⟨rfl, hTj⟩ rfl rfl hl.1 (Nat.le_of_ble_eq_true rfl) ⟨Nat.le_trans (show (((5 + j * 3) + 1) + 1) + 1 ≤ 18 by omega) (Nat.le_of_ble_eq_true rfl), Nat.le_trans (show (((25 + j * 183) + 61) + 61) + 61 ≤ 761 by omega) (Nat.le_of_ble_eq_true rfl)⟩ dX4_digest_113 (fun rv47 H47 L47 hP47 hk47 hS => ?_)
        have hZ47 := hS.1
        obtain ⟨hsz9, e9, he9, hR9⟩ := hP47
        have hW := hW.nw hk47
        have hR8 := hR9.ia hC.2.1.2
        have hcle := cutL_le (X j) (tbL true (X j)) e9
        refine h_ilen hx hb hC.2.1 hR8 dX4_digest_116 ?_
        refine lv_i2l hx hb dX4_digest_117 rfl ?_
        refine kS_l (A := A) (As := [.long y_46, .long ((nI ((cutL (X j) (tbL true (X j)) e9).length)).toInt64)]) (rest := []) ⟨hx, hb, hml, hown, hts⟩ (mX4_add (A := A) ) (va_cwS 2 hts (gS tw_7_31 tw_7_32 tw_1_8 tw_7_33) rfl rfl rfl (by decide +kernel) ⟨Nat.le_of_ble_eq_true rfl, Nat.le_of_ble_eq_true rfl⟩) hC hS hA trivial rfl rfl hl.1 (Nat.le_of_ble_eq_true rfl) ⟨Nat.le_trans (show ((((5 + j * 3) + 1) + 1) + 1) ≤ 18 by omega) (Nat.le_of_ble_eq_true rfl), Nat.le_trans (show ((((25 + j * 183) + 61) + 61) + 61) ≤ 761 by omega) (Nat.le_of_ble_eq_true rfl)⟩ dX4_digest_118 (fun y_48 _ => ?_)
        refine lv_lstore_n (lv' := [(1, .long y_48), (6, .ref (tx j)), (5, .int (nI j)), (4, .int (nI 4)), (3, .ref xa), (0, .ref am)]) hx hb dX4_digest_121 rfl hl (by decide) rfl (fun ls hl => ?_)
        refine lv_iinc (v := nI (j + 1)) (lv' := [(5, .int (nI (j + 1))), (1, .long y_48), (6, .ref (tx j)), (4, .int (nI 4)), (3, .ref xa), (0, .ref am)]) hx hb dX4_digest_122 hl (k := 2) rfl (nI_add j 1) (by decide) rfl (fun ls hl => ?_)
        refine lv_goto (tgt := 45) hx hb dX4_digest_125 (by decide) ?_
        refine W.widen (k := 5 + (j + 1) * 3) (n := 25 + (j + 1) * 183) (by omega) (by omega) ?_
        exact ih (j + 1) (by omega) (by omega) ls H47 L47 _ (lv_sub hl [0, 3, 4, 1, 5] rfl) hS hW
  · obtain ⟨ra, pa, tx, hW⟩ := hM
    refine lv_lload_n hx hb dX4_digest_16 rfl (lv_at hl 1 rfl) ?_
    refine lv_aload_n hx hb dX4_digest_17 rfl (lv_at hl 2 rfl) ?_
    refine lv_iload_n hx hb dX4_digest_18 rfl (lv_at hl 0 rfl) ?_
    refine qI_V (A := A) (A1 := A) (b := am) (As := [.int (nI j)]) (rest := .long x :: []) ⟨hx, hb, hml, hown, hts⟩ (mX4_houseTold (A := A) (X := X) (P := P) (k := k) (xa := xa) (w9 := j) (by omega)) (cwV 1 hts (gV tw_7_14 tw_7_16 sel_X4_houseTold tw_1_8 tw_7_17) rfl rfl rfl (by decide +kernel) ⟨Nat.le_of_ble_eq_true rfl, Nat.le_of_ble_eq_true rfl⟩) hC hS (fun _ h => h) (fun q h => hA q (Nat.le_trans hS.1 h)) (hW.recv hK) ⟨ra, pa, tx, hW⟩ rfl rfl hl.1 (Nat.le_of_ble_eq_true rfl) ⟨Nat.le_trans (show (0 + j) + 1 ≤ 18 by omega) (Nat.le_of_ble_eq_true rfl), Nat.le_trans (show (0 + j * 5) + 5 ≤ 761 by omega) (Nat.le_of_ble_eq_true rfl)⟩ dX4_digest_19 (fun rv49 H49 L49 hP49 hk49 hS => ?_)
    have hZ49 := hS.1
    refine lv_i2l hx hb dX4_digest_22 rfl ?_
    refine kS_l (A := A) (As := [.long x, .long rv49.toInt64]) (rest := []) ⟨hx, hb, hml, hown, hts⟩ (mX4_add (A := A) ) (va_cwS 2 hts (gS tw_7_31 tw_7_32 tw_1_8 tw_7_33) rfl rfl rfl (by decide +kernel) ⟨Nat.le_of_ble_eq_true rfl, Nat.le_of_ble_eq_true rfl⟩) hC hS hA trivial rfl rfl hl.1 (Nat.le_of_ble_eq_true rfl) ⟨Nat.le_trans (show ((0 + j) + 1) ≤ 18 by omega) (Nat.le_of_ble_eq_true rfl), Nat.le_trans (show ((0 + j * 5) + 5) ≤ 761 by omega) (Nat.le_of_ble_eq_true rfl)⟩ dX4_digest_23 (fun y_50 _ => ?_)
    refine lv_lstore_n (lv' := [(1, .long y_50), (3, .int (nI j)), (0, .ref am)]) hx hb dX4_digest_26 rfl hl (by decide) rfl (fun ls hl => ?_)
    refine lv_iinc (v := nI (j + 1)) (lv' := [(3, .int (nI (j + 1))), (1, .long y_50), (0, .ref am)]) hx hb dX4_digest_27 hl (k := 1) rfl (nI_add j 1) (by decide) rfl (fun ls hl => ?_)
    refine lv_goto (tgt := 11) hx hb dX4_digest_30 (by decide) ?_
    refine W.widen (k := 0 + (j + 1)) (n := 0 + (j + 1) * 5) (by omega) (by omega) ?_
    exact ih (j + 1) (by omega) (by omega) ls H49 L49 _ (lv_sub hl [0, 1, 2] rfl) hS hP49.2
