/-! THE CLAIM OUT OF ONE WALK OF THE LAW'S BODY. Your part is whole_start (and what it stands on); all else here is the same for every law, but numbers. -/
def R_law : String := "SigntextLaw"
def lw_P (b : Addr) (xs : List Int32) (args : Array Value) (s : State) : Prop := args = #[.ref b] ∧ s.IntsAt b xs ∧ xs.length ≤ 3584 ∧ (Jvm.Cond.and given_1 narrow_1).before args s = true
def lw_Q (_ : Array Value) (s : State) (o : Outcome) (t : State) : Prop := o = .returned (some (.int 1)) ∧ Framed s o t [] 601024 7293034
def lw_Z (below : List Frame) (a : Array Value) (s : State) : State → Prop := fun t => ∃ o, t.status = .running ∧ Ended t below o ∧ lw_Q a s o t
/-- the law's own end, with 1 on the stack, nothing written that was there before, its room as the claim has it -/
theorem lw_ret {p : Program} {l : Launch} {e : Env} {s : State} {m : MethodId} {below : List Frame} {meth : Method} {c : Code} {b : Nat} (hx : p.tables.exec = Jvm.exec) (hb : c.code = code) (hr : meth.sig.returnType = ret) (hlocks : meth.locks = false) {pc : Nat} {H : Heap} {ls : Array Slot} (hdg : decode code pc = .ok (.ireturn, 1)) : W p l e room_1 s m #[Value.ref b] below meth c H [] 601024 7293034 (lw_Z below #[Value.ref b] s) (F0 m pc ls [.int 1]) := by
  intro T hT X
  obtain ⟨fs, hret, hrun, hended, hW, hframe⟩ := X.leave (v := some (.int 1)) (hlocks := hlocks) (fun h => by rw [hr] at h; cases h)
  have hmeth' : T.vm.method? m = some meth := X.method'
  refine ⟨T.setFrames fs, ?_, .returned (some (.int 1)), hrun, hended, rfl, ⟨_, rfl⟩, hW, hframe⟩
  jvm_step X.here [X.here.top, hx, hb, hdg, hmeth', hr, ret, narrow_b1]
  (try refine ⟨rfl, ?_⟩); (try refine ⟨rfl, ?_⟩)
  first | (intro acts; rw [hret _ acts rfl rfl rfl]) | rw [hret _ _ rfl rfl rfl]
  exact Steps.refl _
/-- what holds at the law's entry: the machine, the code, the tables' words (any of lw_tbl by 'hts w (by decide +kernel)'), the script of L ints xs at the cell b, what the Statement gives of the start (any of its parts by flat_of_before) -/
def lw_At (p : Program) (s : State) (m : MethodId) (meth : Method) (c : Code) (b L : Nat) (xs : Nat → Int32) : Prop :=
  p.tables.exec = Jvm.exec ∧ c.code = code ∧ meth.sig.returnType = ret ∧ c.maxLocals = 7 ∧ s.vm.findClass R_law = some m.cls ∧ (∀ w ∈ lw_tbl, w.before #[Value.ref b] s = true) ∧ va_X b L xs s s.heap ∧ b < s.heap.size ∧ meth.locks = false ∧ (Jvm.Cond.and given_1 narrow_1).before #[Value.ref b] s = true
/-! THE LAW, 8: its loop and its start -/
theorem law_end {i L : Nat} (hi : i ≤ L + 6) (hL : L ≤ 3584) (h : ¬ nI L - nI 7 < nI i) : i + 6 < L := by
  rcases Nat.lt_or_ge (i + 6) L with q | q
  · exact q
  · exfalso
    apply h
    rw [Int32.lt_iff_toInt_lt, Int32.toInt_sub, nI_toInt (n := L) (by omega), nI_toInt (n := 7) (by omega), nI_toInt (n := i) (by omega)]
    first
      | (rw [Int.bmod_eq_of_le (by omega) (by omega)]; omega)
      | (simp only [Int.bmod]; omega)
      | (rw [Int.bmod_def]; split <;> omega)
theorem law_key (v : Int32) : ∃ n : Nat, n < 64 ∧ v &&& nI 63 = nI n := by
  refine ⟨(v &&& nI 63).toBitVec.toNat, ?_, ?_⟩
  · rw [Int32.toBitVec_and, BitVec.toNat_and]
    exact Nat.and_lt_two_pow (n := 6) _ (by decide +kernel)
  · apply Int32.toBitVec_inj.mp
    unfold nI
    rw [Int32.toBitVec_ofNat']
    simp
theorem MW.out {G : Cx} {SA : Nat → Nat} {A : Nat → Prop} {out am xa n0 : Nat} {X : Nat → List Nat} {P : List (List Nat)} {k th : Int32} {H : Heap} (h : ∀ q : Nat, A q → q < H.size → A2f n0 SA out q) (hM : MW G A am xa X P k th H) : MW G (A2f n0 SA out) am xa X P k th H := by
  obtain ⟨ra, pa, tx, a1, a2, a3, a4, b1, b2, b3, b4, b5, b6, b7, b8⟩ := hM
  refine ⟨ra, pa, tx, h _ a1 b4.lt, h _ a2 b5.lt, a3, a4, h _ b1 b7.lt, ?_, b3, b4, b5, b6, b7, ?_⟩
  · obtain ⟨h0, ⟨e, md, g⟩ | ⟨md, ed, cap, f, pe, h1, h2, h3, h4, h5, h6⟩⟩ := b8
    · exact h _ b2 g.lt
    · exact h _ b2 h1.lt
  · obtain ⟨h0, ⟨e, md, g⟩ | ⟨md, ed, cap, f, pe, h1, h2, h3, h4, h5, h6⟩⟩ := b8
    · exact ⟨h0, Or.inl ⟨e, md, g⟩⟩
    · exact ⟨h0, Or.inr ⟨md, ed, cap, f, pe, h1, h2, h _ h3 h2.lt, h4, h5, h6⟩⟩
theorem MW.kn {G : Cx} {A : Nat → Prop} {am xa : Nat} {X : Nat → List Nat} {P : List (List Nat)} {k th : Int32} {H H1 : Heap} (hM : MW G A am xa X P k th H) (hn : ∀ q : Nat, q < H.size → H1[q]? = H[q]?) : MW G A am xa X P k th H1 := by
  obtain ⟨ra, pa, tx, h⟩ := hM
  exact ⟨ra, pa, tx, h.n hn⟩
set_option maxRecDepth 100000 in
theorem law_loop {p : Program} {l : Launch} {e : Env} {s : State} {m : MethodId} {below : List Frame} {meth : Method} {c : Code} {b L : Nat} {xs : Nat → Int32} {G : Cx} {SA : Nat → Nat} {am xa out : Nat} (Z : LX p l e s m meth c b L xs G SA out) (hr : meth.sig.returnType = ret) (hlocks : meth.locks = false) :
    ∀ (n t : Nat) (k : Int32) (H : Heap) (locs : List Loc) (ls : Array Slot), t + n = 513 → 7 * t ≤ L + 6 → Inv G s SA am xa out k H → va_S (A0f s.heap.size) s.heap H locs → lv_has ls 7 [(0, .ref b), (1, .ref (SA 0)), (2, .ref am), (3, .ref out), (4, .int (nI (7 * t)))] → W p l e room_1 s m #[Value.ref b] below meth c H locs (48 + t * 140) (1222 + t * 9600) (lw_Z below #[Value.ref b] s) (F0 m 27 ls []) := by
  obtain ⟨hx, hb, hml, hown, hts, hC, hX, hbl, hL, hst, hSA, hSo, hout⟩ := id Z
  have hbA : ¬ A0f s.heap.size b := Nat.not_le_of_lt hbl
  intro n
  induction n with
  | zero => intro t k H locs ls h1 h2; omega
  | succ n ih =>
    intro t k H locs ls h1 h2 hI hS hl
    have ht : t ≤ 512 := by omega
    refine lv_iload hx hb dL_law_27 (lv_at hl 4 rfl) ?_
    refine lv_aload_n hx hb dL_law_29 rfl (lv_at hl 0 rfl) ?_
    refine va_slen hx hb hX hbl hbA hS dL_law_30 ?_
    refine lv_bipush (v := nI 7) hx hb dL_law_31 (by decide) ?_
    refine lv_isub hx hb dL_law_33 ?_
    refine lv_icmp_gt (tgt := 2121) hx hb dL_law_34 (by decide) (fun c_1 => ?_) (fun c_1 => ?_)
    · refine lv_iconst (v := 1) hx hb dL_law_2121 (by decide) ?_
      refine va_forget (fun q hq => hS.2.2 q hq) ?_
      refine W.widen (k := 601024) (n := 7293034) (by omega) (by omega) ?_
      exact lw_ret hx hb hr hlocks dL_law_2122
    · have hlt : 7 * t + 6 < L := law_end h2 hL c_1
      have hc1 : 48 + t * 140 + 140 ≤ room_1.cells := by show _ ≤ 601024; omega
      have hs1 : 1222 + t * 9600 + 9600 ≤ room_1.slots := by show _ ≤ 7293034; omega
      have hkk : ∀ (k' : Int32) (H' : Heap) (locs' : List Loc) (ls' : Array Slot), Inv G s SA am xa out k' H' → va_S (A0f s.heap.size) s.heap H' locs' → lv_has ls' 7 [(0, .ref b), (1, .ref (SA 0)), (2, .ref am), (3, .ref out), (4, .int (nI (7 * t)))] → W p l e room_1 s m #[Value.ref b] below meth c H' locs' (48 + t * 140 + 140) (1222 + t * 9600 + 9600) (lw_Z below #[Value.ref b] s) (F0 m 2115 ls' []) := by
        intro k' H' locs' ls' hI' hS' hl'
        refine lv_iinc (v := nI (7 * (t + 1))) (lv' := [(4, .int (nI (7 * (t + 1)))), (0, .ref b), (1, .ref (SA 0)), (2, .ref am), (3, .ref out)]) hx hb dL_law_2115 hl' (k := 4) rfl (by rw [show 7 * (t + 1) = 7 * t + 7 by omega]; exact (congrArg (nI (7 * t) + ·) (by decide : Int32.ofInt 7 = nI 7)).trans (nI_add (7 * t) 7)) (by decide) rfl (fun ls'' hl'' => ?_)
        refine lv_goto (tgt := 27) hx hb dL_law_2118 (by decide) ?_
        rw [show 48 + t * 140 + 140 = 48 + (t + 1) * 140 by omega, show 1222 + t * 9600 + 9600 = 1222 + (t + 1) * 9600 by omega]
        exact ih (t + 1) k' H' locs' ls'' (by omega) (by omega) hI' hS' (lv_sub hl'' [1, 2, 3, 4, 0] rfl)
      refine lv_aload_n hx hb dL_law_37 rfl (lv_at hl 0 rfl) ?_
      refine lv_iload hx hb dL_law_38 (lv_at hl 4 rfl) ?_
      refine va_sld hx hb hX hbl hbA hS (vp_in_nI (n := 7 * t) (N := L) (by omega) (by omega)) dL_law_40 ?_
      refine lv_bipush (v := nI 63) hx hb dL_law_41 (by decide) ?_
      refine lv_iand hx hb dL_law_43 ?_
      obtain ⟨n9, hn9, hk9⟩ := law_key (xs (nI (7 * t)).toNatClampNeg)
      refine lv_cv hk9 ?_
      clear hk9
      match n9, hn9 with
      | 0, _ =>
        refine lv_tableIn (tgt := 236) (off := 192) hx hb dL_law_44 (by decide) (by decide) (by decide) (by decide) ?_
        exact lc_put Z k H locs _ _ (7 * t) ls _ hI hS hlt hc1 hs1 hl hkk
      | 1, _ =>
        refine lv_tableIn (tgt := 326) (off := 282) hx hb dL_law_44 (by decide) (by decide) (by decide) (by decide) ?_
        exact lc_clear Z k H locs _ _ (7 * t) ls _ hI hS hlt hc1 hs1 hl hkk
      | 2, _ =>
        refine lv_tableIn (tgt := 354) (off := 310) hx hb dL_law_44 (by decide) (by decide) (by decide) (by decide) ?_
        exact lc_copy Z k H locs _ _ (7 * t) ls _ hI hS hlt hc1 hs1 hl hkk
      | 3, _ =>
        refine lv_tableIn (tgt := 394) (off := 350) hx hb dL_law_44 (by decide) (by decide) (by decide) (by decide) ?_
        exact lc_part Z k H locs _ _ (7 * t) ls _ hI hS hlt hc1 hs1 hl hkk
      | 4, _ =>
        refine lv_tableIn (tgt := 458) (off := 414) hx hb dL_law_44 (by decide) (by decide) (by decide) (by decide) ?_
        exact lc_tail Z k H locs _ _ (7 * t) ls _ hI hS hlt hc1 hs1 hl hkk
      | 5, _ =>
        refine lv_tableIn (tgt := 510) (off := 466) hx hb dL_law_44 (by decide) (by decide) (by decide) (by decide) ?_
        exact lc_join Z k H locs _ _ (7 * t) ls _ hI hS hlt hc1 hs1 hl hkk
      | 6, _ =>
        refine lv_tableIn (tgt := 562) (off := 518) hx hb dL_law_44 (by decide) (by decide) (by decide) (by decide) ?_
        exact lc_times Z k H locs _ _ (7 * t) ls _ hI hS hlt hc1 hs1 hl hkk
      | 7, _ =>
        refine lv_tableIn (tgt := 614) (off := 570) hx hb dL_law_44 (by decide) (by decide) (by decide) (by decide) ?_
        exact lc_trim Z k H locs _ _ (7 * t) ls _ hI hS hlt hc1 hs1 hl hkk
      | 8, _ =>
        refine lv_tableIn (tgt := 682) (off := 638) hx hb dL_law_44 (by decide) (by decide) (by decide) (by decide) ?_
        exact lc_number Z k H locs _ _ (7 * t) ls _ hI hS hlt hc1 hs1 hl hkk
      | 9, _ =>
        refine lv_tableIn (tgt := 750) (off := 706) hx hb dL_law_44 (by decide) (by decide) (by decide) (by decide) ?_
        exact lc_great Z k H locs _ _ (7 * t) ls _ hI hS hlt hc1 hs1 hl hkk
      | 10, _ =>
        refine lv_tableIn (tgt := 802) (off := 758) hx hb dL_law_44 (by decide) (by decide) (by decide) (by decide) ?_
        exact lc_truth Z k H locs _ _ (7 * t) ls _ hI hS hlt hc1 hs1 hl hkk
      | 11, _ =>
        refine lv_tableIn (tgt := 886) (off := 842) hx hb dL_law_44 (by decide) (by decide) (by decide) (by decide) ?_
        exact lc_ahead Z k H locs _ _ (7 * t) ls _ hI hS hlt hc1 hs1 hl hkk
      | 12, _ =>
        refine lv_tableIn (tgt := 926) (off := 882) hx hb dL_law_44 (by decide) (by decide) (by decide) (by decide) ?_
        exact lc_known Z k H locs _ _ (7 * t) ls _ hI hS hlt hc1 hs1 hl hkk
      | 13, _ =>
        refine lv_tableIn (tgt := 966) (off := 922) hx hb dL_law_44 (by decide) (by decide) (by decide) (by decide) ?_
        exact lc_lay Z k H locs _ _ (7 * t) ls _ hI hS hlt hc1 hs1 hl hkk
      | 14, _ =>
        refine lv_tableIn (tgt := 994) (off := 950) hx hb dL_law_44 (by decide) (by decide) (by decide) (by decide) ?_
        exact lc_set Z k H locs _ _ (7 * t) ls _ hI hS hlt hc1 hs1 hl hkk
      | 15, _ =>
        refine lv_tableIn (tgt := 1034) (off := 990) hx hb dL_law_44 (by decide) (by decide) (by decide) (by decide) ?_
        exact lc_take Z k H locs _ _ (7 * t) ls _ hI hS hlt hc1 hs1 hl hkk
      | 16, _ =>
        refine lv_tableIn (tgt := 1062) (off := 1018) hx hb dL_law_44 (by decide) (by decide) (by decide) (by decide) ?_
        exact lc_takePart Z k H locs _ _ (7 * t) ls _ hI hS hlt hc1 hs1 hl hkk
      | 17, _ =>
        refine lv_tableIn (tgt := 1114) (off := 1070) hx hb dL_law_44 (by decide) (by decide) (by decide) (by decide) ?_
        exact lc_cut Z k H locs _ _ (7 * t) ls _ hI hS hlt hc1 hs1 hl hkk
      | 18, _ =>
        refine lv_tableIn (tgt := 1142) (off := 1098) hx hb dL_law_44 (by decide) (by decide) (by decide) (by decide) ?_
        exact lc_takePiece Z k H locs _ _ (7 * t) ls _ hI hS hlt hc1 hs1 hl hkk
      | 19, _ =>
        refine lv_tableIn (tgt := 1182) (off := 1138) hx hb dL_law_44 (by decide) (by decide) (by decide) (by decide) ?_
        exact lc_knock Z k H locs _ _ (7 * t) ls _ hI hS hlt hc1 hs1 hl hkk
      | 20, _ =>
        refine lv_tableIn (tgt := 1195) (off := 1151) hx hb dL_law_44 (by decide) (by decide) (by decide) (by decide) ?_
        exact lc_text Z k H locs _ _ (7 * t) ls _ hI hS hlt hc1 hs1 hl hkk
      | 21, _ =>
        refine lv_tableIn (tgt := 1223) (off := 1179) hx hb dL_law_44 (by decide) (by decide) (by decide) (by decide) ?_
        exact lc_length Z k H locs _ _ (7 * t) ls _ hI hS hlt hc1 hs1 hl hkk
      | 22, _ =>
        refine lv_tableIn (tgt := 1251) (off := 1207) hx hb dL_law_44 (by decide) (by decide) (by decide) (by decide) ?_
        exact lc_at Z k H locs _ _ (7 * t) ls _ hI hS hlt hc1 hs1 hl hkk
      | 23, _ =>
        refine lv_tableIn (tgt := 1291) (off := 1247) hx hb dL_law_44 (by decide) (by decide) (by decide) (by decide) ?_
        exact lc_isEmpty Z k H locs _ _ (7 * t) ls _ hI hS hlt hc1 hs1 hl hkk
      | 24, _ =>
        refine lv_tableIn (tgt := 1319) (off := 1275) hx hb dL_law_44 (by decide) (by decide) (by decide) (by decide) ?_
        exact lc_isBlank Z k H locs _ _ (7 * t) ls _ hI hS hlt hc1 hs1 hl hkk
      | 25, _ =>
        refine lv_tableIn (tgt := 1347) (off := 1303) hx hb dL_law_44 (by decide) (by decide) (by decide) (by decide) ?_
        exact lc_hash Z k H locs _ _ (7 * t) ls _ hI hS hlt hc1 hs1 hl hkk
      | 26, _ =>
        refine lv_tableIn (tgt := 1375) (off := 1331) hx hb dL_law_44 (by decide) (by decide) (by decide) (by decide) ?_
        exact lc_first Z k H locs _ _ (7 * t) ls _ hI hS hlt hc1 hs1 hl hkk
      | 27, _ =>
        refine lv_tableIn (tgt := 1415) (off := 1371) hx hb dL_law_44 (by decide) (by decide) (by decide) (by decide) ?_
        exact lc_last Z k H locs _ _ (7 * t) ls _ hI hS hlt hc1 hs1 hl hkk
      | 28, _ =>
        refine lv_tableIn (tgt := 1455) (off := 1411) hx hb dL_law_44 (by decide) (by decide) (by decide) (by decide) ?_
        exact lc_next Z k H locs _ _ (7 * t) ls _ hI hS hlt hc1 hs1 hl hkk
      | 29, _ =>
        refine lv_tableIn (tgt := 1507) (off := 1463) hx hb dL_law_44 (by decide) (by decide) (by decide) (by decide) ?_
        exact lc_begins Z k H locs _ _ (7 * t) ls _ hI hS hlt hc1 hs1 hl hkk
      | 30, _ =>
        refine lv_tableIn (tgt := 1575) (off := 1531) hx hb dL_law_44 (by decide) (by decide) (by decide) (by decide) ?_
        exact lc_stands Z k H locs _ _ (7 * t) ls _ hI hS hlt hc1 hs1 hl hkk
      | 31, _ =>
        refine lv_tableIn (tgt := 1655) (off := 1611) hx hb dL_law_44 (by decide) (by decide) (by decide) (by decide) ?_
        exact lc_firstOf Z k H locs _ _ (7 * t) ls _ hI hS hlt hc1 hs1 hl hkk
      | 32, _ =>
        refine lv_tableIn (tgt := 1695) (off := 1651) hx hb dL_law_44 (by decide) (by decide) (by decide) (by decide) ?_
        exact lc_lastOf Z k H locs _ _ (7 * t) ls _ hI hS hlt hc1 hs1 hl hkk
      | 33, _ =>
        refine lv_tableIn (tgt := 1735) (off := 1691) hx hb dL_law_44 (by decide) (by decide) (by decide) (by decide) ?_
        exact lc_isIn Z k H locs _ _ (7 * t) ls _ hI hS hlt hc1 hs1 hl hkk
      | 34, _ =>
        refine lv_tableIn (tgt := 1775) (off := 1731) hx hb dL_law_44 (by decide) (by decide) (by decide) (by decide) ?_
        exact lc_isSame Z k H locs _ _ (7 * t) ls _ hI hS hlt hc1 hs1 hl hkk
      | 35, _ =>
        refine lv_tableIn (tgt := 1843) (off := 1799) hx hb dL_law_44 (by decide) (by decide) (by decide) (by decide) ?_
        exact lc_order Z k H locs _ _ (7 * t) ls _ hI hS hlt hc1 hs1 hl hkk
      | 36, _ =>
        refine lv_tableIn (tgt := 1883) (off := 1839) hx hb dL_law_44 (by decide) (by decide) (by decide) (by decide) ?_
        exact lc_orderLike Z k H locs _ _ (7 * t) ls _ hI hS hlt hc1 hs1 hl hkk
      | 37, _ =>
        refine lv_tableIn (tgt := 1952) (off := 1908) hx hb dL_law_44 (by decide) (by decide) (by decide) (by decide) ?_
        exact lc_row Z k H locs _ _ (7 * t) ls _ hI hS hlt hc1 hs1 hl hkk
      | 38, _ =>
        refine lv_tableIn (tgt := 1965) (off := 1921) hx hb dL_law_44 (by decide) (by decide) (by decide) (by decide) ?_
        exact lc_rowAt Z k H locs _ _ (7 * t) ls _ hI hS hlt hc1 hs1 hl hkk
      | 39, _ =>
        refine lv_tableIn (tgt := 1993) (off := 1949) hx hb dL_law_44 (by decide) (by decide) (by decide) (by decide) ?_
        exact lc_piece Z k H locs _ _ (7 * t) ls _ hI hS hlt hc1 hs1 hl hkk
      | 40, _ =>
        refine lv_tableIn (tgt := 2021) (off := 1977) hx hb dL_law_44 (by decide) (by decide) (by decide) (by decide) ?_
        exact lc_isPiece Z k H locs _ _ (7 * t) ls _ hI hS hlt hc1 hs1 hl hkk
      | 41, _ =>
        refine lv_tableIn (tgt := 2061) (off := 2017) hx hb dL_law_44 (by decide) (by decide) (by decide) (by decide) ?_
        exact lc_house Z k H locs _ _ (7 * t) ls _ hI hS hlt hc1 hs1 hl hkk
      | 42, _ =>
        refine lv_tableIn (tgt := 2089) (off := 2045) hx hb dL_law_44 (by decide) (by decide) (by decide) (by decide) ?_
        exact lc_isSound Z k H locs _ _ (7 * t) ls _ hI hS hlt hc1 hs1 hl hkk
      | 43, _ =>
        refine lv_tableIn (tgt := 2102) (off := 2058) hx hb dL_law_44 (by decide) (by decide) (by decide) (by decide) ?_
        exact lc_digest Z k H locs _ _ (7 * t) ls _ hI hS hlt hc1 hs1 hl hkk
      | 44, _ =>
        refine lv_tableOut (tgt := 2115) hx hb dL_law_44 (by decide) (by decide) ?_
        refine W.widen (k := 48 + t * 140 + 140) (n := 1222 + t * 9600 + 9600) (by omega) (by omega) ?_
        exact hkk k H locs ls hI hS hl
      | 45, _ =>
        refine lv_tableOut (tgt := 2115) hx hb dL_law_44 (by decide) (by decide) ?_
        refine W.widen (k := 48 + t * 140 + 140) (n := 1222 + t * 9600 + 9600) (by omega) (by omega) ?_
        exact hkk k H locs ls hI hS hl
      | 46, _ =>
        refine lv_tableOut (tgt := 2115) hx hb dL_law_44 (by decide) (by decide) ?_
        refine W.widen (k := 48 + t * 140 + 140) (n := 1222 + t * 9600 + 9600) (by omega) (by omega) ?_
        exact hkk k H locs ls hI hS hl
      | 47, _ =>
        refine lv_tableOut (tgt := 2115) hx hb dL_law_44 (by decide) (by decide) ?_
        refine W.widen (k := 48 + t * 140 + 140) (n := 1222 + t * 9600 + 9600) (by omega) (by omega) ?_
        exact hkk k H locs ls hI hS hl
      | 48, _ =>
        refine lv_tableOut (tgt := 2115) hx hb dL_law_44 (by decide) (by decide) ?_
        refine W.widen (k := 48 + t * 140 + 140) (n := 1222 + t * 9600 + 9600) (by omega) (by omega) ?_
        exact hkk k H locs ls hI hS hl
      | 49, _ =>
        refine lv_tableOut (tgt := 2115) hx hb dL_law_44 (by decide) (by decide) ?_
        refine W.widen (k := 48 + t * 140 + 140) (n := 1222 + t * 9600 + 9600) (by omega) (by omega) ?_
        exact hkk k H locs ls hI hS hl
      | 50, _ =>
        refine lv_tableOut (tgt := 2115) hx hb dL_law_44 (by decide) (by decide) ?_
        refine W.widen (k := 48 + t * 140 + 140) (n := 1222 + t * 9600 + 9600) (by omega) (by omega) ?_
        exact hkk k H locs ls hI hS hl
      | 51, _ =>
        refine lv_tableOut (tgt := 2115) hx hb dL_law_44 (by decide) (by decide) ?_
        refine W.widen (k := 48 + t * 140 + 140) (n := 1222 + t * 9600 + 9600) (by omega) (by omega) ?_
        exact hkk k H locs ls hI hS hl
      | 52, _ =>
        refine lv_tableOut (tgt := 2115) hx hb dL_law_44 (by decide) (by decide) ?_
        refine W.widen (k := 48 + t * 140 + 140) (n := 1222 + t * 9600 + 9600) (by omega) (by omega) ?_
        exact hkk k H locs ls hI hS hl
      | 53, _ =>
        refine lv_tableOut (tgt := 2115) hx hb dL_law_44 (by decide) (by decide) ?_
        refine W.widen (k := 48 + t * 140 + 140) (n := 1222 + t * 9600 + 9600) (by omega) (by omega) ?_
        exact hkk k H locs ls hI hS hl
      | 54, _ =>
        refine lv_tableOut (tgt := 2115) hx hb dL_law_44 (by decide) (by decide) ?_
        refine W.widen (k := 48 + t * 140 + 140) (n := 1222 + t * 9600 + 9600) (by omega) (by omega) ?_
        exact hkk k H locs ls hI hS hl
      | 55, _ =>
        refine lv_tableOut (tgt := 2115) hx hb dL_law_44 (by decide) (by decide) ?_
        refine W.widen (k := 48 + t * 140 + 140) (n := 1222 + t * 9600 + 9600) (by omega) (by omega) ?_
        exact hkk k H locs ls hI hS hl
      | 56, _ =>
        refine lv_tableOut (tgt := 2115) hx hb dL_law_44 (by decide) (by decide) ?_
        refine W.widen (k := 48 + t * 140 + 140) (n := 1222 + t * 9600 + 9600) (by omega) (by omega) ?_
        exact hkk k H locs ls hI hS hl
      | 57, _ =>
        refine lv_tableOut (tgt := 2115) hx hb dL_law_44 (by decide) (by decide) ?_
        refine W.widen (k := 48 + t * 140 + 140) (n := 1222 + t * 9600 + 9600) (by omega) (by omega) ?_
        exact hkk k H locs ls hI hS hl
      | 58, _ =>
        refine lv_tableOut (tgt := 2115) hx hb dL_law_44 (by decide) (by decide) ?_
        refine W.widen (k := 48 + t * 140 + 140) (n := 1222 + t * 9600 + 9600) (by omega) (by omega) ?_
        exact hkk k H locs ls hI hS hl
      | 59, _ =>
        refine lv_tableOut (tgt := 2115) hx hb dL_law_44 (by decide) (by decide) ?_
        refine W.widen (k := 48 + t * 140 + 140) (n := 1222 + t * 9600 + 9600) (by omega) (by omega) ?_
        exact hkk k H locs ls hI hS hl
      | 60, _ =>
        refine lv_tableOut (tgt := 2115) hx hb dL_law_44 (by decide) (by decide) ?_
        refine W.widen (k := 48 + t * 140 + 140) (n := 1222 + t * 9600 + 9600) (by omega) (by omega) ?_
        exact hkk k H locs ls hI hS hl
      | 61, _ =>
        refine lv_tableOut (tgt := 2115) hx hb dL_law_44 (by decide) (by decide) ?_
        refine W.widen (k := 48 + t * 140 + 140) (n := 1222 + t * 9600 + 9600) (by omega) (by omega) ?_
        exact hkk k H locs ls hI hS hl
      | 62, _ =>
        refine lv_tableOut (tgt := 2115) hx hb dL_law_44 (by decide) (by decide) ?_
        refine W.widen (k := 48 + t * 140 + 140) (n := 1222 + t * 9600 + 9600) (by omega) (by omega) ?_
        exact hkk k H locs ls hI hS hl
      | 63, _ =>
        refine lv_tableOut (tgt := 2115) hx hb dL_law_44 (by decide) (by decide) ?_
        refine W.widen (k := 48 + t * 140 + 140) (n := 1222 + t * 9600 + 9600) (by omega) (by omega) ?_
        exact hkk k H locs ls hI hS hl
      | q + 64, h => exact absurd h (by omega)
/-- from the entry -/
theorem whole_start {p : Program} {e : Env} {s : State} {m : MethodId} {below : List Frame} {meth : Method} {c : Code} (l : Launch) (hflags : l.flags = flags0) {b L : Nat} {xs : Nat → Int32} (hL : L ≤ 3584) (C0 : lw_At p s m meth c b L xs) : W p l e room_1 s m #[Value.ref b] below meth c s.heap [] 0 0 (lw_Z below #[Value.ref b] s) (entryFrame m ([Value.ref b] : List Value).toArray 7) := by
  obtain ⟨hx, hb, hr, hml, hown, hts0, hX, hbl, hlocks, hgv⟩ := C0
  have hb : c.code = cL_law := hb
  have hown : s.vm.findClass "SigntextLaw" = some m.cls := hown
  have hst : l.stackTraces = false := by
    unfold Launch.stackTraces
    rw [hflags]
    decide +kernel
  obtain ⟨G, hC⟩ := cx_start hts0 (fun w hw => flat_of_before _ hgv w hw)
  have hts := gw_start hts0
  have hK := hC.1
  have hA : ∀ q : Nat, s.heap.size ≤ q → A0f s.heap.size q := fun q h => h
  have hbA : ¬ A0f s.heap.size b := Nat.not_le_of_lt hbl
  have hC : cx G (A0f s.heap.size) s := hC
  have hS : va_S (A0f s.heap.size) s.heap s.heap [] := va_S.rf
  have hl := lv_entry ([.ref b]) (n := 7) (Nat.le_of_ble_eq_true rfl)
  rw [lg_entry_eq]
  generalize (lg_sl ([.ref b]) ++ List.replicate (7 - (lg_sl ([.ref b])).length) Slot.unset).toArray = ls at hl ⊢
  have hl : lv_has ls 7 [(0, .ref b)] := hl
  refine h_new (D := G.1) (C := RX2) (T := TX2) (N := 8) (ci := 6) (fs := [.null, .null, .null, .null, .int 0, .null, .null, .null]) hx hb hts inX2 tyX2 tyX2_ok hown (hts _ tw_1_29) (hts _ tw_1_30) (hts _ tw_1_1) hK hS rfl (fun j hj => match j, hj with | 0, _ => rfl | 1, _ => rfl | 2, _ => rfl | 3, _ => rfl | 4, _ => rfl | 5, _ => rfl | 6, _ => rfl | 7, _ => rfl) (Nat.le_trans (show 0 + 1 ≤ 601024 by omega) (Nat.le_of_ble_eq_true rfl)) (Nat.le_trans (show 0 + 8 ≤ 7293034 by omega) (Nat.le_of_ble_eq_true rfl)) dL_law_0 (fun q0 H8 hq0 hOq0 z8 o8 hS => ?_)
  have hZ8 := hS.1
  have hMq0 : A0f s.heap.size q0 := hA q0 (by omega)
  refine lv_dup hx hb dL_law_3 rfl ?_
  refine qV_I (A := A0f s.heap.size) (A1 := (A0f s.heap.size)) (b := q0) (As := []) (rest := .ref q0 :: []) ⟨hx, hb, hml, hown, hts⟩ (mX2_init (A := (A0f s.heap.size)) (a := q0) (n := H8.size) (hA q0 (by omega))) (cwI 0 hts (gI tw_1_33) rfl rfl rfl (hts _ tw_1_1) (hts _ tw_1_31) (hts _ tw_1_32) rfl (by decide +kernel) ⟨Nat.le_of_ble_eq_true rfl, Nat.le_of_ble_eq_true rfl⟩) hC hS (fun _ h => h) (fun q h => Nat.le_trans hS.1 h)  ⟨rfl, hOq0⟩ rfl rfl hl.1 (Nat.le_of_ble_eq_true rfl) ⟨Nat.le_trans (show (0 + 1) + 38 ≤ 601024 by omega) (Nat.le_of_ble_eq_true rfl), Nat.le_trans (show (0 + 8) + 1200 ≤ 7293034 by omega) (Nat.le_of_ble_eq_true rfl)⟩ dL_law_4 (fun H9 L9 hP9 hk9 hS => ?_)
  have hZ9 := hS.1
  obtain ⟨hz9, hW⟩ := hP9
  obtain ⟨SA, hSAd⟩ : ∃ SA : Nat → Nat, SA = SAc q0 H8.size := ⟨_, rfl⟩
  rw [← hSAd] at hW
  have hSA : ∀ i : Nat, i < 39 → s.heap.size ≤ SA i := fun i hi => by rw [hSAd]; unfold SAc; split <;> omega
  have hs0 : SA 0 = q0 := by rw [hSAd]; rfl
  have hWlt := hW.lt
  refine lv_astore_n (lv' := [(1, .ref q0), (0, .ref b)]) hx hb dL_law_7 rfl hl (by decide) rfl (fun ls hl => ?_)
  refine h_new (D := G.1) (C := RX4) (T := TX4) (N := 5) (ci := 8) (fs := [.int 0, .null, .null, .null, .int 0]) hx hb hts inX4 tyX4 tyX4_ok hown (hts _ tw_4_135) (hts _ tw_4_136) (hts _ tw_1_8) hK hS rfl (fun j hj => match j, hj with | 0, _ => rfl | 1, _ => rfl | 2, _ => rfl | 3, _ => rfl | 4, _ => rfl) (Nat.le_trans (show ((0 + 1) + 38) + 1 ≤ 601024 by omega) (Nat.le_of_ble_eq_true rfl)) (Nat.le_trans (show ((0 + 8) + 1200) + 5 ≤ 7293034 by omega) (Nat.le_of_ble_eq_true rfl)) dL_law_8 (fun q1 H10 hq1 hOq1 z10 o10 hS => ?_)
  have hZ10 := hS.1
  have hMq1 : A0f s.heap.size q1 := hA q1 (by omega)
  have hW := hW.kp (X := fun _ => False) (kp.new z10 o10) (fun _ _ h => h)
  refine lv_dup hx hb dL_law_11 rfl ?_
  refine qV_I (A := A0f s.heap.size) (A1 := (fun q => s.heap.size ≤ q ∧ ∀ i : Nat, i < 39 → q ≠ SA i)) (b := q1) (As := []) (rest := .ref q1 :: []) ⟨hx, hb, hml, hown, hts⟩ (mX4_init (A := (fun q => s.heap.size ≤ q ∧ ∀ i : Nat, i < 39 → q ≠ SA i)) (a := q1) (n := H10.size) ⟨hA q1 (by omega), fun i hi e => by have := hWlt i hi; omega⟩) (cwI 0 hts (gI tw_4_139) rfl rfl rfl (hts _ tw_1_8) (hts _ tw_4_137) (hts _ tw_4_138) rfl (by decide +kernel) ⟨Nat.le_of_ble_eq_true rfl, Nat.le_of_ble_eq_true rfl⟩) hC hS (fun _ h => h.1) (fun q h => ⟨Nat.le_trans hS.1 h, fun i hi e => by have := hW.lt i hi; omega⟩)  ⟨rfl, hOq1⟩ rfl rfl hl.1 (Nat.le_of_ble_eq_true rfl) ⟨Nat.le_trans (show (((0 + 1) + 38) + 1) + 7 ≤ 601024 by omega) (Nat.le_of_ble_eq_true rfl), Nat.le_trans (show (((0 + 8) + 1200) + 5) + 7 ≤ 7293034 by omega) (Nat.le_of_ble_eq_true rfl)⟩ dL_law_12 (fun H11 L11 hP11 hk11 hS => ?_)
  have hZ11 := hS.1
  obtain ⟨xa, hM⟩ := hP11
  have hW := hW.kp hk11 (fun i hi h => h.2 i hi rfl)
  refine lv_astore_n (lv' := [(2, .ref q1), (1, .ref q0), (0, .ref b)]) hx hb dL_law_15 rfl hl (by decide) rfl (fun ls hl => ?_)
  refine h_new (D := G.1) (C := RX3) (T := TX3) (N := 2) (ci := 7) (fs := [.long 0, .null]) hx hb hts inX3 tyX3 tyX3_ok hown (hts _ tw_2_221) (hts _ tw_2_222) (hts _ tw_1_12) hK hS rfl (fun j hj => match j, hj with | 0, _ => rfl | 1, _ => rfl) (Nat.le_trans (show ((((0 + 1) + 38) + 1) + 7) + 1 ≤ 601024 by omega) (Nat.le_of_ble_eq_true rfl)) (Nat.le_trans (show ((((0 + 8) + 1200) + 5) + 7) + 2 ≤ 7293034 by omega) (Nat.le_of_ble_eq_true rfl)) dL_law_16 (fun q2 H12 hq2 hOq2 z12 o12 hS => ?_)
  have hZ12 := hS.1
  have hMq2 : A0f s.heap.size q2 := hA q2 (by omega)
  have hM := hM.out (n0 := s.heap.size) (SA := SA) (out := q2) (fun q h1 h2 => ⟨h1.1, h1.2, by omega⟩)
  have hWlt2 := hW.lt
  have hSo : ∀ i : Nat, i < 39 → SA i ≠ q2 := fun i hi e => by have := hWlt2 i hi; omega
  have hW := hW.kp (X := fun _ => False) (kp.new z12 o12) (fun _ _ h => h)
  have hM := hM.kn o12
  refine lv_dup hx hb dL_law_19 rfl ?_
  refine qV_IN (A := A0f s.heap.size) (A1 := (nw H12.size)) (b := q2) (As := []) (rest := .ref q2 :: []) ⟨hx, hb, hml, hown, hts⟩ (mX3_init (A := (nw H12.size)) (a := q2) (x := 0) (v := .null)) ⟨va_cnB 0 hts (gI tw_2_225) rfl rfl rfl hC.2.2.2.2.2.2.2.2.2.2.2.2.2.2.2.1 (hts _ tw_1_12) (by decide +kernel) ⟨Nat.le_of_ble_eq_true rfl, Nat.le_of_ble_eq_true rfl⟩, rfl, hts _ tw_2_224⟩ hC hS (fun q h => Nat.le_trans hS.1 h) (fun q h => h)  hOq2 rfl rfl hl.1 (Nat.le_of_ble_eq_true rfl) ⟨Nat.le_trans (show (((((0 + 1) + 38) + 1) + 7) + 1) ≤ 601024 by omega) (Nat.le_of_ble_eq_true rfl), Nat.le_trans (show (((((0 + 8) + 1200) + 5) + 7) + 2) ≤ 7293034 by omega) (Nat.le_of_ble_eq_true rfl)⟩ dL_law_20 (fun H13 L13 hP13 hk13 hS => ?_)
  have hZ13 := hS.1
  have hW := hW.nw hk13
  have hM := hM.kn (fun q hq => hk13.2 q hq (Nat.not_le_of_lt hq))
  have hO : OA G q2 H13 := ⟨_, _, hP13⟩
  refine lv_astore_n (lv' := [(3, .ref q2), (2, .ref q1), (1, .ref q0), (0, .ref b)]) hx hb dL_law_23 rfl hl (by decide) rfl (fun ls hl => ?_)
  refine lv_iconst (v := nI 0) hx hb dL_law_24 (by decide) ?_
  refine lv_istore (lv' := [(4, .int (nI 0)), (3, .ref q2), (2, .ref q1), (1, .ref q0), (0, .ref b)]) hx hb dL_law_25 hl (by decide) rfl (fun ls hl => ?_)
  have Z : LX p l e s m meth c b L xs G SA q2 := ⟨hx, hb, hml, hown, hts, hC, hX, hbl, hL, hst, hSA, hSo, by omega⟩
  refine W.widen (k := 48 + 0 * 140) (n := 1222 + 0 * 9600) (by decide) (by decide) ?_
  exact law_loop Z hr hlocks 513 0 0 H13 L13 ls (by omega) (by omega) ⟨T0c, [], ⟨T0c, [], hW, fun _ _ => rfl⟩, ⟨0, hM.cg (fun i hi => by unfold T0c; rw [if_neg (by omega)])⟩, hO⟩ hS (by rw [hs0]; exact (lv_sub hl [4, 3, 2, 1, 0] rfl))
