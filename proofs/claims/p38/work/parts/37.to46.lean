/-! 37.refs2 -/
section
/-! OWN LAYER, 9: arrays of arrays of ints -/
section REFS2
variable {p : Program} {l : Launch} {e : Env} {R : Room} {s : State} {m : MethodId} {args : Array Value} {below : List Frame} {meth : Method} {c : Code} {H : Heap} {locs : List Loc} {cells slots : Nat} {Q : State → Prop}
variable {cc : ByteArray} {pc : Nat} {ls : Array Slot} {rest : List Value} {D : va_G} {cl : List vw_C} {A : Nat → Prop} {a : Nat} {tys : List (ClassId × FieldType)} {H0 : Heap}
theorem h_aaldI (hexec : p.tables.exec = Jvm.exec) (hb : c.code = cc) (hK : va_K D cl tys s) (t0 : Nat) {cA : ClassId} {n : Nat} {f : Nat → Option Nat} (h : va_at D cl (a, .inl (cA, n, .inr (.inr (.inr (.inr f))))) H) (ht : tys[t0]? = some (cA, .array .int)) {i : Int32} (hin : vp_in i n) (hdg : decode cc pc = .ok (.aaload, 1))
    (kk : W p l e R s m args below meth c H locs cells slots Q (F0 m (pc + 1) ls (va_rf (f i.toNatClampNeg) :: rest))) : W p l e R s m args below meth c H locs cells slots Q (F0 m pc ls (.int i :: .ref a :: rest)) := by
  have hlt : i.toNatClampNeg < n := Nat.not_le.mp fun q => hin (Or.inr q)
  exact W.aald (v := va_rf (f i.toNatClampNeg)) (ty := .array .int) hexec hb h ((hK.2 t0 _ ht).1 n (fun j => va_rf (f j))) rfl (fun q => by cases q) (by show ¬ (i < 0 ∨ (arrV _ _ _).slots.size ≤ _); rw [arrV_size]; exact hin) (by show (arrV _ _ _).slots[_]? = _; rw [arrV_read _ _ hlt]) rfl rfl hdg kk
theorem h_aastI (hexec : p.tables.exec = Jvm.exec) (hb : c.code = cc) {cA cI : ClassId} {n v : Nat} {f : Nat → Option Nat} (h : va_at D cl (a, .inl (cA, n, .inr (.inr (.inr (.inr f))))) H) (hk : ∃ kA : Class, s.vm.classes[cA]? = some kA ∧ kA.kind = .array cI (.array .int)) (hI : ∃ (kI : Class) (comp : ClassId), s.vm.classes[cI]? = some kI ∧ kI.kind = .array comp .int) (hv : ∃ cv : Cell, H[v]? = some cv ∧ cv.cls = cI ∧ ∀ q, cv.vm ≠ .statics q) (hS : va_S A H0 H locs) (ha : A a) {i : Int32} (hin : vp_in i n) (hdg : decode cc pc = .ok (.aastore, 1))
    (kk : ∀ (H1 : Heap) (locs1 : List Loc), va_at D cl (a, .inl (cA, n, .inr (.inr (.inr (.inr (va_up f i.toNatClampNeg (some v))))))) H1 → H1.size = H.size → (∀ q : Nat, q ≠ a → H1[q]? = H[q]?) → va_S A H0 H1 locs1 → W p l e R s m args below meth c H1 locs1 cells slots Q (F0 m (pc + 1) ls rest)) : W p l e R s m args below meth c H locs cells slots Q (F0 m pc ls (.ref v :: .int i :: .ref a :: rest)) := by
  have hlt : i.toNatClampNeg < n := Nat.not_le.mp fun q => hin (Or.inr q)
  have h0 : ¬ i < 0 := fun q => hin (Or.inl q)
  obtain ⟨kA, k1, k2⟩ := hk
  obtain ⟨kI, comp, k3, k4⟩ := hI
  obtain ⟨cv, g1, g2, g3⟩ := hv
  refine W.aast hexec hb h (fun q h => by cases h) (fun h => by cases h) k1 k2 rfl k3 ⟨h0, by show _ < (arrV _ _ _).slots.size; rw [arrV_size]; exact hlt⟩ g1 g3 (by rw [g2]; exact k3) (by rw [g2]; exact Vm.assignable_self _ _) rfl rfl hdg fun H1 e z oq => ?_
  refine kk H1 _ ?_ z oq (hS.put z oq ha)
  show H1[a]? = some (vp_cell _ _)
  rw [e]
  rw [vp_cell_q, vp_cell_q, arrV_store]
  congr 2
  funext q
  by_cases hq : q = i.toNatClampNeg
  · subst hq
    simp [updV, va_up, va_rf]
  · simp [updV, va_up, hq]
theorem kII {G : Cx} (hC : cx G A s) : ∃ kA : Class, s.vm.classes[G.2.1 4]? = some kA ∧ kA.kind = .array (G.2.1 0) (.array .int) := by
  have h1 := hC.2.2.2.2.2.2.2.2.2.2.1
  obtain ⟨comp, c9, k9, q1, q2, q3, q4⟩ := Cond.arrayOver_specA h1
  have g4 : s.vm.findClass ("[" ++ (FieldType.array .int).toString) = some (G.2.1 4) := (hC.1.2 4 _ rfl).2
  have g0 : s.vm.findClass ("[" ++ (FieldType.int).toString) = some (G.2.1 0) := (hC.1.2 0 _ rfl).2
  have e1 : c9 = G.2.1 4 := Option.some.inj (q4.symm.trans g4)
  have e2 : comp = G.2.1 0 := Option.some.inj (q1.symm.trans g0)
  subst e1 e2
  exact ⟨k9, q2, q3⟩
theorem kI0 {G : Cx} (hC : cx G A s) : ∃ (kI : Class) (comp : ClassId), s.vm.classes[G.2.1 0]? = some kI ∧ kI.kind = .array comp .int := by
  have h := hC.2.1.1 0
  rw [hC.2.1.2] at h
  exact h
end REFS2
end
/-! 38.ne -/
section
/-! OWN LAYER, 10: cells of different kinds are different cells -/
section NE
variable {s : State} {H : Heap} {D : va_G} {cl : List vw_C} {tys : List (ClassId × FieldType)} {a b : Nat}
theorem vp_cell_cls (cA : ClassId) (x : vp_A) : (vp_cell cA x).cls = cA := by
  obtain ⟨n, f⟩ := x
  rcases f with f | f | f | f | f <;> rfl
theorem arr_kind (hK : va_K D cl tys s) {t0 : Nat} {cA : ClassId} {ty : FieldType} (ht : tys[t0]? = some (cA, ty)) : ∃ (k : Class) (comp : ClassId), s.vm.classes[cA]? = some k ∧ k.kind = .array comp ty := by
  obtain ⟨-, k, h1, comp, h2⟩ := (hK.2 t0 _ ht).1 0 (fun _ => .null)
  exact ⟨k, comp, h1, h2⟩
theorem at_ne_oa (hK : va_K D cl tys s) {ci : Nat} {fs : List Value} {r : vw_C} {cA : ClassId} {x : vp_A} {ty : FieldType} (h1 : va_at D cl (a, .inr (ci, fs)) H) (hc : cl[ci]? = some r) (h2 : va_at D cl (b, .inl (cA, x)) H) (t0 : Nat) (ht : tys[t0]? = some (cA, ty)) : a ≠ b := by
  rintro rfl
  obtain ⟨r', hr', cell, q1, q2, q3, q4⟩ := h1
  have h5 : H[a]? = some (vp_cell cA x) := h2
  have e1 : cell = vp_cell cA x := Option.some.inj (q1.symm.trans h5)
  have e2 : D.1 ci = cA := by rw [← q2, e1, vp_cell_cls]
  obtain ⟨k, comp, k1, k2⟩ := arr_kind hK ht
  obtain ⟨-, kC, k3, k4⟩ := (hK.1 ci r hc).2
  rw [e2, k1] at k3
  cases k3
  rw [k2] at k4
  cases k4
theorem at_ne_aa (hK : va_K D cl tys s) {c1 c2 : ClassId} {x1 x2 : vp_A} {ty1 ty2 : FieldType} (h1 : va_at D cl (a, .inl (c1, x1)) H) (h2 : va_at D cl (b, .inl (c2, x2)) H) (t1 t2 : Nat) (ht1 : tys[t1]? = some (c1, ty1)) (ht2 : tys[t2]? = some (c2, ty2)) (hne : ty1 ≠ ty2) : a ≠ b := by
  rintro rfl
  have h3 : H[a]? = some (vp_cell c1 x1) := h1
  have h4 : H[a]? = some (vp_cell c2 x2) := h2
  have e1 : vp_cell c1 x1 = vp_cell c2 x2 := Option.some.inj (h3.symm.trans h4)
  have e2 : c1 = c2 := by rw [← vp_cell_cls c1 x1, e1, vp_cell_cls]
  subst e2
  obtain ⟨k, comp, k1, k2⟩ := arr_kind hK ht1
  obtain ⟨k', comp', k3, k4⟩ := arr_kind hK ht2
  rw [k1] at k3
  cases k3
  rw [k2] at k4
  cases k4
  exact hne rfl
end NE
end
/-! 39.mworld -/
section
/-! THE MODEL'S WORLD: the object am, the row of its texts xa; X its texts (0 to 3) and its row (11), P its pieces, k the knocks, th what is thrown -/
def ML (G : Cx) (A : Nat → Prop) (pa : Nat) (P : List (List Nat)) (ra : Nat) (H : Heap) : Prop := P.length ≤ 61 ∧ ((P = [] ∧ ∃ md : Int32, va_at G.1 vwCl (pa, .inr (3, [.int md, .ref (G.2.2 10), .int 0])) H) ∨
  ∃ (md : Int32) (ed cap : Nat) (f : Nat → Option Nat) (pe : Nat → Nat), va_at G.1 vwCl (pa, .inr (3, [.int md, .ref ed, .int (nI P.length)])) H ∧ va_at G.1 vwCl (ed, .inl (G.2.1 5, cap, .inr (.inr (.inr (.inr f))))) H ∧ A ed ∧ P.length ≤ cap ∧ cap < 2 ^ 20 ∧ ∀ i : Nat, i < P.length → f i = some (pe i) ∧ IA0 G (pe i) (P.getD i []) H ∧ pe i ≠ ra)
def MWx (G : Cx) (A : Nat → Prop) (am xa ra pa : Nat) (tx : Nat → Nat) (X : Nat → List Nat) (P : List (List Nat)) (k th : Int32) (H : Heap) : Prop :=
  A am ∧ A xa ∧ (∀ i : Nat, i < 4 ∨ i = 11 → okc (X i) ∧ (X i).length ≤ 60) ∧ (∀ i : Nat, okc (P.getD i []) ∧ (P.getD i []).length ≤ 60) ∧ A ra ∧ A pa ∧ pa ≠ am ∧
  va_at G.1 vwCl (am, .inr (8, [.int th, .ref xa, .ref ra, .ref pa, .int k])) H ∧ va_at G.1 vwCl (xa, .inl (G.2.1 4, 4, .inr (.inr (.inr (.inr (fun j => some (tx j))))))) H ∧
  (∀ j : Nat, j < 4 → IA0 G (tx j) (X j) H ∧ tx j ≠ ra) ∧ IA0 G ra (X 11) H ∧ ML G A pa P ra H
def MW (G : Cx) (A : Nat → Prop) (am xa : Nat) (X : Nat → List Nat) (P : List (List Nat)) (k th : Int32) (H : Heap) : Prop := ∃ (ra pa : Nat) (tx : Nat → Nat), MWx G A am xa ra pa tx X P k th H
section MWS
variable {G : Cx} {A : Nat → Prop} {am xa : Nat} {X : Nat → List Nat} {P : List (List Nat)} {k th : Int32} {H H1 : Heap} {s : State}
theorem ML.tr {pa ra : Nat} (h : ML G A pa P ra H) (hq : ∀ q : Nat, q < H.size → q = pa ∨ (∃ fs, va_at G.1 vwCl (q, .inl fs) H) → H1[q]? = H[q]?) : ML G A pa P ra H1 := by
  obtain ⟨h0, h | ⟨md, ed, cap, f, pe, h1, h2, h3, h4, h5, h6⟩⟩ := h
  · obtain ⟨e, md, h⟩ := h
    exact ⟨h0, Or.inl ⟨e, md, h.kept (hq _ h.lt (Or.inl rfl))⟩⟩
  · refine ⟨h0, Or.inr ⟨md, ed, cap, f, pe, h1.kept (hq _ h1.lt (Or.inl rfl)), h2.kept (hq _ h2.lt (Or.inr ⟨_, h2⟩)), h3, h4, h5, fun i hi => ?_⟩⟩
    obtain ⟨q1, ⟨g, q2, q3⟩, q4⟩ := h6 i hi
    exact ⟨q1, ⟨g, q2.kept (hq _ q2.lt (Or.inr ⟨_, q2⟩)), q3⟩, q4⟩
theorem MWx.nw {ra pa : Nat} {tx : Nat → Nat} (h : MWx G A am xa ra pa tx X P k th H) (hk : kp (nw H.size) H H1) : MWx G A am xa ra pa tx X P k th H1 := by
  obtain ⟨a1, a2, a3, a4, b1, b2, b3, b4, b5, b6, b7, b8⟩ := h
  have hn : ∀ q : Nat, q < H.size → H1[q]? = H[q]? := fun q hq => hk.2 q hq (Nat.not_le_of_lt hq)
  exact ⟨a1, a2, a3, a4, b1, b2, b3, at_n b4 hn, at_n b5 hn, fun j hj => ⟨(b6 j hj).1.n hn, (b6 j hj).2⟩, b7.n hn, b8.tr (fun q hq _ => hn q hq)⟩
theorem MWx.n {ra pa : Nat} {tx : Nat → Nat} (h : MWx G A am xa ra pa tx X P k th H) (hn : ∀ q : Nat, q < H.size → H1[q]? = H[q]?) : MWx G A am xa ra pa tx X P k th H1 := by
  obtain ⟨a1, a2, a3, a4, b1, b2, b3, b4, b5, b6, b7, b8⟩ := h
  exact ⟨a1, a2, a3, a4, b1, b2, b3, at_n b4 hn, at_n b5 hn, fun j hj => ⟨(b6 j hj).1.n hn, (b6 j hj).2⟩, b7.n hn, b8.tr (fun q hq _ => hn q hq)⟩
theorem MWx.obj {ra pa : Nat} {tx : Nat → Nat} (h : MWx G A am xa ra pa tx X P k th H) : va_at G.1 vwCl (am, .inr (8, [.int th, .ref xa, .ref ra, .ref pa, .int k])) H := h.2.2.2.2.2.2.2.1
theorem MWx.txs {ra pa : Nat} {tx : Nat → Nat} (h : MWx G A am xa ra pa tx X P k th H) : va_at G.1 vwCl (xa, .inl (G.2.1 4, 4, .inr (.inr (.inr (.inr (fun j => some (tx j))))))) H := h.2.2.2.2.2.2.2.2.1
theorem MWx.tx {ra pa : Nat} {tx : Nat → Nat} (h : MWx G A am xa ra pa tx X P k th H) {j : Nat} (hj : j < 4) : IA0 G (tx j) (X j) H := (h.2.2.2.2.2.2.2.2.2.1 j hj).1
theorem MWx.row {ra pa : Nat} {tx : Nat → Nat} (h : MWx G A am xa ra pa tx X P k th H) : IA0 G ra (X 11) H := h.2.2.2.2.2.2.2.2.2.2.1
theorem MWx.recv {ra pa : Nat} {tx : Nat → Nat} (h : MWx G A am xa ra pa tx X P k th H) (hK : va_K G.1 vwCl (tyL G.2.1) s) : ∃ cell : Cell, H[am]? = some cell ∧ cell.vm.isStatics = false ∧ s.vm.findClass "SigntextModel" = some cell.cls := at_recv hK h.obj (q := (RX4, TX4, 5)) rfl
theorem MW.recv (h : MW G A am xa X P k th H) (hK : va_K G.1 vwCl (tyL G.2.1) s) : ∃ cell : Cell, H[am]? = some cell ∧ cell.vm.isStatics = false ∧ s.vm.findClass "SigntextModel" = some cell.cls := by
  obtain ⟨ra, pa, tx, h⟩ := h; exact h.recv hK
/-- the object's own numbers change -/
theorem MWx.nums {ra pa : Nat} {tx : Nat → Nat} (hK : va_K G.1 vwCl (tyL G.2.1) s) (h : MWx G A am xa ra pa tx X P k th H) {k2 th2 : Int32} (hO : va_at G.1 vwCl (am, .inr (8, [.int th2, .ref xa, .ref ra, .ref pa, .int k2])) H1) (oq : ∀ q : Nat, q ≠ am → H1[q]? = H[q]?) : MWx G A am xa ra pa tx X P k2 th2 H1 := by
  have hO0 := h.obj
  obtain ⟨a1, a2, a3, a4, b1, b2, b3, b4, b5, b6, b7, b8⟩ := h
  have hne : ∀ (q : Nat) (fs : ClassId × vp_A) (t0 : Nat) (ty : FieldType), va_at G.1 vwCl (q, .inl fs) H → (tyL G.2.1)[t0]? = some (fs.1, ty) → q ≠ am := fun q fs t0 ty hq ht => Ne.symm (at_ne_oa hK hO0 (r := (RX4, TX4, 5)) rfl hq t0 ht)
  have hI : ∀ {q : Nat} {t : List Nat}, IA0 G q t H → IA0 G q t H1 := fun {q t} hq => by
    obtain ⟨f, q1, q2⟩ := hq
    exact ⟨f, at_o q1 oq (hne q _ 0 _ q1 rfl), q2⟩
  refine ⟨a1, a2, a3, a4, b1, b2, b3, hO, at_o b5 oq (hne xa _ 4 _ b5 rfl), fun j hj => ⟨hI (b6 j hj).1, (b6 j hj).2⟩, hI b7, ?_⟩
  obtain ⟨h0, h | ⟨md, ed, cap, f, pe, h1, h2, h3, h4, h5, h6⟩⟩ := b8
  · obtain ⟨e, md, h⟩ := h
    exact ⟨h0, Or.inl ⟨e, md, at_o h oq b3⟩⟩
  · exact ⟨h0, Or.inr ⟨md, ed, cap, f, pe, at_o h1 oq b3, at_o h2 oq (hne ed _ 5 _ h2 rfl), h3, h4, h5, fun i hi => ⟨(h6 i hi).1, hI (h6 i hi).2.1, (h6 i hi).2.2⟩⟩⟩
/-- a fresh row becomes text q -/
theorem MWx.put {ra pa : Nat} {tx : Nat → Nat} (hK : va_K G.1 vwCl (tyL G.2.1) s) (h : MWx G A am xa ra pa tx X P k th H) {q r : Nat} {t : List Nat} (hq : q < 4) (hX : va_at G.1 vwCl (xa, .inl (G.2.1 4, 4, .inr (.inr (.inr (.inr (va_up (fun j => some (tx j)) q (some r))))))) H1) (oq : ∀ z : Nat, z ≠ xa → H1[z]? = H[z]?) (hr : IA0 G r t H) (hrr : r ≠ ra) (ht : okc t ∧ t.length ≤ 60) : MWx G A am xa ra pa (fun j => if j = q then r else tx j) (updT X q t) P k th H1 := by
  have hX0 := h.txs
  obtain ⟨a1, a2, a3, a4, b1, b2, b3, b4, b5, b6, b7, b8⟩ := h
  have hne : ∀ (z : Nat) (fs : ClassId × vp_A) (t0 : Nat) (ty : FieldType), va_at G.1 vwCl (z, .inl fs) H → (tyL G.2.1)[t0]? = some (fs.1, ty) → ty ≠ .array .int → z ≠ xa := fun z fs t0 ty hz ht hty => at_ne_aa hK hz hX0 t0 4 ht rfl hty
  have hI : ∀ {z : Nat} {t : List Nat}, IA0 G z t H → IA0 G z t H1 := fun {z t} hz => by
    obtain ⟨f, q1, q2⟩ := hz
    exact ⟨f, at_o q1 oq (hne z _ 0 _ q1 rfl (by decide)), q2⟩
  refine ⟨a1, a2, fun i hi => ?_, a4, b1, b2, b3, at_o b4 oq (at_ne_oa hK b4 (r := (RX4, TX4, 5)) rfl hX0 4 rfl), at_fun hX (fun j hj => ?_), fun j hj => ?_, ?_, ?_⟩
  · unfold updT; split
    · exact ht
    · exact a3 i hi
  · unfold va_up; split
    · next e => show some r = some (if j = q then r else tx j); rw [if_pos e]
    · next e => show some (tx j) = some (if j = q then r else tx j); rw [if_neg e]
  · by_cases e : j = q
    · show IA0 G (if j = q then r else tx j) _ H1 ∧ (if j = q then r else tx j) ≠ ra
      rw [if_pos e, e, updT_s]; exact ⟨hI hr, hrr⟩
    · show IA0 G (if j = q then r else tx j) _ H1 ∧ (if j = q then r else tx j) ≠ ra
      rw [if_neg e, updT_n e]; exact ⟨hI (b6 j hj).1, (b6 j hj).2⟩
  · rw [updT_n (by omega)]; exact hI b7
  · obtain ⟨h0, h | ⟨md, ed, cap, f, pe, h1, h2, h3, h4, h5, h6⟩⟩ := b8
    · obtain ⟨e, md, h⟩ := h
      exact ⟨h0, Or.inl ⟨e, md, at_o h oq (at_ne_oa hK h (r := (RJx4a65c, TJx4a65c, 3)) rfl hX0 4 rfl)⟩⟩
    · exact ⟨h0, Or.inr ⟨md, ed, cap, f, pe, at_o h1 oq (at_ne_oa hK h1 (r := (RJx4a65c, TJx4a65c, 3)) rfl hX0 4 rfl), at_o h2 oq (hne ed _ 5 _ h2 rfl (by decide)), h3, h4, h5, fun i hi => ⟨(h6 i hi).1, hI (h6 i hi).2.1, (h6 i hi).2.2⟩⟩⟩
end MWS
end
/-! 40.mod4 -/
section
/-! The model, 4: what is thrown; knock -/
def rfT (b : Bool) (th w9 : Nat) : Nat := if (b && decide (th = 0)) = true then w9 else th
theorem dX4_refuse_0 : decode cX4_refuse 0 = .ok (.iload_n 1, 1) := by decide +kernel
theorem dX4_refuse_1 : decode cX4_refuse 1 = .ok (.ifCond .eq 15, 3) := by decide +kernel
theorem dX4_refuse_4 : decode cX4_refuse 4 = .ok (.aload_n 0, 1) := by decide +kernel
theorem dX4_refuse_5 : decode cX4_refuse 5 = .ok (.getfield 82, 3) := by decide +kernel
theorem dX4_refuse_8 : decode cX4_refuse 8 = .ok (.ifCond .ne 8, 3) := by decide +kernel
theorem dX4_refuse_11 : decode cX4_refuse 11 = .ok (.aload_n 0, 1) := by decide +kernel
theorem dX4_refuse_12 : decode cX4_refuse 12 = .ok (.iload_n 2, 1) := by decide +kernel
theorem dX4_refuse_13 : decode cX4_refuse 13 = .ok (.putfield 82, 3) := by decide +kernel
theorem dX4_refuse_16 : decode cX4_refuse 16 = .ok (.aload_n 0, 1) := by decide +kernel
theorem dX4_refuse_17 : decode cX4_refuse 17 = .ok (.getfield 82, 3) := by decide +kernel
theorem dX4_refuse_20 : decode cX4_refuse 20 = .ok (.ifCond .le 7, 3) := by decide +kernel
theorem dX4_refuse_23 : decode cX4_refuse 23 = .ok (.iconst 1, 1) := by decide +kernel
theorem dX4_refuse_24 : decode cX4_refuse 24 = .ok (.goto 4, 3) := by decide +kernel
theorem dX4_refuse_27 : decode cX4_refuse 27 = .ok (.iconst 0, 1) := by decide +kernel
theorem dX4_refuse_28 : decode cX4_refuse 28 = .ok (.ireturn, 1) := by decide +kernel
theorem dX4_start_0 : decode cX4_start 0 = .ok (.aload_n 0, 1) := by decide +kernel
theorem dX4_start_1 : decode cX4_start 1 = .ok (.iconst 0, 1) := by decide +kernel
theorem dX4_start_2 : decode cX4_start 2 = .ok (.putfield 82, 3) := by decide +kernel
theorem dX4_start_5 : decode cX4_start 5 = .ok (.aload_n 0, 1) := by decide +kernel
theorem dX4_start_6 : decode cX4_start 6 = .ok (.iload_n 1, 1) := by decide +kernel
theorem dX4_start_7 : decode cX4_start 7 = .ok (.iload_n 2, 1) := by decide +kernel
theorem dX4_start_8 : decode cX4_start 8 = .ok (.invokevirtual 86, 3) := by decide +kernel
theorem dX4_start_11 : decode cX4_start 11 = .ok (.ireturn, 1) := by decide +kernel
theorem dX4_knock_0 : decode cX4_knock 0 = .ok (.aload_n 0, 1) := by decide +kernel
theorem dX4_knock_1 : decode cX4_knock 1 = .ok (.iconst 0, 1) := by decide +kernel
theorem dX4_knock_2 : decode cX4_knock 2 = .ok (.putfield 82, 3) := by decide +kernel
theorem dX4_knock_5 : decode cX4_knock 5 = .ok (.aload_n 0, 1) := by decide +kernel
theorem dX4_knock_6 : decode cX4_knock 6 = .ok (.dup, 1) := by decide +kernel
theorem dX4_knock_7 : decode cX4_knock 7 = .ok (.getfield 147, 3) := by decide +kernel
theorem dX4_knock_10 : decode cX4_knock 10 = .ok (.iconst 1, 1) := by decide +kernel
theorem dX4_knock_11 : decode cX4_knock 11 = .ok (.iadd, 1) := by decide +kernel
theorem dX4_knock_12 : decode cX4_knock 12 = .ok (.putfield 147, 3) := by decide +kernel
theorem dX4_knock_15 : decode cX4_knock 15 = .ok (.aload_n 0, 1) := by decide +kernel
theorem dX4_knock_16 : decode cX4_knock 16 = .ok (.getfield 147, 3) := by decide +kernel
theorem dX4_knock_19 : decode cX4_knock 19 = .ok (.ireturn, 1) := by decide +kernel
abbrev rmX4_refuse : Room := { frames := 1, cells := 0, slots := 0, locals := 20 }
theorem mX4_refuse {l : Launch} {G : Cx} {A : Nat → Prop} {am xa : Nat} {X : Nat → List Nat} {P : List (List Nat)} {k : Int32} {b : Bool} {th w9 : Nat} (hth : th < 4) (hw9 : w9 < 4) : Met l yX4_refuse (.code yX4_refuse cX4_refuse 3 (some .boolean) :: GW) rmX4_refuse (PC G A [.ref am, .int (bI b), .int (nI w9)] (MW G A am xa X P k (nI th))) (qI A (fun r H => r = bI (decide (0 < rfT b th w9)) ∧ MW G A am xa X P k (nI (rfT b th w9)) H)) 0 0 (A) := by
  refine mstart "SigntextModel" (by decide +kernel) rfl (Nat.le_of_ble_eq_true rfl) ?_
  intro p e s m below meth c ls hx hb hr hts hown hml hlocks hname hC hA hW hl
  have hl : lv_has ls 3 [(0, .ref am), (1, .int (bI b)), (2, .int (nI w9))] := hl
  have hK := hC.1
  have hS : va_S A s.heap s.heap [] := va_S.rf
  obtain ⟨ra, pa, tx, hW⟩ := hW
  have hO := hW.obj
  have hAm := hW.1
  refine lv_iload_n hx hb dX4_refuse_0 rfl (lv_at hl 1 rfl) ?_
  refine f_eq (tgt := 16) hx hb dX4_refuse_1 (by decide) (fun c_1 => ?_) (fun c_1 => ?_)
  · refine lv_aload_n hx hb dX4_refuse_16 rfl (lv_at hl 0 rfl) ?_
    refine va_get (D := G.1) (ci := 8) (C := RX4) (T := TX4) (N := 5) hx hb hts inX4 hown hK (at_P hO) 0 rfl rfl 0 (by decide) (hts _ tw_4_172) (fun _ h9 => h9) rfl dX4_refuse_17 ?_
    have hrf : rfT b th w9 = th := (by unfold rfT; rw [c_1]; rfl)
    by_cases hz : th = 0
    · refine lv_if_le (tgt := 27) hx hb dX4_refuse_20 (by decide) (fun _ => ?_) (fun q => absurd (by rw [hz]; decide) q)
      refine lv_iconst (v := nI 0) hx hb dX4_refuse_27 (by decide) ?_
      exact q_z (b9 := false) hx hb hr hlocks dX4_refuse_28 hS (Nat.le_refl _) (Nat.le_refl _) ⟨by rw [hrf, hz]; rfl, by rw [hrf]; exact ⟨ra, pa, tx, hW⟩⟩
    · refine lv_if_le (tgt := 27) hx hb dX4_refuse_20 (by decide) (fun q => absurd q (nI_nle (by omega) (by omega))) (fun _ => ?_)
      refine lv_iconst (v := nI 1) hx hb dX4_refuse_23 (by decide) ?_
      refine lv_goto (tgt := 28) hx hb dX4_refuse_24 (by decide) ?_
      exact q_z (b9 := true) hx hb hr hlocks dX4_refuse_28 hS (Nat.le_refl _) (Nat.le_refl _) ⟨by rw [hrf, decide_eq_true (show 0 < th by omega)], by rw [hrf]; exact ⟨ra, pa, tx, hW⟩⟩
  · refine lv_aload_n hx hb dX4_refuse_4 rfl (lv_at hl 0 rfl) ?_
    refine va_get (D := G.1) (ci := 8) (C := RX4) (T := TX4) (N := 5) hx hb hts inX4 hown hK (at_P hO) 0 rfl rfl 0 (by decide) (hts _ tw_4_172) (fun _ h9 => h9) rfl dX4_refuse_5 ?_
    refine z_ne (tgt := 16) hx hb dX4_refuse_8 (by decide) (by omega) (fun c_2 => ?_) (fun c_2 => ?_)
    · refine lv_aload_n hx hb dX4_refuse_16 rfl (lv_at hl 0 rfl) ?_
      refine va_get (D := G.1) (ci := 8) (C := RX4) (T := TX4) (N := 5) hx hb hts inX4 hown hK (at_P hO) 0 rfl rfl 0 (by decide) (hts _ tw_4_172) (fun _ h9 => h9) rfl dX4_refuse_17 ?_
      have hrf : rfT b th w9 = th := (by unfold rfT; rw [c_1, if_neg (by simp; exact c_2)])
      by_cases hz : th = 0
      · refine lv_if_le (tgt := 27) hx hb dX4_refuse_20 (by decide) (fun _ => ?_) (fun q => absurd (by rw [hz]; decide) q)
        refine lv_iconst (v := nI 0) hx hb dX4_refuse_27 (by decide) ?_
        exact q_z (b9 := false) hx hb hr hlocks dX4_refuse_28 hS (Nat.le_refl _) (Nat.le_refl _) ⟨by rw [hrf, hz]; rfl, by rw [hrf]; exact ⟨ra, pa, tx, hW⟩⟩
      · refine lv_if_le (tgt := 27) hx hb dX4_refuse_20 (by decide) (fun q => absurd q (nI_nle (by omega) (by omega))) (fun _ => ?_)
        refine lv_iconst (v := nI 1) hx hb dX4_refuse_23 (by decide) ?_
        refine lv_goto (tgt := 28) hx hb dX4_refuse_24 (by decide) ?_
        exact q_z (b9 := true) hx hb hr hlocks dX4_refuse_28 hS (Nat.le_refl _) (Nat.le_refl _) ⟨by rw [hrf, decide_eq_true (show 0 < th by omega)], by rw [hrf]; exact ⟨ra, pa, tx, hW⟩⟩
    · refine lv_aload_n hx hb dX4_refuse_11 rfl (lv_at hl 0 rfl) ?_
      refine lv_iload_n hx hb dX4_refuse_12 rfl (lv_at hl 2 rfl) ?_
      refine h_put (D := G.1) (ci := 8) (C := RX4) (T := TX4) (N := 5) hx hb hts inX4 tyX4 tyX4_ok nmX4 hown hK hO hS hAm rfl 0 (by decide) (hts _ tw_4_172) (fun _ h9 => h9) rfl (tyX4_ok 0 (by decide)) rfl rfl (Nat.le_of_ble_eq_true rfl) dX4_refuse_13 (fun H3 L3 hO z3 o3 hS => ?_)
      have hO : va_at G.1 vwCl (am, .inr (8, [.int (nI w9), .ref xa, .ref ra, .ref pa, .int k])) H3 := hO
      have hZ3 := hS.1
      have hW := hW.nums hK hO o3
      have hO := hW.obj
      have hAm := hW.1
      refine lv_aload_n hx hb dX4_refuse_16 rfl (lv_at hl 0 rfl) ?_
      refine va_get (D := G.1) (ci := 8) (C := RX4) (T := TX4) (N := 5) hx hb hts inX4 hown hK (at_P hO) 0 rfl rfl 0 (by decide) (hts _ tw_4_172) (fun _ h9 => h9) rfl dX4_refuse_17 ?_
      have hrf : rfT b th w9 = w9 := (by unfold rfT; rw [c_1, c_2]; rfl)
      by_cases hz : w9 = 0
      · refine lv_if_le (tgt := 27) hx hb dX4_refuse_20 (by decide) (fun _ => ?_) (fun q => absurd (by rw [hz]; decide) q)
        refine lv_iconst (v := nI 0) hx hb dX4_refuse_27 (by decide) ?_
        exact q_z (b9 := false) hx hb hr hlocks dX4_refuse_28 hS (Nat.le_refl _) (Nat.le_refl _) ⟨by rw [hrf, hz]; rfl, by rw [hrf]; exact ⟨ra, pa, tx, hW⟩⟩
      · refine lv_if_le (tgt := 27) hx hb dX4_refuse_20 (by decide) (fun q => absurd q (nI_nle (by omega) (by omega))) (fun _ => ?_)
        refine lv_iconst (v := nI 1) hx hb dX4_refuse_23 (by decide) ?_
        refine lv_goto (tgt := 28) hx hb dX4_refuse_24 (by decide) ?_
        exact q_z (b9 := true) hx hb hr hlocks dX4_refuse_28 hS (Nat.le_refl _) (Nat.le_refl _) ⟨by rw [hrf, decide_eq_true (show 0 < w9 by omega)], by rw [hrf]; exact ⟨ra, pa, tx, hW⟩⟩

abbrev rmX4_start : Room := { frames := 2, cells := 0, slots := 0, locals := 42 }
theorem mX4_start {l : Launch} {G : Cx} {A : Nat → Prop} {am xa : Nat} {X : Nat → List Nat} {P : List (List Nat)} {k : Int32} {b : Bool} {th : Int32} {w9 : Nat} (hw9 : w9 < 4) : Met l yX4_start (.code yX4_start cX4_start 3 (some .boolean) :: GW) rmX4_start (PC G A [.ref am, .int (bI b), .int (nI w9)] (MW G A am xa X P k th)) (qI A (fun r H => r = bI (decide (0 < rfT b 0 w9)) ∧ MW G A am xa X P k (nI (rfT b 0 w9)) H)) 0 0 (A) := by
  refine mstart "SigntextModel" (by decide +kernel) rfl (Nat.le_of_ble_eq_true rfl) ?_
  intro p e s m below meth c ls hx hb hr hts hown hml hlocks hname hC hA hW hl
  have hl : lv_has ls 3 [(0, .ref am), (1, .int (bI b)), (2, .int (nI w9))] := hl
  have hK := hC.1
  have hS : va_S A s.heap s.heap [] := va_S.rf
  obtain ⟨ra, pa, tx, hW⟩ := hW
  have hO := hW.obj
  have hAm := hW.1
  refine lv_aload_n hx hb dX4_start_0 rfl (lv_at hl 0 rfl) ?_
  refine lv_iconst (v := nI 0) hx hb dX4_start_1 (by decide) ?_
  refine h_put (D := G.1) (ci := 8) (C := RX4) (T := TX4) (N := 5) hx hb hts inX4 tyX4 tyX4_ok nmX4 hown hK hO hS hAm rfl 0 (by decide) (hts _ tw_4_172) (fun _ h9 => h9) rfl (tyX4_ok 0 (by decide)) rfl rfl (Nat.le_of_ble_eq_true rfl) dX4_start_2 (fun H4 L4 hO z4 o4 hS => ?_)
  have hO : va_at G.1 vwCl (am, .inr (8, [.int (nI 0), .ref xa, .ref ra, .ref pa, .int k])) H4 := hO
  have hZ4 := hS.1
  have hW := hW.nums hK hO o4
  have hO := hW.obj
  have hAm := hW.1
  refine lv_aload_n hx hb dX4_start_5 rfl (lv_at hl 0 rfl) ?_
  refine lv_iload_n hx hb dX4_start_6 rfl (lv_at hl 1 rfl) ?_
  refine lv_iload_n hx hb dX4_start_7 rfl (lv_at hl 2 rfl) ?_
  refine qI_V (A := A) (A1 := A) (b := am) (As := [.int (bI b), .int (nI w9)]) (rest := []) ⟨hx, hb, hml, hown, hts⟩ (mX4_refuse (A := A) (X := X) (P := P) (k := k) (xa := xa) (th := 0) (by decide) hw9) (cwV 2 hts (gV tw_4_210 tw_4_212 sel_X4_refuse tw_1_8 tw_4_213) rfl rfl rfl (by decide +kernel) ⟨Nat.le_of_ble_eq_true rfl, Nat.le_of_ble_eq_true rfl⟩) hC hS (fun _ h => h) (fun q h => hA q (Nat.le_trans hS.1 h)) (hW.recv hK) ⟨ra, pa, tx, hW⟩ rfl rfl hl.1 (Nat.le_of_ble_eq_true rfl) ⟨Nat.zero_le _, Nat.zero_le _⟩ dX4_start_8 (fun rv5 H5 L5 hP5 hk5 hS => ?_)
  have hZ5 := hS.1
  obtain ⟨hr9, hM⟩ := hP5
  subst hr9
  exact q_z (b9 := decide (0 < rfT b 0 w9)) hx hb hr hlocks dX4_start_11 hS (Nat.le_refl _) (Nat.le_refl _) ⟨rfl, hM⟩

abbrev rmX4_knock : Room := { frames := 1, cells := 0, slots := 0, locals := 20 }
theorem mX4_knock {l : Launch} {G : Cx} {A : Nat → Prop} {am xa : Nat} {X : Nat → List Nat} {P : List (List Nat)} {k : Int32} {th : Int32} : Met l yX4_knock (.code yX4_knock cX4_knock 1 (some .int) :: GW) rmX4_knock (PC G A [.ref am] (MW G A am xa X P k th)) (qI A (fun r H => r = k + 1 ∧ MW G A am xa X P (k + 1) 0 H)) 0 0 (A) := by
  refine mstart "SigntextModel" (by decide +kernel) rfl (Nat.le_of_ble_eq_true rfl) ?_
  intro p e s m below meth c ls hx hb hr hts hown hml hlocks hname hC hA hW hl
  have hl : lv_has ls 1 [(0, .ref am)] := hl
  have hK := hC.1
  have hS : va_S A s.heap s.heap [] := va_S.rf
  obtain ⟨ra, pa, tx, hW⟩ := hW
  have hO := hW.obj
  have hAm := hW.1
  refine lv_aload_n hx hb dX4_knock_0 rfl (lv_at hl 0 rfl) ?_
  refine lv_iconst (v := nI 0) hx hb dX4_knock_1 (by decide) ?_
  refine h_put (D := G.1) (ci := 8) (C := RX4) (T := TX4) (N := 5) hx hb hts inX4 tyX4 tyX4_ok nmX4 hown hK hO hS hAm rfl 0 (by decide) (hts _ tw_4_172) (fun _ h9 => h9) rfl (tyX4_ok 0 (by decide)) rfl rfl (Nat.le_of_ble_eq_true rfl) dX4_knock_2 (fun H6 L6 hO z6 o6 hS => ?_)
  have hO : va_at G.1 vwCl (am, .inr (8, [.int (nI 0), .ref xa, .ref ra, .ref pa, .int k])) H6 := hO
  have hZ6 := hS.1
  have hW := hW.nums hK hO o6
  have hO := hW.obj
  have hAm := hW.1
  refine lv_aload_n hx hb dX4_knock_5 rfl (lv_at hl 0 rfl) ?_
  refine lv_dup hx hb dX4_knock_6 rfl ?_
  refine va_get (D := G.1) (ci := 8) (C := RX4) (T := TX4) (N := 5) hx hb hts inX4 hown hK (at_P hO) 0 rfl rfl 4 (by decide) (hts _ tw_4_176) (fun _ h9 => h9) rfl dX4_knock_7 ?_
  refine lv_iconst (v := nI 1) hx hb dX4_knock_10 (by decide) ?_
  refine lv_iadd hx hb dX4_knock_11 ?_
  refine h_put (D := G.1) (ci := 8) (C := RX4) (T := TX4) (N := 5) hx hb hts inX4 tyX4 tyX4_ok nmX4 hown hK hO hS hAm rfl 4 (by decide) (hts _ tw_4_176) (fun _ h9 => h9) rfl (tyX4_ok 4 (by decide)) rfl rfl (Nat.le_of_ble_eq_true rfl) dX4_knock_12 (fun H7 L7 hO z7 o7 hS => ?_)
  have hO : va_at G.1 vwCl (am, .inr (8, [.int 0, .ref xa, .ref ra, .ref pa, .int (k + 1)])) H7 := hO
  have hZ7 := hS.1
  have hW := hW.nums hK hO o7
  have hO := hW.obj
  have hAm := hW.1
  refine lv_aload_n hx hb dX4_knock_15 rfl (lv_at hl 0 rfl) ?_
  refine va_get (D := G.1) (ci := 8) (C := RX4) (T := TX4) (N := 5) hx hb hts inX4 hown hK (at_P hO) 0 rfl rfl 4 (by decide) (hts _ tw_4_176) (fun _ h9 => h9) rfl dX4_knock_16 ?_
  exact q_i hx hb hr hlocks dX4_knock_19 hS (Nat.le_refl _) (Nat.le_refl _) ⟨rfl, ra, pa, tx, hW⟩
end
/-! 41.mod5 -/
section
/-! The model, 5: calls that change -/
theorem dX4_become_0 : decode cX4_become 0 = .ok (.aload_n 0, 1) := by decide +kernel
theorem dX4_become_1 : decode cX4_become 1 = .ok (.getfield 72, 3) := by decide +kernel
theorem dX4_become_4 : decode cX4_become 4 = .ok (.iload_n 1, 1) := by decide +kernel
theorem dX4_become_5 : decode cX4_become 5 = .ok (.aload_n 2, 1) := by decide +kernel
theorem dX4_become_6 : decode cX4_become 6 = .ok (.aastore, 1) := by decide +kernel
theorem dX4_become_7 : decode cX4_become 7 = .ok (.aload_n 2, 1) := by decide +kernel
theorem dX4_become_8 : decode cX4_become 8 = .ok (.arraylength, 1) := by decide +kernel
theorem dX4_become_9 : decode cX4_become 9 = .ok (.ireturn, 1) := by decide +kernel
theorem dX4_clear_0 : decode cX4_clear 0 = .ok (.aload_n 0, 1) := by decide +kernel
theorem dX4_clear_1 : decode cX4_clear 1 = .ok (.iload_n 1, 1) := by decide +kernel
theorem dX4_clear_2 : decode cX4_clear 2 = .ok (.invokestatic 107, 3) := by decide +kernel
theorem dX4_clear_5 : decode cX4_clear 5 = .ok (.iconst 1, 1) := by decide +kernel
theorem dX4_clear_6 : decode cX4_clear 6 = .ok (.invokevirtual 110, 3) := by decide +kernel
theorem dX4_clear_9 : decode cX4_clear 9 = .ok (.ifCond .eq 5, 3) := by decide +kernel
theorem dX4_clear_12 : decode cX4_clear 12 = .ok (.iconst 0, 1) := by decide +kernel
theorem dX4_clear_13 : decode cX4_clear 13 = .ok (.ireturn, 1) := by decide +kernel
theorem dX4_clear_14 : decode cX4_clear 14 = .ok (.aload_n 0, 1) := by decide +kernel
theorem dX4_clear_15 : decode cX4_clear 15 = .ok (.getfield 72, 3) := by decide +kernel
theorem dX4_clear_18 : decode cX4_clear 18 = .ok (.iload_n 1, 1) := by decide +kernel
theorem dX4_clear_19 : decode cX4_clear 19 = .ok (.aaload, 1) := by decide +kernel
theorem dX4_clear_20 : decode cX4_clear 20 = .ok (.arraylength, 1) := by decide +kernel
theorem dX4_clear_21 : decode cX4_clear 21 = .ok (.istore_n 2, 1) := by decide +kernel
theorem dX4_clear_22 : decode cX4_clear 22 = .ok (.aload_n 0, 1) := by decide +kernel
theorem dX4_clear_23 : decode cX4_clear 23 = .ok (.iload_n 1, 1) := by decide +kernel
theorem dX4_clear_24 : decode cX4_clear 24 = .ok (.iconst 0, 1) := by decide +kernel
theorem dX4_clear_25 : decode cX4_clear 25 = .ok (.newarray .int, 2) := by decide +kernel
theorem dX4_clear_27 : decode cX4_clear 27 = .ok (.invokevirtual 113, 3) := by decide +kernel
theorem dX4_clear_30 : decode cX4_clear 30 = .ok (.pop, 1) := by decide +kernel
theorem dX4_clear_31 : decode cX4_clear 31 = .ok (.iload_n 2, 1) := by decide +kernel
theorem dX4_clear_32 : decode cX4_clear 32 = .ok (.ireturn, 1) := by decide +kernel
abbrev rmX4_become : Room := { frames := 1, cells := 0, slots := 0, locals := 20 }
theorem mX4_become {l : Launch} {G : Cx} {A : Nat → Prop} {am xa : Nat} {X : Nat → List Nat} {P : List (List Nat)} {k : Int32} {j r : Nat} {t : List Nat} {th : Int32} (hj : j < 4) (ht : okc t ∧ t.length ≤ 60) : Met l yX4_become (.code yX4_become cX4_become 3 (some .int) :: GW) rmX4_become (PC G A [.ref am, .int (nI j), .ref r] (fun H => ∃ ra pa tx, MWx G A am xa ra pa tx X P k th H ∧ IA0 G r t H ∧ r ≠ ra)) (qI A (fun v H => v = nI t.length ∧ MW G A am xa (updT X j t) P k th H)) 0 0 (A) := by
  refine mstart "SigntextModel" (by decide +kernel) rfl (Nat.le_of_ble_eq_true rfl) ?_
  intro p e s m below meth c ls hx hb hr hts hown hml hlocks hname hC hA hW hl
  have hl : lv_has ls 3 [(0, .ref am), (1, .int (nI j)), (2, .ref r)] := hl
  have hK := hC.1
  have hS : va_S A s.heap s.heap [] := va_S.rf
  obtain ⟨ra, pa, tx, hW, hR, hne⟩ := hW
  have hO := hW.obj
  have hAm := hW.1
  refine lv_aload_n hx hb dX4_become_0 rfl (lv_at hl 0 rfl) ?_
  refine va_get (D := G.1) (ci := 8) (C := RX4) (T := TX4) (N := 5) hx hb hts inX4 hown hK (at_P hO) 0 rfl rfl 1 (by decide) (hts _ tw_4_173) (fun _ h9 => h9) rfl dX4_become_1 ?_
  refine lv_iload_n hx hb dX4_become_4 rfl (lv_at hl 1 rfl) ?_
  refine lv_aload_n hx hb dX4_become_5 rfl (lv_at hl 2 rfl) ?_
  refine h_aastI (D := G.1) hx hb hW.txs (kII hC) (kI0 hC) hR.cell hS hW.2.1 (vp_in_nI (n := j) (N := 4) (by omega) (by omega)) dX4_become_6 (fun H9 L9 hX9 z9 o9 hS => ?_)
  rw [nI_clamp (n := j) (by omega)] at hX9
  have hrx : r ≠ xa := by obtain ⟨f9, q1, -⟩ := hR; exact at_ne_aa hK q1 hW.txs 0 4 rfl rfl (by decide)
  have hW := hW.put hK hj hX9 o9 hR hne ht
  have hR := (hR.o o9 hrx).ia hC.2.1.2
  refine lv_aload_n hx hb dX4_become_7 rfl (lv_at hl 2 rfl) ?_
  refine h_ilen hx hb hC.2.1 hR dX4_become_8 ?_
  exact q_i hx hb hr hlocks dX4_become_9 hS (Nat.le_refl _) (Nat.le_refl _) ⟨rfl, ra, pa, _, hW⟩

abbrev rmX4_clear : Room := { frames := 3, cells := 1, slots := 61, locals := 64 }
theorem mX4_clear {l : Launch} {G : Cx} {A : Nat → Prop} {am xa : Nat} {X : Nat → List Nat} {P : List (List Nat)} {k : Int32} {x th : Int32} : Met l yX4_clear (.code yX4_clear cX4_clear 3 (some .int) :: GW) rmX4_clear (PC G A [.ref am, .int x] (MW G A am xa X P k th)) (qI A (fun r H => (NT x ∧ r = 0 ∧ MW G A am xa X P k 1 H) ∨ ∃ i : Nat, i < 4 ∧ x = nI i ∧ r = nI (X i).length ∧ MW G A am xa (updT X i []) P k 0 H)) 1 61 (A) := by
  refine mstart "SigntextModel" (by decide +kernel) rfl (Nat.le_of_ble_eq_true rfl) ?_
  intro p e s m below meth c ls hx hb hr hts hown hml hlocks hname hC hA hW hl
  have hl : lv_has ls 3 [(0, .ref am), (1, .int x)] := hl
  have hK := hC.1
  have hS : va_S A s.heap s.heap [] := va_S.rf
  obtain ⟨ra, pa, tx, hW⟩ := hW
  have hO := hW.obj
  have hAm := hW.1
  refine lv_aload_n hx hb dX4_clear_0 rfl (lv_at hl 0 rfl) ?_
  refine lv_iload_n hx hb dX4_clear_1 rfl (lv_at hl 1 rfl) ?_
  refine kS_i (A := A) (As := [.int x]) (rest := .ref am :: []) ⟨hx, hb, hml, hown, hts⟩ (mX4_isNone (A := A) ) (va_cwS 1 hts (gS tw_4_203 tw_4_204 tw_1_8 tw_4_205) rfl rfl rfl (by decide +kernel) ⟨Nat.le_of_ble_eq_true rfl, Nat.le_of_ble_eq_true rfl⟩) hC hS hA  trivial rfl rfl hl.1 (Nat.le_of_ble_eq_true rfl) ⟨Nat.zero_le _, Nat.zero_le _⟩ dX4_clear_2 (fun r_1 hr_1 => ?_)
  obtain ⟨r_1v, hr_1v, rfl⟩ := hr_1
  refine lv_iconst (v := nI 1) hx hb dX4_clear_5 (by decide) ?_
  refine qI_V (A := A) (A1 := A) (b := am) (As := [.int (bI r_1v), .int (nI 1)]) (rest := []) ⟨hx, hb, hml, hown, hts⟩ (mX4_start (A := A) (b := r_1v) (w9 := 1) (by decide)) (cwV 2 hts (gV tw_4_206 tw_4_208 sel_X4_start tw_1_8 tw_4_209) rfl rfl rfl (by decide +kernel) ⟨Nat.le_of_ble_eq_true rfl, Nat.le_of_ble_eq_true rfl⟩) hC hS (fun _ h => h) (fun q h => hA q (Nat.le_trans hS.1 h)) (hW.recv hK) ⟨ra, pa, tx, hW⟩ rfl rfl hl.1 (Nat.le_of_ble_eq_true rfl) ⟨Nat.zero_le _, Nat.zero_le _⟩ dX4_clear_6 (fun rv2 H2 L2 hP2 hk2 hS => ?_)
  have hZ2 := hS.1
  obtain ⟨hr2, hM2⟩ := hP2
  subst hr2
  obtain ⟨ra, pa, tx, hW⟩ := hM2
  have hO := hW.obj
  have hAm := hW.1
  refine f_eq (tgt := 14) hx hb dX4_clear_9 (by decide) (fun c_3 => ?_) (fun c_3 => ?_)
  · have hv : r_1v = false := by cases q : r_1v; rfl; rw [q] at c_3; exact absurd c_3 (by decide)
    rw [hv] at hW hO
    obtain ⟨i, hi, rfl⟩ : ∃ i : Nat, i < 4 ∧ x = nI i := Classical.byContradiction (fun q => absurd (hr_1v.mpr q) (by rw [hv]; decide))
    have hO := hW.obj
    have hAm := hW.1
    refine lv_aload_n hx hb dX4_clear_14 rfl (lv_at hl 0 rfl) ?_
    refine va_get (D := G.1) (ci := 8) (C := RX4) (T := TX4) (N := 5) hx hb hts inX4 hown hK (at_P hO) 0 rfl rfl 1 (by decide) (hts _ tw_4_173) (fun _ h9 => h9) rfl dX4_clear_15 ?_
    refine lv_iload_n hx hb dX4_clear_18 rfl (lv_at hl 1 rfl) ?_
    refine h_aaldI (D := G.1) hx hb hK 4 hW.txs rfl (vp_in_nI (n := i) (N := 4) (by omega) (by omega)) dX4_clear_19 ?_
    refine v_cv (show va_rf _ = .ref (tx i) from by rw [nI_clamp (n := i) (by omega)]; rfl) ?_
    have hTi := (hW.tx (j := i) (by omega)).ia hC.2.1.2
    have x60i := hW.2.2.1 i (Or.inl (by omega))
    refine h_ilen hx hb hC.2.1 hTi dX4_clear_20 ?_
    refine lv_istore_n (lv' := [(2, .int (nI ((X i).length))), (0, .ref am), (1, .int (nI i))]) hx hb dX4_clear_21 rfl hl (by decide) rfl (fun ls hl => ?_)
    refine lv_aload_n hx hb dX4_clear_22 rfl (lv_at hl 1 rfl) ?_
    refine lv_iload_n hx hb dX4_clear_23 rfl (lv_at hl 2 rfl) ?_
    refine lv_iconst (v := nI 0) hx hb dX4_clear_24 (by decide) ?_
    refine h_newa (D := G.1) (atype := .int) (N := 0) (z := (0, .inl (fun _ => 0))) hx hb (hts _ tw_1_70) rfl (fun h => h) hK 0 rfl hS rfl (nI_pos (by omega)) (nI_clamp (by omega)) (show 0 * _ ≤ _ from by show 0 * 4 ≤ 536870912; omega) (Nat.le_trans (show 0 + 1 ≤ 1 by omega) (Nat.le_of_ble_eq_true rfl)) (Nat.le_trans (show 0 + 0 ≤ 61 by omega) (Nat.le_of_ble_eq_true rfl)) dX4_clear_25 (fun na H4 hna hFna z4 o4 hS => ?_)
    have hZ4 := hS.1
    have hMna : A na := hA na (by omega)
    have hra := hW.row.lt
    have hW := hW.n o4
    have hR : IA0 G na [] H4 := IA0.mk hFna rfl (fun j hj => absurd hj (Nat.not_lt_zero j))
    refine qI_V (A := A) (A1 := A) (b := am) (As := [.int (nI i), .ref na]) (rest := []) ⟨hx, hb, hml, hown, hts⟩ (mX4_become (A := A) (X := X) (P := P) (k := k) (xa := xa) (t := []) hi ⟨okc_nil, Nat.zero_le _⟩) (cwV 2 hts (gV tw_4_214 tw_4_216 sel_X4_become tw_1_8 tw_4_217) rfl rfl rfl (by decide +kernel) ⟨Nat.le_of_ble_eq_true rfl, Nat.le_of_ble_eq_true rfl⟩) hC hS (fun _ h => h) (fun q h => hA q (Nat.le_trans hS.1 h)) (hW.recv hK) ⟨ra, pa, tx, hW, hR, by omega⟩ rfl rfl hl.1 (Nat.le_of_ble_eq_true rfl) ⟨Nat.le_trans (show (0 + 1) ≤ 1 by omega) (Nat.le_of_ble_eq_true rfl), Nat.le_trans (show (0 + 0) ≤ 61 by omega) (Nat.le_of_ble_eq_true rfl)⟩ dX4_clear_27 (fun rv5 H5 L5 hP5 hk5 hS => ?_)
    have hZ5 := hS.1
    refine lv_pop hx hb dX4_clear_30 rfl ?_
    refine lv_iload_n hx hb dX4_clear_31 rfl (lv_at hl 0 rfl) ?_
    exact q_i hx hb hr hlocks dX4_clear_32 hS (by omega) (by omega) (Or.inr ⟨i, hi, rfl, rfl, hP5.2⟩)
  · have hv : r_1v = true := by cases q : r_1v; rw [q] at c_3; exact absurd c_3 (by decide); rfl
    rw [hv] at hW
    refine lv_iconst (v := nI 0) hx hb dX4_clear_12 (by decide) ?_
    exact q_i hx hb hr hlocks dX4_clear_13 hS (by omega) (by omega) (Or.inl ⟨hr_1v.mp hv, rfl, ra, pa, tx, hW⟩)
end
/-! 42.mod6 -/
section
/-! The model, 6: calls of one text -/
theorem dX4_take_0 : decode cX4_take 0 = .ok (.aload_n 0, 1) := by decide +kernel
theorem dX4_take_1 : decode cX4_take 1 = .ok (.iload_n 1, 1) := by decide +kernel
theorem dX4_take_2 : decode cX4_take 2 = .ok (.invokestatic 107, 3) := by decide +kernel
theorem dX4_take_5 : decode cX4_take 5 = .ok (.iconst 1, 1) := by decide +kernel
theorem dX4_take_6 : decode cX4_take 6 = .ok (.invokevirtual 110, 3) := by decide +kernel
theorem dX4_take_9 : decode cX4_take 9 = .ok (.ifCond .eq 7, 3) := by decide +kernel
theorem dX4_take_12 : decode cX4_take 12 = .ok (.iconst 0, 1) := by decide +kernel
theorem dX4_take_13 : decode cX4_take 13 = .ok (.goto 21, 3) := by decide +kernel
theorem dX4_take_16 : decode cX4_take 16 = .ok (.aload_n 0, 1) := by decide +kernel
theorem dX4_take_17 : decode cX4_take 17 = .ok (.iload_n 1, 1) := by decide +kernel
theorem dX4_take_18 : decode cX4_take 18 = .ok (.aload_n 0, 1) := by decide +kernel
theorem dX4_take_19 : decode cX4_take 19 = .ok (.getfield 75, 3) := by decide +kernel
theorem dX4_take_22 : decode cX4_take 22 = .ok (.iconst 0, 1) := by decide +kernel
theorem dX4_take_23 : decode cX4_take 23 = .ok (.aload_n 0, 1) := by decide +kernel
theorem dX4_take_24 : decode cX4_take 24 = .ok (.getfield 75, 3) := by decide +kernel
theorem dX4_take_27 : decode cX4_take 27 = .ok (.arraylength, 1) := by decide +kernel
theorem dX4_take_28 : decode cX4_take 28 = .ok (.invokestatic 31, 3) := by decide +kernel
theorem dX4_take_31 : decode cX4_take 31 = .ok (.invokevirtual 113, 3) := by decide +kernel
theorem dX4_take_34 : decode cX4_take 34 = .ok (.ireturn, 1) := by decide +kernel
theorem dX4_length_0 : decode cX4_length 0 = .ok (.aload_n 0, 1) := by decide +kernel
theorem dX4_length_1 : decode cX4_length 1 = .ok (.iload_n 1, 1) := by decide +kernel
theorem dX4_length_2 : decode cX4_length 2 = .ok (.invokestatic 107, 3) := by decide +kernel
theorem dX4_length_5 : decode cX4_length 5 = .ok (.iconst 1, 1) := by decide +kernel
theorem dX4_length_6 : decode cX4_length 6 = .ok (.invokevirtual 110, 3) := by decide +kernel
theorem dX4_length_9 : decode cX4_length 9 = .ok (.ifCond .eq 7, 3) := by decide +kernel
theorem dX4_length_12 : decode cX4_length 12 = .ok (.iconst 0, 1) := by decide +kernel
theorem dX4_length_13 : decode cX4_length 13 = .ok (.goto 10, 3) := by decide +kernel
theorem dX4_length_16 : decode cX4_length 16 = .ok (.aload_n 0, 1) := by decide +kernel
theorem dX4_length_17 : decode cX4_length 17 = .ok (.getfield 72, 3) := by decide +kernel
theorem dX4_length_20 : decode cX4_length 20 = .ok (.iload_n 1, 1) := by decide +kernel
theorem dX4_length_21 : decode cX4_length 21 = .ok (.aaload, 1) := by decide +kernel
theorem dX4_length_22 : decode cX4_length 22 = .ok (.arraylength, 1) := by decide +kernel
theorem dX4_length_23 : decode cX4_length 23 = .ok (.ireturn, 1) := by decide +kernel
abbrev rmX4_length : Room := { frames := 3, cells := 0, slots := 0, locals := 64 }
theorem mX4_length {l : Launch} {G : Cx} {A : Nat → Prop} {am xa : Nat} {X : Nat → List Nat} {P : List (List Nat)} {k : Int32} {x th : Int32} : Met l yX4_length (.code yX4_length cX4_length 2 (some .int) :: GW) rmX4_length (PC G A [.ref am, .int x] (MW G A am xa X P k th)) (qI A (fun r H => (NT x ∧ r = 0 ∧ MW G A am xa X P k 1 H) ∨ ∃ i : Nat, i < 4 ∧ x = nI i ∧ r = nI (X i).length ∧ MW G A am xa X P k 0 H)) 0 0 (A) := by
  refine mstart "SigntextModel" (by decide +kernel) rfl (Nat.le_of_ble_eq_true rfl) ?_
  intro p e s m below meth c ls hx hb hr hts hown hml hlocks hname hC hA hW hl
  have hl : lv_has ls 2 [(0, .ref am), (1, .int x)] := hl
  have hK := hC.1
  have hS : va_S A s.heap s.heap [] := va_S.rf
  obtain ⟨ra, pa, tx, hW⟩ := hW
  have hO := hW.obj
  have hAm := hW.1
  refine lv_aload_n hx hb dX4_length_0 rfl (lv_at hl 0 rfl) ?_
  refine lv_iload_n hx hb dX4_length_1 rfl (lv_at hl 1 rfl) ?_
  refine kS_i (A := A) (As := [.int x]) (rest := .ref am :: []) ⟨hx, hb, hml, hown, hts⟩ (mX4_isNone (A := A) ) (va_cwS 1 hts (gS tw_4_203 tw_4_204 tw_1_8 tw_4_205) rfl rfl rfl (by decide +kernel) ⟨Nat.le_of_ble_eq_true rfl, Nat.le_of_ble_eq_true rfl⟩) hC hS hA  trivial rfl rfl hl.1 (Nat.le_of_ble_eq_true rfl) ⟨Nat.zero_le _, Nat.zero_le _⟩ dX4_length_2 (fun r_1 hr_1 => ?_)
  obtain ⟨r_1v, hr_1v, rfl⟩ := hr_1
  refine lv_iconst (v := nI 1) hx hb dX4_length_5 (by decide) ?_
  refine qI_V (A := A) (A1 := A) (b := am) (As := [.int (bI r_1v), .int (nI 1)]) (rest := []) ⟨hx, hb, hml, hown, hts⟩ (mX4_start (A := A) (b := r_1v) (w9 := 1) (by decide)) (cwV 2 hts (gV tw_4_206 tw_4_208 sel_X4_start tw_1_8 tw_4_209) rfl rfl rfl (by decide +kernel) ⟨Nat.le_of_ble_eq_true rfl, Nat.le_of_ble_eq_true rfl⟩) hC hS (fun _ h => h) (fun q h => hA q (Nat.le_trans hS.1 h)) (hW.recv hK) ⟨ra, pa, tx, hW⟩ rfl rfl hl.1 (Nat.le_of_ble_eq_true rfl) ⟨Nat.zero_le _, Nat.zero_le _⟩ dX4_length_6 (fun rv2 H2 L2 hP2 hk2 hS => ?_)
  have hZ2 := hS.1
  obtain ⟨hr2, hM2⟩ := hP2
  subst hr2
  obtain ⟨ra, pa, tx, hW⟩ := hM2
  have hO := hW.obj
  have hAm := hW.1
  refine f_eq (tgt := 16) hx hb dX4_length_9 (by decide) (fun c_3 => ?_) (fun c_3 => ?_)
  · have hv : r_1v = false := by cases q : r_1v; rfl; rw [q] at c_3; exact absurd c_3 (by decide)
    rw [hv] at hW hO
    obtain ⟨i, hi, rfl⟩ : ∃ i : Nat, i < 4 ∧ x = nI i := Classical.byContradiction (fun q => absurd (hr_1v.mpr q) (by rw [hv]; decide))
    have hO := hW.obj
    have hAm := hW.1
    refine lv_aload_n hx hb dX4_length_16 rfl (lv_at hl 0 rfl) ?_
    refine va_get (D := G.1) (ci := 8) (C := RX4) (T := TX4) (N := 5) hx hb hts inX4 hown hK (at_P hO) 0 rfl rfl 1 (by decide) (hts _ tw_4_173) (fun _ h9 => h9) rfl dX4_length_17 ?_
    refine lv_iload_n hx hb dX4_length_20 rfl (lv_at hl 1 rfl) ?_
    refine h_aaldI (D := G.1) hx hb hK 4 hW.txs rfl (vp_in_nI (n := i) (N := 4) (by omega) (by omega)) dX4_length_21 ?_
    refine v_cv (show va_rf _ = .ref (tx i) from by rw [nI_clamp (n := i) (by omega)]; rfl) ?_
    have hTi := (hW.tx (j := i) (by omega)).ia hC.2.1.2
    have x60i := hW.2.2.1 i (Or.inl (by omega))
    refine h_ilen hx hb hC.2.1 hTi dX4_length_22 ?_
    exact q_i hx hb hr hlocks dX4_length_23 hS (Nat.le_refl _) (Nat.le_refl _) (Or.inr ⟨i, hi, rfl, rfl, ra, pa, tx, hW⟩)
  · have hv : r_1v = true := by cases q : r_1v; rw [q] at c_3; exact absurd c_3 (by decide); rfl
    rw [hv] at hW hO
    refine lv_iconst (v := nI 0) hx hb dX4_length_12 (by decide) ?_
    refine lv_goto (tgt := 23) hx hb dX4_length_13 (by decide) ?_
    exact q_i hx hb hr hlocks dX4_length_23 hS (Nat.le_refl _) (Nat.le_refl _) (Or.inl ⟨hr_1v.mp hv, rfl, ra, pa, tx, hW⟩)

abbrev rmX4_take : Room := { frames := 3, cells := 1, slots := 61, locals := 64 }
theorem mX4_take {l : Launch} {G : Cx} {A : Nat → Prop} {am xa : Nat} {X : Nat → List Nat} {P : List (List Nat)} {k : Int32} {x th : Int32} : Met l yX4_take (.code yX4_take cX4_take 2 (some .int) :: GW) rmX4_take (PC G A [.ref am, .int x] (MW G A am xa X P k th)) (qI A (fun r H => (NT x ∧ r = 0 ∧ MW G A am xa X P k 1 H) ∨ ∃ i : Nat, i < 4 ∧ x = nI i ∧ r = nI (X 11).length ∧ MW G A am xa (updT X i (X 11)) P k 0 H)) 1 61 (A) := by
  refine mstart "SigntextModel" (by decide +kernel) rfl (Nat.le_of_ble_eq_true rfl) ?_
  intro p e s m below meth c ls hx hb hr hts hown hml hlocks hname hC hA hW hl
  have hl : lv_has ls 2 [(0, .ref am), (1, .int x)] := hl
  have hK := hC.1
  have hS : va_S A s.heap s.heap [] := va_S.rf
  obtain ⟨ra, pa, tx, hW⟩ := hW
  have hO := hW.obj
  have hAm := hW.1
  refine lv_aload_n hx hb dX4_take_0 rfl (lv_at hl 0 rfl) ?_
  refine lv_iload_n hx hb dX4_take_1 rfl (lv_at hl 1 rfl) ?_
  refine kS_i (A := A) (As := [.int x]) (rest := .ref am :: []) ⟨hx, hb, hml, hown, hts⟩ (mX4_isNone (A := A) ) (va_cwS 1 hts (gS tw_4_203 tw_4_204 tw_1_8 tw_4_205) rfl rfl rfl (by decide +kernel) ⟨Nat.le_of_ble_eq_true rfl, Nat.le_of_ble_eq_true rfl⟩) hC hS hA  trivial rfl rfl hl.1 (Nat.le_of_ble_eq_true rfl) ⟨Nat.zero_le _, Nat.zero_le _⟩ dX4_take_2 (fun r_4 hr_4 => ?_)
  obtain ⟨r_4v, hr_4v, rfl⟩ := hr_4
  refine lv_iconst (v := nI 1) hx hb dX4_take_5 (by decide) ?_
  refine qI_V (A := A) (A1 := A) (b := am) (As := [.int (bI r_4v), .int (nI 1)]) (rest := []) ⟨hx, hb, hml, hown, hts⟩ (mX4_start (A := A) (b := r_4v) (w9 := 1) (by decide)) (cwV 2 hts (gV tw_4_206 tw_4_208 sel_X4_start tw_1_8 tw_4_209) rfl rfl rfl (by decide +kernel) ⟨Nat.le_of_ble_eq_true rfl, Nat.le_of_ble_eq_true rfl⟩) hC hS (fun _ h => h) (fun q h => hA q (Nat.le_trans hS.1 h)) (hW.recv hK) ⟨ra, pa, tx, hW⟩ rfl rfl hl.1 (Nat.le_of_ble_eq_true rfl) ⟨Nat.zero_le _, Nat.zero_le _⟩ dX4_take_6 (fun rv5 H5 L5 hP5 hk5 hS => ?_)
  have hZ5 := hS.1
  obtain ⟨hr5, hM5⟩ := hP5
  subst hr5
  obtain ⟨ra, pa, tx, hW⟩ := hM5
  have hO := hW.obj
  have hAm := hW.1
  refine f_eq (tgt := 16) hx hb dX4_take_9 (by decide) (fun c_6 => ?_) (fun c_6 => ?_)
  · have hv : r_4v = false := by cases q : r_4v; rfl; rw [q] at c_6; exact absurd c_6 (by decide)
    rw [hv] at hW hO
    obtain ⟨i, hi, rfl⟩ : ∃ i : Nat, i < 4 ∧ x = nI i := Classical.byContradiction (fun q => absurd (hr_4v.mpr q) (by rw [hv]; decide))
    have hO := hW.obj
    have hAm := hW.1
    have hR1 := hW.row.ia hC.2.1.2
    have x11 := hW.2.2.1 11 (Or.inr rfl)
    refine lv_aload_n hx hb dX4_take_16 rfl (lv_at hl 0 rfl) ?_
    refine lv_iload_n hx hb dX4_take_17 rfl (lv_at hl 1 rfl) ?_
    refine lv_aload_n hx hb dX4_take_18 rfl (lv_at hl 0 rfl) ?_
    refine va_get (D := G.1) (ci := 8) (C := RX4) (T := TX4) (N := 5) hx hb hts inX4 hown hK (at_P hO) 0 rfl rfl 2 (by decide) (hts _ tw_4_174) (fun _ h9 => h9) rfl dX4_take_19 ?_
    refine lv_iconst (v := nI 0) hx hb dX4_take_22 (by decide) ?_
    refine lv_aload_n hx hb dX4_take_23 rfl (lv_at hl 0 rfl) ?_
    refine va_get (D := G.1) (ci := 8) (C := RX4) (T := TX4) (N := 5) hx hb hts inX4 hown hK (at_P hO) 0 rfl rfl 2 (by decide) (hts _ tw_4_174) (fun _ h9 => h9) rfl dX4_take_24 ?_
    refine h_ilen hx hb hC.2.1 hR1 dX4_take_27 ?_
    have hra := hW.row.lt
    refine qR_S (A := A) (A1 := nw H5.size)  (As := [.ref ra, .int (nI 0), .int (nI ((X 11).length))]) (rest := .int (nI i) :: .ref am :: []) ⟨hx, hb, hml, hown, hts⟩ (mX4_cut (A := nw H5.size) (sz := H5.size) (t := X 11) (i := 0) (i2 := (X 11).length) (Nat.zero_le _) (Nat.le_refl _) (by omega)) (va_cwS 3 hts (gS tw_4_226 tw_4_227 tw_1_8 tw_4_228) rfl rfl rfl (by decide +kernel) ⟨Nat.le_of_ble_eq_true rfl, Nat.le_of_ble_eq_true rfl⟩) hC hS (nw_in hA hS.1) nw_n  ⟨rfl, hR1⟩ rfl rfl hl.1 (Nat.le_of_ble_eq_true rfl) ⟨Nat.le_trans (show 0 + 1 ≤ 1 by omega) (Nat.le_of_ble_eq_true rfl), Nat.le_trans (show 0 + 61 ≤ 61 by omega) (Nat.le_of_ble_eq_true rfl)⟩ dX4_take_28 (fun rv7 H7 L7 hP7 hk7 hS => ?_)
    have hZ7 := hS.1
    rw [cutL_all] at hP7
    have hW := hW.nw hk7
    refine qI_V (A := A) (A1 := A) (b := am) (As := [.int (nI i), .ref rv7]) (rest := []) ⟨hx, hb, hml, hown, hts⟩ (mX4_become (A := A) (X := X) (P := P) (k := k) (xa := xa) (t := X 11) hi x11) (cwV 2 hts (gV tw_4_214 tw_4_216 sel_X4_become tw_1_8 tw_4_217) rfl rfl rfl (by decide +kernel) ⟨Nat.le_of_ble_eq_true rfl, Nat.le_of_ble_eq_true rfl⟩) hC hS (fun _ h => h) (fun q h => hA q (Nat.le_trans hS.1 h)) (hW.recv hK) ⟨ra, pa, tx, hW, hP7.2, (by have := hP7.1; omega)⟩ rfl rfl hl.1 (Nat.le_of_ble_eq_true rfl) ⟨Nat.le_trans (show (0 + 1) ≤ 1 by omega) (Nat.le_of_ble_eq_true rfl), Nat.le_trans (show (0 + 61) ≤ 61 by omega) (Nat.le_of_ble_eq_true rfl)⟩ dX4_take_31 (fun rv8 H8 L8 hP8 hk8 hS => ?_)
    have hZ8 := hS.1
    exact q_i hx hb hr hlocks dX4_take_34 hS (by omega) (by omega) (Or.inr ⟨i, hi, rfl, hP8.1, hP8.2⟩)
  · have hv : r_4v = true := by cases q : r_4v; rw [q] at c_6; exact absurd c_6 (by decide); rfl
    rw [hv] at hW hO
    refine lv_iconst (v := nI 0) hx hb dX4_take_12 (by decide) ?_
    refine lv_goto (tgt := 34) hx hb dX4_take_13 (by decide) ?_
    exact q_i hx hb hr hlocks dX4_take_34 hS (by omega) (by omega) (Or.inl ⟨hr_4v.mp hv, rfl, ra, pa, tx, hW⟩)
end
/-! 43.mod7 -/
section
/-! The model, 7: calls of two texts -/
theorem dX4_copy_0 : decode cX4_copy 0 = .ok (.aload_n 0, 1) := by decide +kernel
theorem dX4_copy_1 : decode cX4_copy 1 = .ok (.iload_n 1, 1) := by decide +kernel
theorem dX4_copy_2 : decode cX4_copy 2 = .ok (.invokestatic 107, 3) := by decide +kernel
theorem dX4_copy_5 : decode cX4_copy 5 = .ok (.ifCond .ne 10, 3) := by decide +kernel
theorem dX4_copy_8 : decode cX4_copy 8 = .ok (.iload_n 2, 1) := by decide +kernel
theorem dX4_copy_9 : decode cX4_copy 9 = .ok (.invokestatic 107, 3) := by decide +kernel
theorem dX4_copy_12 : decode cX4_copy 12 = .ok (.ifCond .eq 7, 3) := by decide +kernel
theorem dX4_copy_15 : decode cX4_copy 15 = .ok (.iconst 1, 1) := by decide +kernel
theorem dX4_copy_16 : decode cX4_copy 16 = .ok (.goto 4, 3) := by decide +kernel
theorem dX4_copy_19 : decode cX4_copy 19 = .ok (.iconst 0, 1) := by decide +kernel
theorem dX4_copy_20 : decode cX4_copy 20 = .ok (.iconst 1, 1) := by decide +kernel
theorem dX4_copy_21 : decode cX4_copy 21 = .ok (.invokevirtual 110, 3) := by decide +kernel
theorem dX4_copy_24 : decode cX4_copy 24 = .ok (.ifCond .eq 7, 3) := by decide +kernel
theorem dX4_copy_27 : decode cX4_copy 27 = .ok (.iconst 0, 1) := by decide +kernel
theorem dX4_copy_28 : decode cX4_copy 28 = .ok (.goto 25, 3) := by decide +kernel
theorem dX4_copy_31 : decode cX4_copy 31 = .ok (.aload_n 0, 1) := by decide +kernel
theorem dX4_copy_32 : decode cX4_copy 32 = .ok (.iload_n 2, 1) := by decide +kernel
theorem dX4_copy_33 : decode cX4_copy 33 = .ok (.aload_n 0, 1) := by decide +kernel
theorem dX4_copy_34 : decode cX4_copy 34 = .ok (.getfield 72, 3) := by decide +kernel
theorem dX4_copy_37 : decode cX4_copy 37 = .ok (.iload_n 1, 1) := by decide +kernel
theorem dX4_copy_38 : decode cX4_copy 38 = .ok (.aaload, 1) := by decide +kernel
theorem dX4_copy_39 : decode cX4_copy 39 = .ok (.iconst 0, 1) := by decide +kernel
theorem dX4_copy_40 : decode cX4_copy 40 = .ok (.aload_n 0, 1) := by decide +kernel
theorem dX4_copy_41 : decode cX4_copy 41 = .ok (.getfield 72, 3) := by decide +kernel
theorem dX4_copy_44 : decode cX4_copy 44 = .ok (.iload_n 1, 1) := by decide +kernel
theorem dX4_copy_45 : decode cX4_copy 45 = .ok (.aaload, 1) := by decide +kernel
theorem dX4_copy_46 : decode cX4_copy 46 = .ok (.arraylength, 1) := by decide +kernel
theorem dX4_copy_47 : decode cX4_copy 47 = .ok (.invokestatic 31, 3) := by decide +kernel
theorem dX4_copy_50 : decode cX4_copy 50 = .ok (.invokevirtual 113, 3) := by decide +kernel
theorem dX4_copy_53 : decode cX4_copy 53 = .ok (.ireturn, 1) := by decide +kernel
theorem dX4_trim_0 : decode cX4_trim 0 = .ok (.aload_n 0, 1) := by decide +kernel
theorem dX4_trim_1 : decode cX4_trim 1 = .ok (.iload_n 1, 1) := by decide +kernel
theorem dX4_trim_2 : decode cX4_trim 2 = .ok (.invokestatic 107, 3) := by decide +kernel
theorem dX4_trim_5 : decode cX4_trim 5 = .ok (.ifCond .ne 10, 3) := by decide +kernel
theorem dX4_trim_8 : decode cX4_trim 8 = .ok (.iload_n 3, 1) := by decide +kernel
theorem dX4_trim_9 : decode cX4_trim 9 = .ok (.invokestatic 107, 3) := by decide +kernel
theorem dX4_trim_12 : decode cX4_trim 12 = .ok (.ifCond .eq 7, 3) := by decide +kernel
theorem dX4_trim_15 : decode cX4_trim 15 = .ok (.iconst 1, 1) := by decide +kernel
theorem dX4_trim_16 : decode cX4_trim 16 = .ok (.goto 4, 3) := by decide +kernel
theorem dX4_trim_19 : decode cX4_trim 19 = .ok (.iconst 0, 1) := by decide +kernel
theorem dX4_trim_20 : decode cX4_trim 20 = .ok (.iconst 1, 1) := by decide +kernel
theorem dX4_trim_21 : decode cX4_trim 21 = .ok (.invokevirtual 110, 3) := by decide +kernel
theorem dX4_trim_24 : decode cX4_trim 24 = .ok (.ifCond .eq 7, 3) := by decide +kernel
theorem dX4_trim_27 : decode cX4_trim 27 = .ok (.iconst 0, 1) := by decide +kernel
theorem dX4_trim_28 : decode cX4_trim 28 = .ok (.goto 18, 3) := by decide +kernel
theorem dX4_trim_31 : decode cX4_trim 31 = .ok (.aload_n 0, 1) := by decide +kernel
theorem dX4_trim_32 : decode cX4_trim 32 = .ok (.iload_n 3, 1) := by decide +kernel
theorem dX4_trim_33 : decode cX4_trim 33 = .ok (.aload_n 0, 1) := by decide +kernel
theorem dX4_trim_34 : decode cX4_trim 34 = .ok (.getfield 72, 3) := by decide +kernel
theorem dX4_trim_37 : decode cX4_trim 37 = .ok (.iload_n 1, 1) := by decide +kernel
theorem dX4_trim_38 : decode cX4_trim 38 = .ok (.aaload, 1) := by decide +kernel
theorem dX4_trim_39 : decode cX4_trim 39 = .ok (.iload_n 2, 1) := by decide +kernel
theorem dX4_trim_40 : decode cX4_trim 40 = .ok (.invokestatic 117, 3) := by decide +kernel
theorem dX4_trim_43 : decode cX4_trim 43 = .ok (.invokevirtual 113, 3) := by decide +kernel
theorem dX4_trim_46 : decode cX4_trim 46 = .ok (.ireturn, 1) := by decide +kernel
abbrev rmX4_copy : Room := { frames := 3, cells := 1, slots := 61, locals := 64 }
theorem mX4_copy {l : Launch} {G : Cx} {A : Nat → Prop} {am xa : Nat} {X : Nat → List Nat} {P : List (List Nat)} {k : Int32} {x y th : Int32} : Met l yX4_copy (.code yX4_copy cX4_copy 3 (some .int) :: GW) rmX4_copy (PC G A [.ref am, .int x, .int y] (MW G A am xa X P k th)) (qI A (fun r H => ((NT x ∨ NT y) ∧ r = 0 ∧ MW G A am xa X P k 1 H) ∨ ∃ i j : Nat, i < 4 ∧ x = nI i ∧ j < 4 ∧ y = nI j ∧ r = nI (X i).length ∧ MW G A am xa (updT X j (X i)) P k 0 H)) 1 61 (A) := by
  refine mstart "SigntextModel" (by decide +kernel) rfl (Nat.le_of_ble_eq_true rfl) ?_
  intro p e s m below meth c ls hx hb hr hts hown hml hlocks hname hC hA hW hl
  have hl : lv_has ls 3 [(0, .ref am), (1, .int x), (2, .int y)] := hl
  have hK := hC.1
  have hS : va_S A s.heap s.heap [] := va_S.rf
  obtain ⟨ra, pa, tx, hW⟩ := hW
  have hO := hW.obj
  have hAm := hW.1
  refine lv_aload_n hx hb dX4_copy_0 rfl (lv_at hl 0 rfl) ?_
  refine lv_iload_n hx hb dX4_copy_1 rfl (lv_at hl 1 rfl) ?_
  refine kS_i (A := A) (As := [.int x]) (rest := .ref am :: []) ⟨hx, hb, hml, hown, hts⟩ (mX4_isNone (A := A) ) (va_cwS 1 hts (gS tw_4_203 tw_4_204 tw_1_8 tw_4_205) rfl rfl rfl (by decide +kernel) ⟨Nat.le_of_ble_eq_true rfl, Nat.le_of_ble_eq_true rfl⟩) hC hS hA  trivial rfl rfl hl.1 (Nat.le_of_ble_eq_true rfl) ⟨Nat.zero_le _, Nat.zero_le _⟩ dX4_copy_2 (fun r_1 hr_1 => ?_)
  obtain ⟨r_1v, hr_1v, rfl⟩ := hr_1
  refine f_ne (tgt := 15) hx hb dX4_copy_5 (by decide) (fun c_2 => ?_) (fun c_2 => ?_)
  · refine lv_iconst (v := nI 1) hx hb dX4_copy_15 (by decide) ?_
    refine lv_goto (tgt := 20) hx hb dX4_copy_16 (by decide) ?_
    refine lv_iconst (v := nI 1) hx hb dX4_copy_20 (by decide) ?_
    refine qI_V (A := A) (A1 := A) (b := am) (As := [.int (bI true), .int (nI 1)]) (rest := []) ⟨hx, hb, hml, hown, hts⟩ (mX4_start (A := A) (b := true) (w9 := 1) (by decide)) (cwV 2 hts (gV tw_4_206 tw_4_208 sel_X4_start tw_1_8 tw_4_209) rfl rfl rfl (by decide +kernel) ⟨Nat.le_of_ble_eq_true rfl, Nat.le_of_ble_eq_true rfl⟩) hC hS (fun _ h => h) (fun q h => hA q (Nat.le_trans hS.1 h)) (hW.recv hK) ⟨ra, pa, tx, hW⟩ rfl rfl hl.1 (Nat.le_of_ble_eq_true rfl) ⟨Nat.zero_le _, Nat.zero_le _⟩ dX4_copy_21 (fun rv3 H3 L3 hP3 hk3 hS => ?_)
    have hZ3 := hS.1
    obtain ⟨hr3, hM3⟩ := hP3
    subst hr3
    obtain ⟨ra, pa, tx, hW⟩ := hM3
    have hO := hW.obj
    have hAm := hW.1
    refine f_eq (tgt := 31) hx hb dX4_copy_24 (by decide) (fun c_4 => ?_) (fun c_4 => ?_)
    · exact absurd c_4 (by decide)
    · refine lv_iconst (v := nI 0) hx hb dX4_copy_27 (by decide) ?_
      refine lv_goto (tgt := 53) hx hb dX4_copy_28 (by decide) ?_
      exact q_i hx hb hr hlocks dX4_copy_53 hS (by omega) (by omega) (Or.inl ⟨(Or.inl (hr_1v.mp c_2)), rfl, ra, pa, tx, hW⟩)
  · obtain ⟨i, hi, rfl⟩ : ∃ i : Nat, i < 4 ∧ x = nI i := Classical.byContradiction (fun q => absurd (hr_1v.mpr q) (by rw [c_2]; decide))
    refine lv_iload_n hx hb dX4_copy_8 rfl (lv_at hl 2 rfl) ?_
    refine kS_i (A := A) (As := [.int y]) (rest := .ref am :: []) ⟨hx, hb, hml, hown, hts⟩ (mX4_isNone (A := A) ) (va_cwS 1 hts (gS tw_4_203 tw_4_204 tw_1_8 tw_4_205) rfl rfl rfl (by decide +kernel) ⟨Nat.le_of_ble_eq_true rfl, Nat.le_of_ble_eq_true rfl⟩) hC hS hA  trivial rfl rfl hl.1 (Nat.le_of_ble_eq_true rfl) ⟨Nat.zero_le _, Nat.zero_le _⟩ dX4_copy_9 (fun r_5 hr_5 => ?_)
    obtain ⟨r_5v, hr_5v, rfl⟩ := hr_5
    refine f_eq (tgt := 19) hx hb dX4_copy_12 (by decide) (fun c_6 => ?_) (fun c_6 => ?_)
    · obtain ⟨j, hj, rfl⟩ : ∃ j : Nat, j < 4 ∧ y = nI j := Classical.byContradiction (fun q => absurd (hr_5v.mpr q) (by rw [c_6]; decide))
      refine lv_iconst (v := nI 0) hx hb dX4_copy_19 (by decide) ?_
      refine lv_iconst (v := nI 1) hx hb dX4_copy_20 (by decide) ?_
      refine qI_V (A := A) (A1 := A) (b := am) (As := [.int (bI false), .int (nI 1)]) (rest := []) ⟨hx, hb, hml, hown, hts⟩ (mX4_start (A := A) (b := false) (w9 := 1) (by decide)) (cwV 2 hts (gV tw_4_206 tw_4_208 sel_X4_start tw_1_8 tw_4_209) rfl rfl rfl (by decide +kernel) ⟨Nat.le_of_ble_eq_true rfl, Nat.le_of_ble_eq_true rfl⟩) hC hS (fun _ h => h) (fun q h => hA q (Nat.le_trans hS.1 h)) (hW.recv hK) ⟨ra, pa, tx, hW⟩ rfl rfl hl.1 (Nat.le_of_ble_eq_true rfl) ⟨Nat.zero_le _, Nat.zero_le _⟩ dX4_copy_21 (fun rv7 H7 L7 hP7 hk7 hS => ?_)
      have hZ7 := hS.1
      obtain ⟨hr7, hM7⟩ := hP7
      subst hr7
      obtain ⟨ra, pa, tx, hW⟩ := hM7
      have hO := hW.obj
      have hAm := hW.1
      refine f_eq (tgt := 31) hx hb dX4_copy_24 (by decide) (fun c_8 => ?_) (fun c_8 => ?_)
      · refine lv_aload_n hx hb dX4_copy_31 rfl (lv_at hl 0 rfl) ?_
        refine lv_iload_n hx hb dX4_copy_32 rfl (lv_at hl 2 rfl) ?_
        refine lv_aload_n hx hb dX4_copy_33 rfl (lv_at hl 0 rfl) ?_
        refine va_get (D := G.1) (ci := 8) (C := RX4) (T := TX4) (N := 5) hx hb hts inX4 hown hK (at_P hO) 0 rfl rfl 1 (by decide) (hts _ tw_4_173) (fun _ h9 => h9) rfl dX4_copy_34 ?_
        refine lv_iload_n hx hb dX4_copy_37 rfl (lv_at hl 1 rfl) ?_
        refine h_aaldI (D := G.1) hx hb hK 4 hW.txs rfl (vp_in_nI (n := i) (N := 4) (by omega) (by omega)) dX4_copy_38 ?_
        refine v_cv (show va_rf _ = .ref (tx i) from by rw [nI_clamp (n := i) (by omega)]; rfl) ?_
        have hTi := (hW.tx (j := i) (by omega)).ia hC.2.1.2
        have x60i := hW.2.2.1 i (Or.inl (by omega))
        refine lv_iconst (v := nI 0) hx hb dX4_copy_39 (by decide) ?_
        refine lv_aload_n hx hb dX4_copy_40 rfl (lv_at hl 0 rfl) ?_
        refine va_get (D := G.1) (ci := 8) (C := RX4) (T := TX4) (N := 5) hx hb hts inX4 hown hK (at_P hO) 0 rfl rfl 1 (by decide) (hts _ tw_4_173) (fun _ h9 => h9) rfl dX4_copy_41 ?_
        refine lv_iload_n hx hb dX4_copy_44 rfl (lv_at hl 1 rfl) ?_
        refine h_aaldI (D := G.1) hx hb hK 4 hW.txs rfl (vp_in_nI (n := i) (N := 4) (by omega) (by omega)) dX4_copy_45 ?_
        refine v_cv (show va_rf _ = .ref (tx i) from by rw [nI_clamp (n := i) (by omega)]; rfl) ?_
        refine h_ilen hx hb hC.2.1 hTi dX4_copy_46 ?_
        have hra := hW.row.lt
        refine qR_S (A := A) (A1 := nw H7.size)  (As := [.ref (tx i), .int (nI 0), .int (nI ((X i).length))]) (rest := .int (nI j) :: .ref am :: []) ⟨hx, hb, hml, hown, hts⟩ (mX4_cut (A := nw H7.size) (sz := H7.size) (t := X i) (i := 0) (i2 := (X i).length) (Nat.zero_le _) (Nat.le_refl _) (by omega)) (va_cwS 3 hts (gS tw_4_226 tw_4_227 tw_1_8 tw_4_228) rfl rfl rfl (by decide +kernel) ⟨Nat.le_of_ble_eq_true rfl, Nat.le_of_ble_eq_true rfl⟩) hC hS (nw_in hA hS.1) nw_n  ⟨rfl, hTi⟩ rfl rfl hl.1 (Nat.le_of_ble_eq_true rfl) ⟨Nat.le_trans (show 0 + 1 ≤ 1 by omega) (Nat.le_of_ble_eq_true rfl), Nat.le_trans (show 0 + 61 ≤ 61 by omega) (Nat.le_of_ble_eq_true rfl)⟩ dX4_copy_47 (fun rv9 H9 L9 hP9 hk9 hS => ?_)
        have hZ9 := hS.1
        rw [cutL_all] at hP9
        have hW := hW.nw hk9
        refine qI_V (A := A) (A1 := A) (b := am) (As := [.int (nI j), .ref rv9]) (rest := []) ⟨hx, hb, hml, hown, hts⟩ (mX4_become (A := A) (X := X) (P := P) (k := k) (xa := xa) (t := X i) hj x60i) (cwV 2 hts (gV tw_4_214 tw_4_216 sel_X4_become tw_1_8 tw_4_217) rfl rfl rfl (by decide +kernel) ⟨Nat.le_of_ble_eq_true rfl, Nat.le_of_ble_eq_true rfl⟩) hC hS (fun _ h => h) (fun q h => hA q (Nat.le_trans hS.1 h)) (hW.recv hK) ⟨ra, pa, tx, hW, hP9.2, (by have := hP9.1; omega)⟩ rfl rfl hl.1 (Nat.le_of_ble_eq_true rfl) ⟨Nat.le_trans (show (0 + 1) ≤ 1 by omega) (Nat.le_of_ble_eq_true rfl), Nat.le_trans (show (0 + 61) ≤ 61 by omega) (Nat.le_of_ble_eq_true rfl)⟩ dX4_copy_50 (fun rv10 H10 L10 hP10 hk10 hS => ?_)
        have hZ10 := hS.1
        exact q_i hx hb hr hlocks dX4_copy_53 hS (by omega) (by omega) (Or.inr ⟨i, j, hi, rfl, hj, rfl, hP10.1, hP10.2⟩)
      · exact absurd c_8 (by decide)
    · refine lv_iconst (v := nI 1) hx hb dX4_copy_15 (by decide) ?_
      refine lv_goto (tgt := 20) hx hb dX4_copy_16 (by decide) ?_
      refine lv_iconst (v := nI 1) hx hb dX4_copy_20 (by decide) ?_
      refine qI_V (A := A) (A1 := A) (b := am) (As := [.int (bI true), .int (nI 1)]) (rest := []) ⟨hx, hb, hml, hown, hts⟩ (mX4_start (A := A) (b := true) (w9 := 1) (by decide)) (cwV 2 hts (gV tw_4_206 tw_4_208 sel_X4_start tw_1_8 tw_4_209) rfl rfl rfl (by decide +kernel) ⟨Nat.le_of_ble_eq_true rfl, Nat.le_of_ble_eq_true rfl⟩) hC hS (fun _ h => h) (fun q h => hA q (Nat.le_trans hS.1 h)) (hW.recv hK) ⟨ra, pa, tx, hW⟩ rfl rfl hl.1 (Nat.le_of_ble_eq_true rfl) ⟨Nat.zero_le _, Nat.zero_le _⟩ dX4_copy_21 (fun rv11 H11 L11 hP11 hk11 hS => ?_)
      have hZ11 := hS.1
      obtain ⟨hr11, hM11⟩ := hP11
      subst hr11
      obtain ⟨ra, pa, tx, hW⟩ := hM11
      have hO := hW.obj
      have hAm := hW.1
      refine f_eq (tgt := 31) hx hb dX4_copy_24 (by decide) (fun c_12 => ?_) (fun c_12 => ?_)
      · exact absurd c_12 (by decide)
      · refine lv_iconst (v := nI 0) hx hb dX4_copy_27 (by decide) ?_
        refine lv_goto (tgt := 53) hx hb dX4_copy_28 (by decide) ?_
        exact q_i hx hb hr hlocks dX4_copy_53 hS (by omega) (by omega) (Or.inl ⟨(Or.inr (hr_5v.mp c_6)), rfl, ra, pa, tx, hW⟩)

abbrev rmX4_trim : Room := { frames := 3, cells := 1, slots := 61, locals := 67 }
theorem mX4_trim {l : Launch} {G : Cx} {A : Nat → Prop} {am xa : Nat} {X : Nat → List Nat} {P : List (List Nat)} {k : Int32} {x y th : Int32} {b : Bool} : Met l yX4_trim (.code yX4_trim cX4_trim 4 (some .int) :: GW) rmX4_trim (PC G A [.ref am, .int x, .int (bI b), .int y] (MW G A am xa X P k th)) (qI A (fun r H => ((NT x ∨ NT y) ∧ r = 0 ∧ MW G A am xa X P k 1 H) ∨ ∃ i j : Nat, i < 4 ∧ x = nI i ∧ j < 4 ∧ y = nI j ∧ (∃ e9, isTe b (X i) e9 ∧ r = nI (cutL (X i) (tbL b (X i)) e9).length ∧ MW G A am xa (updT X j (cutL (X i) (tbL b (X i)) e9)) P k 0 H))) 1 61 (A) := by
  refine mstart "SigntextModel" (by decide +kernel) rfl (Nat.le_of_ble_eq_true rfl) ?_
  intro p e s m below meth c ls hx hb hr hts hown hml hlocks hname hC hA hW hl
  have hl : lv_has ls 4 [(0, .ref am), (1, .int x), (2, .int (bI b)), (3, .int y)] := hl
  have hK := hC.1
  have hS : va_S A s.heap s.heap [] := va_S.rf
  obtain ⟨ra, pa, tx, hW⟩ := hW
  have hO := hW.obj
  have hAm := hW.1
  refine lv_aload_n hx hb dX4_trim_0 rfl (lv_at hl 0 rfl) ?_
  refine lv_iload_n hx hb dX4_trim_1 rfl (lv_at hl 1 rfl) ?_
  refine kS_i (A := A) (As := [.int x]) (rest := .ref am :: []) ⟨hx, hb, hml, hown, hts⟩ (mX4_isNone (A := A) ) (va_cwS 1 hts (gS tw_4_203 tw_4_204 tw_1_8 tw_4_205) rfl rfl rfl (by decide +kernel) ⟨Nat.le_of_ble_eq_true rfl, Nat.le_of_ble_eq_true rfl⟩) hC hS hA  trivial rfl rfl hl.1 (Nat.le_of_ble_eq_true rfl) ⟨Nat.zero_le _, Nat.zero_le _⟩ dX4_trim_2 (fun r_13 hr_13 => ?_)
  obtain ⟨r_13v, hr_13v, rfl⟩ := hr_13
  refine f_ne (tgt := 15) hx hb dX4_trim_5 (by decide) (fun c_14 => ?_) (fun c_14 => ?_)
  · refine lv_iconst (v := nI 1) hx hb dX4_trim_15 (by decide) ?_
    refine lv_goto (tgt := 20) hx hb dX4_trim_16 (by decide) ?_
    refine lv_iconst (v := nI 1) hx hb dX4_trim_20 (by decide) ?_
    refine qI_V (A := A) (A1 := A) (b := am) (As := [.int (bI true), .int (nI 1)]) (rest := []) ⟨hx, hb, hml, hown, hts⟩ (mX4_start (A := A) (b := true) (w9 := 1) (by decide)) (cwV 2 hts (gV tw_4_206 tw_4_208 sel_X4_start tw_1_8 tw_4_209) rfl rfl rfl (by decide +kernel) ⟨Nat.le_of_ble_eq_true rfl, Nat.le_of_ble_eq_true rfl⟩) hC hS (fun _ h => h) (fun q h => hA q (Nat.le_trans hS.1 h)) (hW.recv hK) ⟨ra, pa, tx, hW⟩ rfl rfl hl.1 (Nat.le_of_ble_eq_true rfl) ⟨Nat.zero_le _, Nat.zero_le _⟩ dX4_trim_21 (fun rv15 H15 L15 hP15 hk15 hS => ?_)
    have hZ15 := hS.1
    obtain ⟨hr15, hM15⟩ := hP15
    subst hr15
    obtain ⟨ra, pa, tx, hW⟩ := hM15
    have hO := hW.obj
    have hAm := hW.1
    refine f_eq (tgt := 31) hx hb dX4_trim_24 (by decide) (fun c_16 => ?_) (fun c_16 => ?_)
    · exact absurd c_16 (by decide)
    · refine lv_iconst (v := nI 0) hx hb dX4_trim_27 (by decide) ?_
      refine lv_goto (tgt := 46) hx hb dX4_trim_28 (by decide) ?_
      exact q_i hx hb hr hlocks dX4_trim_46 hS (by omega) (by omega) (Or.inl ⟨(Or.inl (hr_13v.mp c_14)), rfl, ra, pa, tx, hW⟩)
  · obtain ⟨i, hi, rfl⟩ : ∃ i : Nat, i < 4 ∧ x = nI i := Classical.byContradiction (fun q => absurd (hr_13v.mpr q) (by rw [c_14]; decide))
    refine lv_iload_n hx hb dX4_trim_8 rfl (lv_at hl 3 rfl) ?_
    refine kS_i (A := A) (As := [.int y]) (rest := .ref am :: []) ⟨hx, hb, hml, hown, hts⟩ (mX4_isNone (A := A) ) (va_cwS 1 hts (gS tw_4_203 tw_4_204 tw_1_8 tw_4_205) rfl rfl rfl (by decide +kernel) ⟨Nat.le_of_ble_eq_true rfl, Nat.le_of_ble_eq_true rfl⟩) hC hS hA  trivial rfl rfl hl.1 (Nat.le_of_ble_eq_true rfl) ⟨Nat.zero_le _, Nat.zero_le _⟩ dX4_trim_9 (fun r_17 hr_17 => ?_)
    obtain ⟨r_17v, hr_17v, rfl⟩ := hr_17
    refine f_eq (tgt := 19) hx hb dX4_trim_12 (by decide) (fun c_18 => ?_) (fun c_18 => ?_)
    · obtain ⟨j, hj, rfl⟩ : ∃ j : Nat, j < 4 ∧ y = nI j := Classical.byContradiction (fun q => absurd (hr_17v.mpr q) (by rw [c_18]; decide))
      refine lv_iconst (v := nI 0) hx hb dX4_trim_19 (by decide) ?_
      refine lv_iconst (v := nI 1) hx hb dX4_trim_20 (by decide) ?_
      refine qI_V (A := A) (A1 := A) (b := am) (As := [.int (bI false), .int (nI 1)]) (rest := []) ⟨hx, hb, hml, hown, hts⟩ (mX4_start (A := A) (b := false) (w9 := 1) (by decide)) (cwV 2 hts (gV tw_4_206 tw_4_208 sel_X4_start tw_1_8 tw_4_209) rfl rfl rfl (by decide +kernel) ⟨Nat.le_of_ble_eq_true rfl, Nat.le_of_ble_eq_true rfl⟩) hC hS (fun _ h => h) (fun q h => hA q (Nat.le_trans hS.1 h)) (hW.recv hK) ⟨ra, pa, tx, hW⟩ rfl rfl hl.1 (Nat.le_of_ble_eq_true rfl) ⟨Nat.zero_le _, Nat.zero_le _⟩ dX4_trim_21 (fun rv19 H19 L19 hP19 hk19 hS => ?_)
      have hZ19 := hS.1
      obtain ⟨hr19, hM19⟩ := hP19
      subst hr19
      obtain ⟨ra, pa, tx, hW⟩ := hM19
      have hO := hW.obj
      have hAm := hW.1
      refine f_eq (tgt := 31) hx hb dX4_trim_24 (by decide) (fun c_20 => ?_) (fun c_20 => ?_)
      · refine lv_aload_n hx hb dX4_trim_31 rfl (lv_at hl 0 rfl) ?_
        refine lv_iload_n hx hb dX4_trim_32 rfl (lv_at hl 3 rfl) ?_
        refine lv_aload_n hx hb dX4_trim_33 rfl (lv_at hl 0 rfl) ?_
        refine va_get (D := G.1) (ci := 8) (C := RX4) (T := TX4) (N := 5) hx hb hts inX4 hown hK (at_P hO) 0 rfl rfl 1 (by decide) (hts _ tw_4_173) (fun _ h9 => h9) rfl dX4_trim_34 ?_
        refine lv_iload_n hx hb dX4_trim_37 rfl (lv_at hl 1 rfl) ?_
        refine h_aaldI (D := G.1) hx hb hK 4 hW.txs rfl (vp_in_nI (n := i) (N := 4) (by omega) (by omega)) dX4_trim_38 ?_
        refine v_cv (show va_rf _ = .ref (tx i) from by rw [nI_clamp (n := i) (by omega)]; rfl) ?_
        have hTi := (hW.tx (j := i) (by omega)).ia hC.2.1.2
        have x60i := hW.2.2.1 i (Or.inl (by omega))
        refine lv_iload_n hx hb dX4_trim_39 rfl (lv_at hl 2 rfl) ?_
        have hra := hW.row.lt
        refine qR_S (A := A) (A1 := nw H19.size)  (As := [.ref (tx i), .int (bI b)]) (rest := .int (nI j) :: .ref am :: []) ⟨hx, hb, hml, hown, hts⟩ (mX4_trimmed (A := nw H19.size) (sz := H19.size) (t := X i) (b := b) x60i.1 (by omega)) (va_cwS 2 hts (gS tw_5_9 tw_5_10 tw_1_8 tw_5_11) rfl rfl rfl (by decide +kernel) ⟨Nat.le_of_ble_eq_true rfl, Nat.le_of_ble_eq_true rfl⟩) hC hS (nw_in hA hS.1) nw_n  ⟨rfl, hTi⟩ rfl rfl hl.1 (Nat.le_of_ble_eq_true rfl) ⟨Nat.le_trans (show 0 + 1 ≤ 1 by omega) (Nat.le_of_ble_eq_true rfl), Nat.le_trans (show 0 + 61 ≤ 61 by omega) (Nat.le_of_ble_eq_true rfl)⟩ dX4_trim_40 (fun rv21 H21 L21 hP21 hk21 hS => ?_)
        have hZ21 := hS.1
        obtain ⟨hsz9, e9, he9, hR9⟩ := hP21
        have hW := hW.nw hk21
        refine qI_V (A := A) (A1 := A) (b := am) (As := [.int (nI j), .ref rv21]) (rest := []) ⟨hx, hb, hml, hown, hts⟩ (mX4_become (A := A) (X := X) (P := P) (k := k) (xa := xa) (t := cutL (X i) (tbL b (X i)) e9) hj ⟨okc_cut x60i.1 _ _, Nat.le_trans (cutL_le _ _ _) x60i.2⟩) (cwV 2 hts (gV tw_4_214 tw_4_216 sel_X4_become tw_1_8 tw_4_217) rfl rfl rfl (by decide +kernel) ⟨Nat.le_of_ble_eq_true rfl, Nat.le_of_ble_eq_true rfl⟩) hC hS (fun _ h => h) (fun q h => hA q (Nat.le_trans hS.1 h)) (hW.recv hK) ⟨ra, pa, tx, hW, hR9, (by omega)⟩ rfl rfl hl.1 (Nat.le_of_ble_eq_true rfl) ⟨Nat.le_trans (show (0 + 1) ≤ 1 by omega) (Nat.le_of_ble_eq_true rfl), Nat.le_trans (show (0 + 61) ≤ 61 by omega) (Nat.le_of_ble_eq_true rfl)⟩ dX4_trim_43 (fun rv22 H22 L22 hP22 hk22 hS => ?_)
        have hZ22 := hS.1
        exact q_i hx hb hr hlocks dX4_trim_46 hS (by omega) (by omega) (Or.inr ⟨i, j, hi, rfl, hj, rfl, e9, he9, hP22.1, hP22.2⟩)
      · exact absurd c_20 (by decide)
    · refine lv_iconst (v := nI 1) hx hb dX4_trim_15 (by decide) ?_
      refine lv_goto (tgt := 20) hx hb dX4_trim_16 (by decide) ?_
      refine lv_iconst (v := nI 1) hx hb dX4_trim_20 (by decide) ?_
      refine qI_V (A := A) (A1 := A) (b := am) (As := [.int (bI true), .int (nI 1)]) (rest := []) ⟨hx, hb, hml, hown, hts⟩ (mX4_start (A := A) (b := true) (w9 := 1) (by decide)) (cwV 2 hts (gV tw_4_206 tw_4_208 sel_X4_start tw_1_8 tw_4_209) rfl rfl rfl (by decide +kernel) ⟨Nat.le_of_ble_eq_true rfl, Nat.le_of_ble_eq_true rfl⟩) hC hS (fun _ h => h) (fun q h => hA q (Nat.le_trans hS.1 h)) (hW.recv hK) ⟨ra, pa, tx, hW⟩ rfl rfl hl.1 (Nat.le_of_ble_eq_true rfl) ⟨Nat.zero_le _, Nat.zero_le _⟩ dX4_trim_21 (fun rv23 H23 L23 hP23 hk23 hS => ?_)
      have hZ23 := hS.1
      obtain ⟨hr23, hM23⟩ := hP23
      subst hr23
      obtain ⟨ra, pa, tx, hW⟩ := hM23
      have hO := hW.obj
      have hAm := hW.1
      refine f_eq (tgt := 31) hx hb dX4_trim_24 (by decide) (fun c_24 => ?_) (fun c_24 => ?_)
      · exact absurd c_24 (by decide)
      · refine lv_iconst (v := nI 0) hx hb dX4_trim_27 (by decide) ?_
        refine lv_goto (tgt := 46) hx hb dX4_trim_28 (by decide) ?_
        exact q_i hx hb hr hlocks dX4_trim_46 hS (by omega) (by omega) (Or.inl ⟨(Or.inr (hr_17v.mp c_18)), rfl, ra, pa, tx, hW⟩)
end
/-! 44.mod8 -/
section
/-! The model, 8: what is asked of two texts -/
theorem dX4_areNone_0 : decode cX4_areNone 0 = .ok (.iload_n 1, 1) := by decide +kernel
theorem dX4_areNone_1 : decode cX4_areNone 1 = .ok (.invokestatic 107, 3) := by decide +kernel
theorem dX4_areNone_4 : decode cX4_areNone 4 = .ok (.ifCond .ne 10, 3) := by decide +kernel
theorem dX4_areNone_7 : decode cX4_areNone 7 = .ok (.iload_n 2, 1) := by decide +kernel
theorem dX4_areNone_8 : decode cX4_areNone 8 = .ok (.invokestatic 107, 3) := by decide +kernel
theorem dX4_areNone_11 : decode cX4_areNone 11 = .ok (.ifCond .eq 7, 3) := by decide +kernel
theorem dX4_areNone_14 : decode cX4_areNone 14 = .ok (.iconst 1, 1) := by decide +kernel
theorem dX4_areNone_15 : decode cX4_areNone 15 = .ok (.goto 4, 3) := by decide +kernel
theorem dX4_areNone_18 : decode cX4_areNone 18 = .ok (.iconst 0, 1) := by decide +kernel
theorem dX4_areNone_19 : decode cX4_areNone 19 = .ok (.ireturn, 1) := by decide +kernel
theorem dX4_firstOf_0 : decode cX4_firstOf 0 = .ok (.aload_n 0, 1) := by decide +kernel
theorem dX4_firstOf_1 : decode cX4_firstOf 1 = .ok (.aload_n 0, 1) := by decide +kernel
theorem dX4_firstOf_2 : decode cX4_firstOf 2 = .ok (.iload_n 1, 1) := by decide +kernel
theorem dX4_firstOf_3 : decode cX4_firstOf 3 = .ok (.iload_n 2, 1) := by decide +kernel
theorem dX4_firstOf_4 : decode cX4_firstOf 4 = .ok (.invokevirtual 167, 3) := by decide +kernel
theorem dX4_firstOf_7 : decode cX4_firstOf 7 = .ok (.iconst 1, 1) := by decide +kernel
theorem dX4_firstOf_8 : decode cX4_firstOf 8 = .ok (.invokevirtual 110, 3) := by decide +kernel
theorem dX4_firstOf_11 : decode cX4_firstOf 11 = .ok (.ifCond .eq 7, 3) := by decide +kernel
theorem dX4_firstOf_14 : decode cX4_firstOf 14 = .ok (.iconst 0, 1) := by decide +kernel
theorem dX4_firstOf_15 : decode cX4_firstOf 15 = .ok (.goto 18, 3) := by decide +kernel
theorem dX4_firstOf_18 : decode cX4_firstOf 18 = .ok (.aload_n 0, 1) := by decide +kernel
theorem dX4_firstOf_19 : decode cX4_firstOf 19 = .ok (.getfield 72, 3) := by decide +kernel
theorem dX4_firstOf_22 : decode cX4_firstOf 22 = .ok (.iload_n 1, 1) := by decide +kernel
theorem dX4_firstOf_23 : decode cX4_firstOf 23 = .ok (.aaload, 1) := by decide +kernel
theorem dX4_firstOf_24 : decode cX4_firstOf 24 = .ok (.aload_n 0, 1) := by decide +kernel
theorem dX4_firstOf_25 : decode cX4_firstOf 25 = .ok (.getfield 72, 3) := by decide +kernel
theorem dX4_firstOf_28 : decode cX4_firstOf 28 = .ok (.iload_n 2, 1) := by decide +kernel
theorem dX4_firstOf_29 : decode cX4_firstOf 29 = .ok (.aaload, 1) := by decide +kernel
theorem dX4_firstOf_30 : decode cX4_firstOf 30 = .ok (.invokestatic 160, 3) := by decide +kernel
theorem dX4_firstOf_33 : decode cX4_firstOf 33 = .ok (.ireturn, 1) := by decide +kernel
theorem dX4_lastOf_0 : decode cX4_lastOf 0 = .ok (.aload_n 0, 1) := by decide +kernel
theorem dX4_lastOf_1 : decode cX4_lastOf 1 = .ok (.aload_n 0, 1) := by decide +kernel
theorem dX4_lastOf_2 : decode cX4_lastOf 2 = .ok (.iload_n 1, 1) := by decide +kernel
theorem dX4_lastOf_3 : decode cX4_lastOf 3 = .ok (.iload_n 2, 1) := by decide +kernel
theorem dX4_lastOf_4 : decode cX4_lastOf 4 = .ok (.invokevirtual 167, 3) := by decide +kernel
theorem dX4_lastOf_7 : decode cX4_lastOf 7 = .ok (.iconst 1, 1) := by decide +kernel
theorem dX4_lastOf_8 : decode cX4_lastOf 8 = .ok (.invokevirtual 110, 3) := by decide +kernel
theorem dX4_lastOf_11 : decode cX4_lastOf 11 = .ok (.ifCond .eq 7, 3) := by decide +kernel
theorem dX4_lastOf_14 : decode cX4_lastOf 14 = .ok (.iconst 0, 1) := by decide +kernel
theorem dX4_lastOf_15 : decode cX4_lastOf 15 = .ok (.goto 18, 3) := by decide +kernel
theorem dX4_lastOf_18 : decode cX4_lastOf 18 = .ok (.aload_n 0, 1) := by decide +kernel
theorem dX4_lastOf_19 : decode cX4_lastOf 19 = .ok (.getfield 72, 3) := by decide +kernel
theorem dX4_lastOf_22 : decode cX4_lastOf 22 = .ok (.iload_n 1, 1) := by decide +kernel
theorem dX4_lastOf_23 : decode cX4_lastOf 23 = .ok (.aaload, 1) := by decide +kernel
theorem dX4_lastOf_24 : decode cX4_lastOf 24 = .ok (.aload_n 0, 1) := by decide +kernel
theorem dX4_lastOf_25 : decode cX4_lastOf 25 = .ok (.getfield 72, 3) := by decide +kernel
theorem dX4_lastOf_28 : decode cX4_lastOf 28 = .ok (.iload_n 2, 1) := by decide +kernel
theorem dX4_lastOf_29 : decode cX4_lastOf 29 = .ok (.aaload, 1) := by decide +kernel
theorem dX4_lastOf_30 : decode cX4_lastOf 30 = .ok (.invokestatic 164, 3) := by decide +kernel
theorem dX4_lastOf_33 : decode cX4_lastOf 33 = .ok (.ireturn, 1) := by decide +kernel
theorem dX4_isSame__0 : decode cX4_isSame_ 0 = .ok (.aload_n 0, 1) := by decide +kernel
theorem dX4_isSame__1 : decode cX4_isSame_ 1 = .ok (.aload_n 0, 1) := by decide +kernel
theorem dX4_isSame__2 : decode cX4_isSame_ 2 = .ok (.iload_n 1, 1) := by decide +kernel
theorem dX4_isSame__3 : decode cX4_isSame_ 3 = .ok (.iload_n 2, 1) := by decide +kernel
theorem dX4_isSame__4 : decode cX4_isSame_ 4 = .ok (.invokevirtual 167, 3) := by decide +kernel
theorem dX4_isSame__7 : decode cX4_isSame_ 7 = .ok (.iconst 1, 1) := by decide +kernel
theorem dX4_isSame__8 : decode cX4_isSame_ 8 = .ok (.invokevirtual 110, 3) := by decide +kernel
theorem dX4_isSame__11 : decode cX4_isSame_ 11 = .ok (.ifCond .ne 26, 3) := by decide +kernel
theorem dX4_isSame__14 : decode cX4_isSame_ 14 = .ok (.aload_n 0, 1) := by decide +kernel
theorem dX4_isSame__15 : decode cX4_isSame_ 15 = .ok (.getfield 72, 3) := by decide +kernel
theorem dX4_isSame__18 : decode cX4_isSame_ 18 = .ok (.iload_n 1, 1) := by decide +kernel
theorem dX4_isSame__19 : decode cX4_isSame_ 19 = .ok (.aaload, 1) := by decide +kernel
theorem dX4_isSame__20 : decode cX4_isSame_ 20 = .ok (.aload_n 0, 1) := by decide +kernel
theorem dX4_isSame__21 : decode cX4_isSame_ 21 = .ok (.getfield 72, 3) := by decide +kernel
theorem dX4_isSame__24 : decode cX4_isSame_ 24 = .ok (.iload_n 2, 1) := by decide +kernel
theorem dX4_isSame__25 : decode cX4_isSame_ 25 = .ok (.aaload, 1) := by decide +kernel
theorem dX4_isSame__26 : decode cX4_isSame_ 26 = .ok (.iload_n 3, 1) := by decide +kernel
theorem dX4_isSame__27 : decode cX4_isSame_ 27 = .ok (.invokestatic 171, 3) := by decide +kernel
theorem dX4_isSame__30 : decode cX4_isSame_ 30 = .ok (.ifCond .eq 7, 3) := by decide +kernel
theorem dX4_isSame__33 : decode cX4_isSame_ 33 = .ok (.iconst 1, 1) := by decide +kernel
theorem dX4_isSame__34 : decode cX4_isSame_ 34 = .ok (.goto 4, 3) := by decide +kernel
theorem dX4_isSame__37 : decode cX4_isSame_ 37 = .ok (.iconst 0, 1) := by decide +kernel
theorem dX4_isSame__38 : decode cX4_isSame_ 38 = .ok (.ireturn, 1) := by decide +kernel
theorem dX4_order__0 : decode cX4_order_ 0 = .ok (.aload_n 0, 1) := by decide +kernel
theorem dX4_order__1 : decode cX4_order_ 1 = .ok (.aload_n 0, 1) := by decide +kernel
theorem dX4_order__2 : decode cX4_order_ 2 = .ok (.iload_n 1, 1) := by decide +kernel
theorem dX4_order__3 : decode cX4_order_ 3 = .ok (.iload_n 2, 1) := by decide +kernel
theorem dX4_order__4 : decode cX4_order_ 4 = .ok (.invokevirtual 167, 3) := by decide +kernel
theorem dX4_order__7 : decode cX4_order_ 7 = .ok (.iconst 1, 1) := by decide +kernel
theorem dX4_order__8 : decode cX4_order_ 8 = .ok (.invokevirtual 110, 3) := by decide +kernel
theorem dX4_order__11 : decode cX4_order_ 11 = .ok (.ifCond .eq 7, 3) := by decide +kernel
theorem dX4_order__14 : decode cX4_order_ 14 = .ok (.iconst 0, 1) := by decide +kernel
theorem dX4_order__15 : decode cX4_order_ 15 = .ok (.goto 19, 3) := by decide +kernel
theorem dX4_order__18 : decode cX4_order_ 18 = .ok (.aload_n 0, 1) := by decide +kernel
theorem dX4_order__19 : decode cX4_order_ 19 = .ok (.getfield 72, 3) := by decide +kernel
theorem dX4_order__22 : decode cX4_order_ 22 = .ok (.iload_n 1, 1) := by decide +kernel
theorem dX4_order__23 : decode cX4_order_ 23 = .ok (.aaload, 1) := by decide +kernel
theorem dX4_order__24 : decode cX4_order_ 24 = .ok (.aload_n 0, 1) := by decide +kernel
theorem dX4_order__25 : decode cX4_order_ 25 = .ok (.getfield 72, 3) := by decide +kernel
theorem dX4_order__28 : decode cX4_order_ 28 = .ok (.iload_n 2, 1) := by decide +kernel
theorem dX4_order__29 : decode cX4_order_ 29 = .ok (.aaload, 1) := by decide +kernel
theorem dX4_order__30 : decode cX4_order_ 30 = .ok (.iconst 0, 1) := by decide +kernel
theorem dX4_order__31 : decode cX4_order_ 31 = .ok (.invokestatic 175, 3) := by decide +kernel
theorem dX4_order__34 : decode cX4_order_ 34 = .ok (.ireturn, 1) := by decide +kernel
theorem dX4_orderLike_0 : decode cX4_orderLike 0 = .ok (.aload_n 0, 1) := by decide +kernel
theorem dX4_orderLike_1 : decode cX4_orderLike 1 = .ok (.aload_n 0, 1) := by decide +kernel
theorem dX4_orderLike_2 : decode cX4_orderLike 2 = .ok (.iload_n 1, 1) := by decide +kernel
theorem dX4_orderLike_3 : decode cX4_orderLike 3 = .ok (.iload_n 2, 1) := by decide +kernel
theorem dX4_orderLike_4 : decode cX4_orderLike 4 = .ok (.invokevirtual 167, 3) := by decide +kernel
theorem dX4_orderLike_7 : decode cX4_orderLike 7 = .ok (.iconst 1, 1) := by decide +kernel
theorem dX4_orderLike_8 : decode cX4_orderLike 8 = .ok (.invokevirtual 110, 3) := by decide +kernel
theorem dX4_orderLike_11 : decode cX4_orderLike 11 = .ok (.ifCond .eq 7, 3) := by decide +kernel
theorem dX4_orderLike_14 : decode cX4_orderLike 14 = .ok (.iconst 0, 1) := by decide +kernel
theorem dX4_orderLike_15 : decode cX4_orderLike 15 = .ok (.goto 19, 3) := by decide +kernel
theorem dX4_orderLike_18 : decode cX4_orderLike 18 = .ok (.aload_n 0, 1) := by decide +kernel
theorem dX4_orderLike_19 : decode cX4_orderLike 19 = .ok (.getfield 72, 3) := by decide +kernel
theorem dX4_orderLike_22 : decode cX4_orderLike 22 = .ok (.iload_n 1, 1) := by decide +kernel
theorem dX4_orderLike_23 : decode cX4_orderLike 23 = .ok (.aaload, 1) := by decide +kernel
theorem dX4_orderLike_24 : decode cX4_orderLike 24 = .ok (.aload_n 0, 1) := by decide +kernel
theorem dX4_orderLike_25 : decode cX4_orderLike 25 = .ok (.getfield 72, 3) := by decide +kernel
theorem dX4_orderLike_28 : decode cX4_orderLike 28 = .ok (.iload_n 2, 1) := by decide +kernel
theorem dX4_orderLike_29 : decode cX4_orderLike 29 = .ok (.aaload, 1) := by decide +kernel
theorem dX4_orderLike_30 : decode cX4_orderLike 30 = .ok (.iconst 1, 1) := by decide +kernel
theorem dX4_orderLike_31 : decode cX4_orderLike 31 = .ok (.invokestatic 175, 3) := by decide +kernel
theorem dX4_orderLike_34 : decode cX4_orderLike 34 = .ok (.ireturn, 1) := by decide +kernel
abbrev rmX4_areNone : Room := { frames := 2, cells := 0, slots := 0, locals := 42 }
theorem mX4_areNone {l : Launch} {G : Cx} {A : Nat → Prop} {am xa : Nat} {X : Nat → List Nat} {P : List (List Nat)} {k : Int32} {x y th : Int32} : Met l yX4_areNone (.code yX4_areNone cX4_areNone 3 (some .boolean) :: GW) rmX4_areNone (PC G A [.ref am, .int x, .int y] (MW G A am xa X P k th)) (vp_Si (fun r => ∃ v : Bool, (v = true ↔ (NT x ∨ NT y)) ∧ r = bI v)) 0 0 (fun _ => False) := by
  refine mstart "SigntextModel" (by decide +kernel) rfl (Nat.le_of_ble_eq_true rfl) ?_
  intro p e s m below meth c ls hx hb hr hts hown hml hlocks hname hC hA hW hl
  have hl : lv_has ls 3 [(0, .ref am), (1, .int x), (2, .int y)] := hl
  have hK := hC.1
  have hS : va_S A s.heap s.heap [] := va_S.rf
  refine lv_iload_n hx hb dX4_areNone_0 rfl (lv_at hl 1 rfl) ?_
  refine kS_i (A := A) (As := [.int x]) (rest := []) ⟨hx, hb, hml, hown, hts⟩ (mX4_isNone (A := A) ) (va_cwS 1 hts (gS tw_4_203 tw_4_204 tw_1_8 tw_4_205) rfl rfl rfl (by decide +kernel) ⟨Nat.le_of_ble_eq_true rfl, Nat.le_of_ble_eq_true rfl⟩) hC hS hA  trivial rfl rfl hl.1 (Nat.le_of_ble_eq_true rfl) ⟨Nat.zero_le _, Nat.zero_le _⟩ dX4_areNone_1 (fun r_1 hr_1 => ?_)
  obtain ⟨r_1v, hr_1v, rfl⟩ := hr_1
  refine f_ne (tgt := 14) hx hb dX4_areNone_4 (by decide) (fun c_2 => ?_) (fun c_2 => ?_)
  · refine lv_iconst (v := nI 1) hx hb dX4_areNone_14 (by decide) ?_
    refine lv_goto (tgt := 19) hx hb dX4_areNone_15 (by decide) ?_
    exact p_z (b := true) hx hb hr hlocks dX4_areNone_19 ⟨true, ⟨fun _ => Or.inl (hr_1v.mp c_2), fun _ => rfl⟩, rfl⟩
  · refine lv_iload_n hx hb dX4_areNone_7 rfl (lv_at hl 2 rfl) ?_
    refine kS_i (A := A) (As := [.int y]) (rest := []) ⟨hx, hb, hml, hown, hts⟩ (mX4_isNone (A := A) ) (va_cwS 1 hts (gS tw_4_203 tw_4_204 tw_1_8 tw_4_205) rfl rfl rfl (by decide +kernel) ⟨Nat.le_of_ble_eq_true rfl, Nat.le_of_ble_eq_true rfl⟩) hC hS hA  trivial rfl rfl hl.1 (Nat.le_of_ble_eq_true rfl) ⟨Nat.zero_le _, Nat.zero_le _⟩ dX4_areNone_8 (fun r_3 hr_3 => ?_)
    obtain ⟨r_3v, hr_3v, rfl⟩ := hr_3
    refine f_eq (tgt := 18) hx hb dX4_areNone_11 (by decide) (fun c_4 => ?_) (fun c_4 => ?_)
    · refine lv_iconst (v := nI 0) hx hb dX4_areNone_18 (by decide) ?_
      exact p_z (b := false) hx hb hr hlocks dX4_areNone_19 ⟨false, ⟨fun q => Bool.noConfusion q, fun q => by rcases q with q | q; exact absurd (hr_1v.mpr q) (by rw [c_2]; decide); exact absurd (hr_3v.mpr q) (by rw [c_4]; decide)⟩, rfl⟩
    · refine lv_iconst (v := nI 1) hx hb dX4_areNone_14 (by decide) ?_
      refine lv_goto (tgt := 19) hx hb dX4_areNone_15 (by decide) ?_
      exact p_z (b := true) hx hb hr hlocks dX4_areNone_19 ⟨true, ⟨fun _ => Or.inr (hr_3v.mp c_4), fun _ => rfl⟩, rfl⟩

abbrev rmX4_firstOf : Room := { frames := 3, cells := 0, slots := 0, locals := 66 }
theorem mX4_firstOf {l : Launch} {G : Cx} {A : Nat → Prop} {am xa : Nat} {X : Nat → List Nat} {P : List (List Nat)} {k : Int32} {x y th : Int32} : Met l yX4_firstOf (.code yX4_firstOf cX4_firstOf 3 (some .int) :: GW) rmX4_firstOf (PC G A [.ref am, .int x, .int y] (MW G A am xa X P k th)) (qI A (fun r H => ((NT x ∨ NT y) ∧ r = 0 ∧ MW G A am xa X P k 1 H) ∨ ∃ i j : Nat, i < 4 ∧ x = nI i ∧ j < 4 ∧ y = nI j ∧ fstR (fun k9 => stL false (X i) (X j) k9) r ∧ MW G A am xa X P k 0 H)) 0 0 (A) := by
  refine mstart "SigntextModel" (by decide +kernel) rfl (Nat.le_of_ble_eq_true rfl) ?_
  intro p e s m below meth c ls hx hb hr hts hown hml hlocks hname hC hA hW hl
  have hl : lv_has ls 3 [(0, .ref am), (1, .int x), (2, .int y)] := hl
  have hK := hC.1
  have hS : va_S A s.heap s.heap [] := va_S.rf
  obtain ⟨ra, pa, tx, hW⟩ := hW
  have hO := hW.obj
  have hAm := hW.1
  refine lv_aload_n hx hb dX4_firstOf_0 rfl (lv_at hl 0 rfl) ?_
  refine lv_aload_n hx hb dX4_firstOf_1 rfl (lv_at hl 0 rfl) ?_
  refine lv_iload_n hx hb dX4_firstOf_2 rfl (lv_at hl 1 rfl) ?_
  refine lv_iload_n hx hb dX4_firstOf_3 rfl (lv_at hl 2 rfl) ?_
  refine kV_i (A := A) (b := am) (As := [.int x, .int y]) (rest := .ref am :: []) ⟨hx, hb, hml, hown, hts⟩ (mX4_areNone (A := A) (xa := xa) (X := X) (P := P) (k := k)) (cwV 2 hts (gV tw_6_204 tw_6_206 sel_X4_areNone tw_1_8 tw_6_207) rfl rfl rfl (by decide +kernel) ⟨Nat.le_of_ble_eq_true rfl, Nat.le_of_ble_eq_true rfl⟩) hC hS hA (hW.recv hK) ⟨ra, pa, tx, hW⟩ rfl rfl hl.1 (Nat.le_of_ble_eq_true rfl) ⟨Nat.zero_le _, Nat.zero_le _⟩ dX4_firstOf_4 (fun r_5 hr_5 => ?_)
  obtain ⟨r_5v, hr_5v, rfl⟩ := hr_5
  refine lv_iconst (v := nI 1) hx hb dX4_firstOf_7 (by decide) ?_
  refine qI_V (A := A) (A1 := A) (b := am) (As := [.int (bI r_5v), .int (nI 1)]) (rest := []) ⟨hx, hb, hml, hown, hts⟩ (mX4_start (A := A) (b := r_5v) (w9 := 1) (by decide)) (cwV 2 hts (gV tw_4_206 tw_4_208 sel_X4_start tw_1_8 tw_4_209) rfl rfl rfl (by decide +kernel) ⟨Nat.le_of_ble_eq_true rfl, Nat.le_of_ble_eq_true rfl⟩) hC hS (fun _ h => h) (fun q h => hA q (Nat.le_trans hS.1 h)) (hW.recv hK) ⟨ra, pa, tx, hW⟩ rfl rfl hl.1 (Nat.le_of_ble_eq_true rfl) ⟨Nat.zero_le _, Nat.zero_le _⟩ dX4_firstOf_8 (fun rv6 H6 L6 hP6 hk6 hS => ?_)
  have hZ6 := hS.1
  obtain ⟨hr6, hM6⟩ := hP6
  subst hr6
  obtain ⟨ra, pa, tx, hW⟩ := hM6
  have hO := hW.obj
  have hAm := hW.1
  refine f_eq (tgt := 18) hx hb dX4_firstOf_11 (by decide) (fun c_7 => ?_) (fun c_7 => ?_)
  · have hv : r_5v = false := by cases q : r_5v; rfl; rw [q] at c_7; exact absurd c_7 (by decide)
    rw [hv] at hW hO
    have hno : ¬ (NT x ∨ NT y) := fun q => absurd (hr_5v.mpr q) (by rw [hv]; decide)
    obtain ⟨i, hi, rfl⟩ : ∃ i : Nat, i < 4 ∧ x = nI i := Classical.byContradiction (fun q => hno (Or.inl q))
    obtain ⟨j, hj, rfl⟩ : ∃ j : Nat, j < 4 ∧ y = nI j := Classical.byContradiction (fun q => hno (Or.inr q))
    have hO := hW.obj
    have hAm := hW.1
    refine lv_aload_n hx hb dX4_firstOf_18 rfl (lv_at hl 0 rfl) ?_
    refine va_get (D := G.1) (ci := 8) (C := RX4) (T := TX4) (N := 5) hx hb hts inX4 hown hK (at_P hO) 0 rfl rfl 1 (by decide) (hts _ tw_4_173) (fun _ h9 => h9) rfl dX4_firstOf_19 ?_
    refine lv_iload_n hx hb dX4_firstOf_22 rfl (lv_at hl 1 rfl) ?_
    refine h_aaldI (D := G.1) hx hb hK 4 hW.txs rfl (vp_in_nI (n := i) (N := 4) (by omega) (by omega)) dX4_firstOf_23 ?_
    refine v_cv (show va_rf _ = .ref (tx i) from by rw [nI_clamp (n := i) (by omega)]; rfl) ?_
    have hTi := (hW.tx (j := i) (by omega)).ia hC.2.1.2
    have x60i := hW.2.2.1 i (Or.inl (by omega))
    refine lv_aload_n hx hb dX4_firstOf_24 rfl (lv_at hl 0 rfl) ?_
    refine va_get (D := G.1) (ci := 8) (C := RX4) (T := TX4) (N := 5) hx hb hts inX4 hown hK (at_P hO) 0 rfl rfl 1 (by decide) (hts _ tw_4_173) (fun _ h9 => h9) rfl dX4_firstOf_25 ?_
    refine lv_iload_n hx hb dX4_firstOf_28 rfl (lv_at hl 2 rfl) ?_
    refine h_aaldI (D := G.1) hx hb hK 4 hW.txs rfl (vp_in_nI (n := j) (N := 4) (by omega) (by omega)) dX4_firstOf_29 ?_
    refine v_cv (show va_rf _ = .ref (tx j) from by rw [nI_clamp (n := j) (by omega)]; rfl) ?_
    have hTj := (hW.tx (j := j) (by omega)).ia hC.2.1.2
    have x60j := hW.2.2.1 j (Or.inl (by omega))
    refine kS_i (A := A) (As := [.ref (tx i), .ref (tx j)]) (rest := []) ⟨hx, hb, hml, hown, hts⟩ (mX4_first (A := A) (t := X i) (u := X j) x60i.1 x60j.1 (by omega) (by omega)) (va_cwS 2 hts (gS tw_6_172 tw_6_173 tw_1_8 tw_6_174) rfl rfl rfl (by decide +kernel) ⟨Nat.le_of_ble_eq_true rfl, Nat.le_of_ble_eq_true rfl⟩) hC hS hA  ⟨hTi, hTj⟩ rfl rfl hl.1 (Nat.le_of_ble_eq_true rfl) ⟨Nat.zero_le _, Nat.zero_le _⟩ dX4_firstOf_30 (fun r_8 hr_8 => ?_)
    have h7 : fstR (fun k9 => stL false (X i) (X j) k9) r_8 := hr_8
    exact q_i hx hb hr hlocks dX4_firstOf_33 hS (Nat.le_refl _) (Nat.le_refl _) (Or.inr ⟨i, j, hi, rfl, hj, rfl, h7, ra, pa, tx, hW⟩)
  · have hv : r_5v = true := by cases q : r_5v; rw [q] at c_7; exact absurd c_7 (by decide); rfl
    rw [hv] at hW hO
    refine lv_iconst (v := nI 0) hx hb dX4_firstOf_14 (by decide) ?_
    refine lv_goto (tgt := 33) hx hb dX4_firstOf_15 (by decide) ?_
    exact q_i hx hb hr hlocks dX4_firstOf_33 hS (Nat.le_refl _) (Nat.le_refl _) (Or.inl ⟨hr_5v.mp hv, rfl, ra, pa, tx, hW⟩)

abbrev rmX4_lastOf : Room := { frames := 3, cells := 0, slots := 0, locals := 66 }
theorem mX4_lastOf {l : Launch} {G : Cx} {A : Nat → Prop} {am xa : Nat} {X : Nat → List Nat} {P : List (List Nat)} {k : Int32} {x y th : Int32} : Met l yX4_lastOf (.code yX4_lastOf cX4_lastOf 3 (some .int) :: GW) rmX4_lastOf (PC G A [.ref am, .int x, .int y] (MW G A am xa X P k th)) (qI A (fun r H => ((NT x ∨ NT y) ∧ r = 0 ∧ MW G A am xa X P k 1 H) ∨ ∃ i j : Nat, i < 4 ∧ x = nI i ∧ j < 4 ∧ y = nI j ∧ lstR (fun k9 => stL false (X i) (X j) k9) r ∧ MW G A am xa X P k 0 H)) 0 0 (A) := by
  refine mstart "SigntextModel" (by decide +kernel) rfl (Nat.le_of_ble_eq_true rfl) ?_
  intro p e s m below meth c ls hx hb hr hts hown hml hlocks hname hC hA hW hl
  have hl : lv_has ls 3 [(0, .ref am), (1, .int x), (2, .int y)] := hl
  have hK := hC.1
  have hS : va_S A s.heap s.heap [] := va_S.rf
  obtain ⟨ra, pa, tx, hW⟩ := hW
  have hO := hW.obj
  have hAm := hW.1
  refine lv_aload_n hx hb dX4_lastOf_0 rfl (lv_at hl 0 rfl) ?_
  refine lv_aload_n hx hb dX4_lastOf_1 rfl (lv_at hl 0 rfl) ?_
  refine lv_iload_n hx hb dX4_lastOf_2 rfl (lv_at hl 1 rfl) ?_
  refine lv_iload_n hx hb dX4_lastOf_3 rfl (lv_at hl 2 rfl) ?_
  refine kV_i (A := A) (b := am) (As := [.int x, .int y]) (rest := .ref am :: []) ⟨hx, hb, hml, hown, hts⟩ (mX4_areNone (A := A) (xa := xa) (X := X) (P := P) (k := k)) (cwV 2 hts (gV tw_6_204 tw_6_206 sel_X4_areNone tw_1_8 tw_6_207) rfl rfl rfl (by decide +kernel) ⟨Nat.le_of_ble_eq_true rfl, Nat.le_of_ble_eq_true rfl⟩) hC hS hA (hW.recv hK) ⟨ra, pa, tx, hW⟩ rfl rfl hl.1 (Nat.le_of_ble_eq_true rfl) ⟨Nat.zero_le _, Nat.zero_le _⟩ dX4_lastOf_4 (fun r_9 hr_9 => ?_)
  obtain ⟨r_9v, hr_9v, rfl⟩ := hr_9
  refine lv_iconst (v := nI 1) hx hb dX4_lastOf_7 (by decide) ?_
  refine qI_V (A := A) (A1 := A) (b := am) (As := [.int (bI r_9v), .int (nI 1)]) (rest := []) ⟨hx, hb, hml, hown, hts⟩ (mX4_start (A := A) (b := r_9v) (w9 := 1) (by decide)) (cwV 2 hts (gV tw_4_206 tw_4_208 sel_X4_start tw_1_8 tw_4_209) rfl rfl rfl (by decide +kernel) ⟨Nat.le_of_ble_eq_true rfl, Nat.le_of_ble_eq_true rfl⟩) hC hS (fun _ h => h) (fun q h => hA q (Nat.le_trans hS.1 h)) (hW.recv hK) ⟨ra, pa, tx, hW⟩ rfl rfl hl.1 (Nat.le_of_ble_eq_true rfl) ⟨Nat.zero_le _, Nat.zero_le _⟩ dX4_lastOf_8 (fun rv10 H10 L10 hP10 hk10 hS => ?_)
  have hZ10 := hS.1
  obtain ⟨hr10, hM10⟩ := hP10
  subst hr10
  obtain ⟨ra, pa, tx, hW⟩ := hM10
  have hO := hW.obj
  have hAm := hW.1
  refine f_eq (tgt := 18) hx hb dX4_lastOf_11 (by decide) (fun c_11 => ?_) (fun c_11 => ?_)
  · have hv : r_9v = false := by cases q : r_9v; rfl; rw [q] at c_11; exact absurd c_11 (by decide)
    rw [hv] at hW hO
    have hno : ¬ (NT x ∨ NT y) := fun q => absurd (hr_9v.mpr q) (by rw [hv]; decide)
    obtain ⟨i, hi, rfl⟩ : ∃ i : Nat, i < 4 ∧ x = nI i := Classical.byContradiction (fun q => hno (Or.inl q))
    obtain ⟨j, hj, rfl⟩ : ∃ j : Nat, j < 4 ∧ y = nI j := Classical.byContradiction (fun q => hno (Or.inr q))
    have hO := hW.obj
    have hAm := hW.1
    refine lv_aload_n hx hb dX4_lastOf_18 rfl (lv_at hl 0 rfl) ?_
    refine va_get (D := G.1) (ci := 8) (C := RX4) (T := TX4) (N := 5) hx hb hts inX4 hown hK (at_P hO) 0 rfl rfl 1 (by decide) (hts _ tw_4_173) (fun _ h9 => h9) rfl dX4_lastOf_19 ?_
    refine lv_iload_n hx hb dX4_lastOf_22 rfl (lv_at hl 1 rfl) ?_
    refine h_aaldI (D := G.1) hx hb hK 4 hW.txs rfl (vp_in_nI (n := i) (N := 4) (by omega) (by omega)) dX4_lastOf_23 ?_
    refine v_cv (show va_rf _ = .ref (tx i) from by rw [nI_clamp (n := i) (by omega)]; rfl) ?_
    have hTi := (hW.tx (j := i) (by omega)).ia hC.2.1.2
    have x60i := hW.2.2.1 i (Or.inl (by omega))
    refine lv_aload_n hx hb dX4_lastOf_24 rfl (lv_at hl 0 rfl) ?_
    refine va_get (D := G.1) (ci := 8) (C := RX4) (T := TX4) (N := 5) hx hb hts inX4 hown hK (at_P hO) 0 rfl rfl 1 (by decide) (hts _ tw_4_173) (fun _ h9 => h9) rfl dX4_lastOf_25 ?_
    refine lv_iload_n hx hb dX4_lastOf_28 rfl (lv_at hl 2 rfl) ?_
    refine h_aaldI (D := G.1) hx hb hK 4 hW.txs rfl (vp_in_nI (n := j) (N := 4) (by omega) (by omega)) dX4_lastOf_29 ?_
    refine v_cv (show va_rf _ = .ref (tx j) from by rw [nI_clamp (n := j) (by omega)]; rfl) ?_
    have hTj := (hW.tx (j := j) (by omega)).ia hC.2.1.2
    have x60j := hW.2.2.1 j (Or.inl (by omega))
    refine kS_i (A := A) (As := [.ref (tx i), .ref (tx j)]) (rest := []) ⟨hx, hb, hml, hown, hts⟩ (mX4_last (A := A) (t := X i) (u := X j) x60i.1 x60j.1 (by omega) (by omega)) (va_cwS 2 hts (gS tw_6_185 tw_6_186 tw_1_8 tw_6_187) rfl rfl rfl (by decide +kernel) ⟨Nat.le_of_ble_eq_true rfl, Nat.le_of_ble_eq_true rfl⟩) hC hS hA  ⟨hTi, hTj⟩ rfl rfl hl.1 (Nat.le_of_ble_eq_true rfl) ⟨Nat.zero_le _, Nat.zero_le _⟩ dX4_lastOf_30 (fun r_12 hr_12 => ?_)
    have h7 : lstR (fun k9 => stL false (X i) (X j) k9) r_12 := hr_12
    exact q_i hx hb hr hlocks dX4_lastOf_33 hS (Nat.le_refl _) (Nat.le_refl _) (Or.inr ⟨i, j, hi, rfl, hj, rfl, h7, ra, pa, tx, hW⟩)
  · have hv : r_9v = true := by cases q : r_9v; rw [q] at c_11; exact absurd c_11 (by decide); rfl
    rw [hv] at hW hO
    refine lv_iconst (v := nI 0) hx hb dX4_lastOf_14 (by decide) ?_
    refine lv_goto (tgt := 33) hx hb dX4_lastOf_15 (by decide) ?_
    exact q_i hx hb hr hlocks dX4_lastOf_33 hS (Nat.le_refl _) (Nat.le_refl _) (Or.inl ⟨hr_9v.mp hv, rfl, ra, pa, tx, hW⟩)

abbrev rmX4_isSame_ : Room := { frames := 3, cells := 0, slots := 0, locals := 66 }
theorem mX4_isSame_ {l : Launch} {G : Cx} {A : Nat → Prop} {am xa : Nat} {X : Nat → List Nat} {P : List (List Nat)} {k : Int32} {x y th : Int32} {b : Bool} : Met l yX4_isSame_ (.code yX4_isSame_ cX4_isSame_ 4 (some .boolean) :: GW) rmX4_isSame_ (PC G A [.ref am, .int x, .int y, .int (bI b)] (MW G A am xa X P k th)) (qI A (fun r H => ((NT x ∨ NT y) ∧ r = 0 ∧ MW G A am xa X P k 1 H) ∨ ∃ i j : Nat, i < 4 ∧ x = nI i ∧ j < 4 ∧ y = nI j ∧ (∃ z9 : Bool, (z9 = true ↔ (X i).length = (X j).length ∧ stL b (X i) (X j) 0) ∧ r = bI z9) ∧ MW G A am xa X P k 0 H)) 0 0 (A) := by
  refine mstart "SigntextModel" (by decide +kernel) rfl (Nat.le_of_ble_eq_true rfl) ?_
  intro p e s m below meth c ls hx hb hr hts hown hml hlocks hname hC hA hW hl
  have hl : lv_has ls 4 [(0, .ref am), (1, .int x), (2, .int y), (3, .int (bI b))] := hl
  have hK := hC.1
  have hS : va_S A s.heap s.heap [] := va_S.rf
  obtain ⟨ra, pa, tx, hW⟩ := hW
  have hO := hW.obj
  have hAm := hW.1
  refine lv_aload_n hx hb dX4_isSame__0 rfl (lv_at hl 0 rfl) ?_
  refine lv_aload_n hx hb dX4_isSame__1 rfl (lv_at hl 0 rfl) ?_
  refine lv_iload_n hx hb dX4_isSame__2 rfl (lv_at hl 1 rfl) ?_
  refine lv_iload_n hx hb dX4_isSame__3 rfl (lv_at hl 2 rfl) ?_
  refine kV_i (A := A) (b := am) (As := [.int x, .int y]) (rest := .ref am :: []) ⟨hx, hb, hml, hown, hts⟩ (mX4_areNone (A := A) (xa := xa) (X := X) (P := P) (k := k)) (cwV 2 hts (gV tw_6_204 tw_6_206 sel_X4_areNone tw_1_8 tw_6_207) rfl rfl rfl (by decide +kernel) ⟨Nat.le_of_ble_eq_true rfl, Nat.le_of_ble_eq_true rfl⟩) hC hS hA (hW.recv hK) ⟨ra, pa, tx, hW⟩ rfl rfl hl.1 (Nat.le_of_ble_eq_true rfl) ⟨Nat.zero_le _, Nat.zero_le _⟩ dX4_isSame__4 (fun r_13 hr_13 => ?_)
  obtain ⟨r_13v, hr_13v, rfl⟩ := hr_13
  refine lv_iconst (v := nI 1) hx hb dX4_isSame__7 (by decide) ?_
  refine qI_V (A := A) (A1 := A) (b := am) (As := [.int (bI r_13v), .int (nI 1)]) (rest := []) ⟨hx, hb, hml, hown, hts⟩ (mX4_start (A := A) (b := r_13v) (w9 := 1) (by decide)) (cwV 2 hts (gV tw_4_206 tw_4_208 sel_X4_start tw_1_8 tw_4_209) rfl rfl rfl (by decide +kernel) ⟨Nat.le_of_ble_eq_true rfl, Nat.le_of_ble_eq_true rfl⟩) hC hS (fun _ h => h) (fun q h => hA q (Nat.le_trans hS.1 h)) (hW.recv hK) ⟨ra, pa, tx, hW⟩ rfl rfl hl.1 (Nat.le_of_ble_eq_true rfl) ⟨Nat.zero_le _, Nat.zero_le _⟩ dX4_isSame__8 (fun rv14 H14 L14 hP14 hk14 hS => ?_)
  have hZ14 := hS.1
  obtain ⟨hr14, hM14⟩ := hP14
  subst hr14
  obtain ⟨ra, pa, tx, hW⟩ := hM14
  have hO := hW.obj
  have hAm := hW.1
  refine f_ne (tgt := 37) hx hb dX4_isSame__11 (by decide) (fun c_15 => ?_) (fun c_15 => ?_)
  · have hv : r_13v = true := by cases q : r_13v; rw [q] at c_15; exact absurd c_15 (by decide); rfl
    rw [hv] at hW hO
    refine lv_iconst (v := nI 0) hx hb dX4_isSame__37 (by decide) ?_
    exact q_z (b9 := false) hx hb hr hlocks dX4_isSame__38 hS (Nat.le_refl _) (Nat.le_refl _) (Or.inl ⟨hr_13v.mp hv, rfl, ra, pa, tx, hW⟩)
  · have hv : r_13v = false := by cases q : r_13v; rfl; rw [q] at c_15; exact absurd c_15 (by decide)
    rw [hv] at hW hO
    have hno : ¬ (NT x ∨ NT y) := fun q => absurd (hr_13v.mpr q) (by rw [hv]; decide)
    obtain ⟨i, hi, rfl⟩ : ∃ i : Nat, i < 4 ∧ x = nI i := Classical.byContradiction (fun q => hno (Or.inl q))
    obtain ⟨j, hj, rfl⟩ : ∃ j : Nat, j < 4 ∧ y = nI j := Classical.byContradiction (fun q => hno (Or.inr q))
    have hO := hW.obj
    have hAm := hW.1
    refine lv_aload_n hx hb dX4_isSame__14 rfl (lv_at hl 0 rfl) ?_
    refine va_get (D := G.1) (ci := 8) (C := RX4) (T := TX4) (N := 5) hx hb hts inX4 hown hK (at_P hO) 0 rfl rfl 1 (by decide) (hts _ tw_4_173) (fun _ h9 => h9) rfl dX4_isSame__15 ?_
    refine lv_iload_n hx hb dX4_isSame__18 rfl (lv_at hl 1 rfl) ?_
    refine h_aaldI (D := G.1) hx hb hK 4 hW.txs rfl (vp_in_nI (n := i) (N := 4) (by omega) (by omega)) dX4_isSame__19 ?_
    refine v_cv (show va_rf _ = .ref (tx i) from by rw [nI_clamp (n := i) (by omega)]; rfl) ?_
    have hTi := (hW.tx (j := i) (by omega)).ia hC.2.1.2
    have x60i := hW.2.2.1 i (Or.inl (by omega))
    refine lv_aload_n hx hb dX4_isSame__20 rfl (lv_at hl 0 rfl) ?_
    refine va_get (D := G.1) (ci := 8) (C := RX4) (T := TX4) (N := 5) hx hb hts inX4 hown hK (at_P hO) 0 rfl rfl 1 (by decide) (hts _ tw_4_173) (fun _ h9 => h9) rfl dX4_isSame__21 ?_
    refine lv_iload_n hx hb dX4_isSame__24 rfl (lv_at hl 2 rfl) ?_
    refine h_aaldI (D := G.1) hx hb hK 4 hW.txs rfl (vp_in_nI (n := j) (N := 4) (by omega) (by omega)) dX4_isSame__25 ?_
    refine v_cv (show va_rf _ = .ref (tx j) from by rw [nI_clamp (n := j) (by omega)]; rfl) ?_
    have hTj := (hW.tx (j := j) (by omega)).ia hC.2.1.2
    have x60j := hW.2.2.1 j (Or.inl (by omega))
    refine lv_iload_n hx hb dX4_isSame__26 rfl (lv_at hl 3 rfl) ?_
    refine kS_i (A := A) (As := [.ref (tx i), .ref (tx j), .int (bI b)]) (rest := []) ⟨hx, hb, hml, hown, hts⟩ (mX4_isSame (A := A) (t := X i) (u := X j) (b0 := b) x60i.1 x60j.1 (by omega) (by omega)) (va_cwS 3 hts (gS tw_6_220 tw_6_221 tw_1_8 tw_6_222) rfl rfl rfl (by decide +kernel) ⟨Nat.le_of_ble_eq_true rfl, Nat.le_of_ble_eq_true rfl⟩) hC hS hA  ⟨hTi, hTj⟩ rfl rfl hl.1 (Nat.le_of_ble_eq_true rfl) ⟨Nat.zero_le _, Nat.zero_le _⟩ dX4_isSame__27 (fun r_16 hr_16 => ?_)
    obtain ⟨z9, hz9, rfl⟩ := hr_16
    refine f_eq (tgt := 37) hx hb dX4_isSame__30 (by decide) (fun c_17 => ?_) (fun c_17 => ?_)
    · refine lv_iconst (v := nI 0) hx hb dX4_isSame__37 (by decide) ?_
      exact q_z (b9 := false) hx hb hr hlocks dX4_isSame__38 hS (Nat.le_refl _) (Nat.le_refl _) (Or.inr ⟨i, j, hi, rfl, hj, rfl, ⟨z9, hz9, by rw [c_17]⟩, ra, pa, tx, hW⟩)
    · refine lv_iconst (v := nI 1) hx hb dX4_isSame__33 (by decide) ?_
      refine lv_goto (tgt := 38) hx hb dX4_isSame__34 (by decide) ?_
      exact q_z (b9 := true) hx hb hr hlocks dX4_isSame__38 hS (Nat.le_refl _) (Nat.le_refl _) (Or.inr ⟨i, j, hi, rfl, hj, rfl, ⟨z9, hz9, by rw [c_17]⟩, ra, pa, tx, hW⟩)

abbrev rmX4_order_ : Room := { frames := 3, cells := 0, slots := 0, locals := 64 }
theorem mX4_order_ {l : Launch} {G : Cx} {A : Nat → Prop} {am xa : Nat} {X : Nat → List Nat} {P : List (List Nat)} {k : Int32} {x y th : Int32} : Met l yX4_order_ (.code yX4_order_ cX4_order_ 3 (some .int) :: GW) rmX4_order_ (PC G A [.ref am, .int x, .int y] (MW G A am xa X P k th)) (qI A (fun r H => ((NT x ∨ NT y) ∧ r = 0 ∧ MW G A am xa X P k 1 H) ∨ ∃ i j : Nat, i < 4 ∧ x = nI i ∧ j < 4 ∧ y = nI j ∧ ordR false (X i) (X j) r ∧ MW G A am xa X P k 0 H)) 0 0 (A) := by
  refine mstart "SigntextModel" (by decide +kernel) rfl (Nat.le_of_ble_eq_true rfl) ?_
  intro p e s m below meth c ls hx hb hr hts hown hml hlocks hname hC hA hW hl
  have hl : lv_has ls 3 [(0, .ref am), (1, .int x), (2, .int y)] := hl
  have hK := hC.1
  have hS : va_S A s.heap s.heap [] := va_S.rf
  obtain ⟨ra, pa, tx, hW⟩ := hW
  have hO := hW.obj
  have hAm := hW.1
  refine lv_aload_n hx hb dX4_order__0 rfl (lv_at hl 0 rfl) ?_
  refine lv_aload_n hx hb dX4_order__1 rfl (lv_at hl 0 rfl) ?_
  refine lv_iload_n hx hb dX4_order__2 rfl (lv_at hl 1 rfl) ?_
  refine lv_iload_n hx hb dX4_order__3 rfl (lv_at hl 2 rfl) ?_
  refine kV_i (A := A) (b := am) (As := [.int x, .int y]) (rest := .ref am :: []) ⟨hx, hb, hml, hown, hts⟩ (mX4_areNone (A := A) (xa := xa) (X := X) (P := P) (k := k)) (cwV 2 hts (gV tw_6_204 tw_6_206 sel_X4_areNone tw_1_8 tw_6_207) rfl rfl rfl (by decide +kernel) ⟨Nat.le_of_ble_eq_true rfl, Nat.le_of_ble_eq_true rfl⟩) hC hS hA (hW.recv hK) ⟨ra, pa, tx, hW⟩ rfl rfl hl.1 (Nat.le_of_ble_eq_true rfl) ⟨Nat.zero_le _, Nat.zero_le _⟩ dX4_order__4 (fun r_18 hr_18 => ?_)
  obtain ⟨r_18v, hr_18v, rfl⟩ := hr_18
  refine lv_iconst (v := nI 1) hx hb dX4_order__7 (by decide) ?_
  refine qI_V (A := A) (A1 := A) (b := am) (As := [.int (bI r_18v), .int (nI 1)]) (rest := []) ⟨hx, hb, hml, hown, hts⟩ (mX4_start (A := A) (b := r_18v) (w9 := 1) (by decide)) (cwV 2 hts (gV tw_4_206 tw_4_208 sel_X4_start tw_1_8 tw_4_209) rfl rfl rfl (by decide +kernel) ⟨Nat.le_of_ble_eq_true rfl, Nat.le_of_ble_eq_true rfl⟩) hC hS (fun _ h => h) (fun q h => hA q (Nat.le_trans hS.1 h)) (hW.recv hK) ⟨ra, pa, tx, hW⟩ rfl rfl hl.1 (Nat.le_of_ble_eq_true rfl) ⟨Nat.zero_le _, Nat.zero_le _⟩ dX4_order__8 (fun rv19 H19 L19 hP19 hk19 hS => ?_)
  have hZ19 := hS.1
  obtain ⟨hr19, hM19⟩ := hP19
  subst hr19
  obtain ⟨ra, pa, tx, hW⟩ := hM19
  have hO := hW.obj
  have hAm := hW.1
  refine f_eq (tgt := 18) hx hb dX4_order__11 (by decide) (fun c_20 => ?_) (fun c_20 => ?_)
  · have hv : r_18v = false := by cases q : r_18v; rfl; rw [q] at c_20; exact absurd c_20 (by decide)
    rw [hv] at hW hO
    have hno : ¬ (NT x ∨ NT y) := fun q => absurd (hr_18v.mpr q) (by rw [hv]; decide)
    obtain ⟨i, hi, rfl⟩ : ∃ i : Nat, i < 4 ∧ x = nI i := Classical.byContradiction (fun q => hno (Or.inl q))
    obtain ⟨j, hj, rfl⟩ : ∃ j : Nat, j < 4 ∧ y = nI j := Classical.byContradiction (fun q => hno (Or.inr q))
    have hO := hW.obj
    have hAm := hW.1
    refine lv_aload_n hx hb dX4_order__18 rfl (lv_at hl 0 rfl) ?_
    refine va_get (D := G.1) (ci := 8) (C := RX4) (T := TX4) (N := 5) hx hb hts inX4 hown hK (at_P hO) 0 rfl rfl 1 (by decide) (hts _ tw_4_173) (fun _ h9 => h9) rfl dX4_order__19 ?_
    refine lv_iload_n hx hb dX4_order__22 rfl (lv_at hl 1 rfl) ?_
    refine h_aaldI (D := G.1) hx hb hK 4 hW.txs rfl (vp_in_nI (n := i) (N := 4) (by omega) (by omega)) dX4_order__23 ?_
    refine v_cv (show va_rf _ = .ref (tx i) from by rw [nI_clamp (n := i) (by omega)]; rfl) ?_
    have hTi := (hW.tx (j := i) (by omega)).ia hC.2.1.2
    have x60i := hW.2.2.1 i (Or.inl (by omega))
    refine lv_aload_n hx hb dX4_order__24 rfl (lv_at hl 0 rfl) ?_
    refine va_get (D := G.1) (ci := 8) (C := RX4) (T := TX4) (N := 5) hx hb hts inX4 hown hK (at_P hO) 0 rfl rfl 1 (by decide) (hts _ tw_4_173) (fun _ h9 => h9) rfl dX4_order__25 ?_
    refine lv_iload_n hx hb dX4_order__28 rfl (lv_at hl 2 rfl) ?_
    refine h_aaldI (D := G.1) hx hb hK 4 hW.txs rfl (vp_in_nI (n := j) (N := 4) (by omega) (by omega)) dX4_order__29 ?_
    refine v_cv (show va_rf _ = .ref (tx j) from by rw [nI_clamp (n := j) (by omega)]; rfl) ?_
    have hTj := (hW.tx (j := j) (by omega)).ia hC.2.1.2
    have x60j := hW.2.2.1 j (Or.inl (by omega))
    refine lv_iconst (v := nI 0) hx hb dX4_order__30 (by decide) ?_
    refine kS_i (A := A) (As := [.ref (tx i), .ref (tx j), .int (bI false)]) (rest := []) ⟨hx, hb, hml, hown, hts⟩ (mX4_order (A := A) (t := X i) (u := X j) (b0 := false) x60i.1 x60j.1 (by omega) (by omega)) (va_cwS 3 hts (gS tw_6_227 tw_6_228 tw_1_8 tw_6_229) rfl rfl rfl (by decide +kernel) ⟨Nat.le_of_ble_eq_true rfl, Nat.le_of_ble_eq_true rfl⟩) hC hS hA  ⟨hTi, hTj⟩ rfl rfl hl.1 (Nat.le_of_ble_eq_true rfl) ⟨Nat.zero_le _, Nat.zero_le _⟩ dX4_order__31 (fun r_21 hr_21 => ?_)
    obtain ⟨o9, h7, rfl⟩ := hr_21
    exact q_i hx hb hr hlocks dX4_order__34 hS (Nat.le_refl _) (Nat.le_refl _) (Or.inr ⟨i, j, hi, rfl, hj, rfl, h7, ra, pa, tx, hW⟩)
  · have hv : r_18v = true := by cases q : r_18v; rw [q] at c_20; exact absurd c_20 (by decide); rfl
    rw [hv] at hW hO
    refine lv_iconst (v := nI 0) hx hb dX4_order__14 (by decide) ?_
    refine lv_goto (tgt := 34) hx hb dX4_order__15 (by decide) ?_
    exact q_i hx hb hr hlocks dX4_order__34 hS (Nat.le_refl _) (Nat.le_refl _) (Or.inl ⟨hr_18v.mp hv, rfl, ra, pa, tx, hW⟩)

abbrev rmX4_orderLike : Room := { frames := 3, cells := 0, slots := 0, locals := 64 }
theorem mX4_orderLike {l : Launch} {G : Cx} {A : Nat → Prop} {am xa : Nat} {X : Nat → List Nat} {P : List (List Nat)} {k : Int32} {x y th : Int32} : Met l yX4_orderLike (.code yX4_orderLike cX4_orderLike 3 (some .int) :: GW) rmX4_orderLike (PC G A [.ref am, .int x, .int y] (MW G A am xa X P k th)) (qI A (fun r H => ((NT x ∨ NT y) ∧ r = 0 ∧ MW G A am xa X P k 1 H) ∨ ∃ i j : Nat, i < 4 ∧ x = nI i ∧ j < 4 ∧ y = nI j ∧ (∃ o9, ordR true (X i) (X j) o9 ∧ r = sgI o9) ∧ MW G A am xa X P k 0 H)) 0 0 (A) := by
  refine mstart "SigntextModel" (by decide +kernel) rfl (Nat.le_of_ble_eq_true rfl) ?_
  intro p e s m below meth c ls hx hb hr hts hown hml hlocks hname hC hA hW hl
  have hl : lv_has ls 3 [(0, .ref am), (1, .int x), (2, .int y)] := hl
  have hK := hC.1
  have hS : va_S A s.heap s.heap [] := va_S.rf
  obtain ⟨ra, pa, tx, hW⟩ := hW
  have hO := hW.obj
  have hAm := hW.1
  refine lv_aload_n hx hb dX4_orderLike_0 rfl (lv_at hl 0 rfl) ?_
  refine lv_aload_n hx hb dX4_orderLike_1 rfl (lv_at hl 0 rfl) ?_
  refine lv_iload_n hx hb dX4_orderLike_2 rfl (lv_at hl 1 rfl) ?_
  refine lv_iload_n hx hb dX4_orderLike_3 rfl (lv_at hl 2 rfl) ?_
  refine kV_i (A := A) (b := am) (As := [.int x, .int y]) (rest := .ref am :: []) ⟨hx, hb, hml, hown, hts⟩ (mX4_areNone (A := A) (xa := xa) (X := X) (P := P) (k := k)) (cwV 2 hts (gV tw_6_204 tw_6_206 sel_X4_areNone tw_1_8 tw_6_207) rfl rfl rfl (by decide +kernel) ⟨Nat.le_of_ble_eq_true rfl, Nat.le_of_ble_eq_true rfl⟩) hC hS hA (hW.recv hK) ⟨ra, pa, tx, hW⟩ rfl rfl hl.1 (Nat.le_of_ble_eq_true rfl) ⟨Nat.zero_le _, Nat.zero_le _⟩ dX4_orderLike_4 (fun r_22 hr_22 => ?_)
  obtain ⟨r_22v, hr_22v, rfl⟩ := hr_22
  refine lv_iconst (v := nI 1) hx hb dX4_orderLike_7 (by decide) ?_
  refine qI_V (A := A) (A1 := A) (b := am) (As := [.int (bI r_22v), .int (nI 1)]) (rest := []) ⟨hx, hb, hml, hown, hts⟩ (mX4_start (A := A) (b := r_22v) (w9 := 1) (by decide)) (cwV 2 hts (gV tw_4_206 tw_4_208 sel_X4_start tw_1_8 tw_4_209) rfl rfl rfl (by decide +kernel) ⟨Nat.le_of_ble_eq_true rfl, Nat.le_of_ble_eq_true rfl⟩) hC hS (fun _ h => h) (fun q h => hA q (Nat.le_trans hS.1 h)) (hW.recv hK) ⟨ra, pa, tx, hW⟩ rfl rfl hl.1 (Nat.le_of_ble_eq_true rfl) ⟨Nat.zero_le _, Nat.zero_le _⟩ dX4_orderLike_8 (fun rv23 H23 L23 hP23 hk23 hS => ?_)
  have hZ23 := hS.1
  obtain ⟨hr23, hM23⟩ := hP23
  subst hr23
  obtain ⟨ra, pa, tx, hW⟩ := hM23
  have hO := hW.obj
  have hAm := hW.1
  refine f_eq (tgt := 18) hx hb dX4_orderLike_11 (by decide) (fun c_24 => ?_) (fun c_24 => ?_)
  · have hv : r_22v = false := by cases q : r_22v; rfl; rw [q] at c_24; exact absurd c_24 (by decide)
    rw [hv] at hW hO
    have hno : ¬ (NT x ∨ NT y) := fun q => absurd (hr_22v.mpr q) (by rw [hv]; decide)
    obtain ⟨i, hi, rfl⟩ : ∃ i : Nat, i < 4 ∧ x = nI i := Classical.byContradiction (fun q => hno (Or.inl q))
    obtain ⟨j, hj, rfl⟩ : ∃ j : Nat, j < 4 ∧ y = nI j := Classical.byContradiction (fun q => hno (Or.inr q))
    have hO := hW.obj
    have hAm := hW.1
    refine lv_aload_n hx hb dX4_orderLike_18 rfl (lv_at hl 0 rfl) ?_
    refine va_get (D := G.1) (ci := 8) (C := RX4) (T := TX4) (N := 5) hx hb hts inX4 hown hK (at_P hO) 0 rfl rfl 1 (by decide) (hts _ tw_4_173) (fun _ h9 => h9) rfl dX4_orderLike_19 ?_
    refine lv_iload_n hx hb dX4_orderLike_22 rfl (lv_at hl 1 rfl) ?_
    refine h_aaldI (D := G.1) hx hb hK 4 hW.txs rfl (vp_in_nI (n := i) (N := 4) (by omega) (by omega)) dX4_orderLike_23 ?_
    refine v_cv (show va_rf _ = .ref (tx i) from by rw [nI_clamp (n := i) (by omega)]; rfl) ?_
    have hTi := (hW.tx (j := i) (by omega)).ia hC.2.1.2
    have x60i := hW.2.2.1 i (Or.inl (by omega))
    refine lv_aload_n hx hb dX4_orderLike_24 rfl (lv_at hl 0 rfl) ?_
    refine va_get (D := G.1) (ci := 8) (C := RX4) (T := TX4) (N := 5) hx hb hts inX4 hown hK (at_P hO) 0 rfl rfl 1 (by decide) (hts _ tw_4_173) (fun _ h9 => h9) rfl dX4_orderLike_25 ?_
    refine lv_iload_n hx hb dX4_orderLike_28 rfl (lv_at hl 2 rfl) ?_
    refine h_aaldI (D := G.1) hx hb hK 4 hW.txs rfl (vp_in_nI (n := j) (N := 4) (by omega) (by omega)) dX4_orderLike_29 ?_
    refine v_cv (show va_rf _ = .ref (tx j) from by rw [nI_clamp (n := j) (by omega)]; rfl) ?_
    have hTj := (hW.tx (j := j) (by omega)).ia hC.2.1.2
    have x60j := hW.2.2.1 j (Or.inl (by omega))
    refine lv_iconst (v := nI 1) hx hb dX4_orderLike_30 (by decide) ?_
    refine kS_i (A := A) (As := [.ref (tx i), .ref (tx j), .int (bI true)]) (rest := []) ⟨hx, hb, hml, hown, hts⟩ (mX4_order (A := A) (t := X i) (u := X j) (b0 := true) x60i.1 x60j.1 (by omega) (by omega)) (va_cwS 3 hts (gS tw_6_227 tw_6_228 tw_1_8 tw_6_229) rfl rfl rfl (by decide +kernel) ⟨Nat.le_of_ble_eq_true rfl, Nat.le_of_ble_eq_true rfl⟩) hC hS hA  ⟨hTi, hTj⟩ rfl rfl hl.1 (Nat.le_of_ble_eq_true rfl) ⟨Nat.zero_le _, Nat.zero_le _⟩ dX4_orderLike_31 (fun r_25 hr_25 => ?_)
    obtain ⟨o9, h7, rfl⟩ := hr_25
    exact q_i hx hb hr hlocks dX4_orderLike_34 hS (Nat.le_refl _) (Nat.le_refl _) (Or.inr ⟨i, j, hi, rfl, hj, rfl, ⟨o9, h7, rfl⟩, ra, pa, tx, hW⟩)
  · have hv : r_22v = true := by cases q : r_22v; rw [q] at c_24; exact absurd c_24 (by decide); rfl
    rw [hv] at hW hO
    refine lv_iconst (v := nI 0) hx hb dX4_orderLike_14 (by decide) ?_
    refine lv_goto (tgt := 34) hx hb dX4_orderLike_15 (by decide) ?_
    exact q_i hx hb hr hlocks dX4_orderLike_34 hS (Nat.le_refl _) (Nat.le_refl _) (Or.inl ⟨hr_22v.mp hv, rfl, ra, pa, tx, hW⟩)
end
/-! 45.mod9 -/
section
/-! The model, 9: what is asked of one text -/
theorem dX4_isEmpty_0 : decode cX4_isEmpty 0 = .ok (.aload_n 0, 1) := by decide +kernel
theorem dX4_isEmpty_1 : decode cX4_isEmpty 1 = .ok (.iload_n 1, 1) := by decide +kernel
theorem dX4_isEmpty_2 : decode cX4_isEmpty 2 = .ok (.invokestatic 107, 3) := by decide +kernel
theorem dX4_isEmpty_5 : decode cX4_isEmpty 5 = .ok (.iconst 1, 1) := by decide +kernel
theorem dX4_isEmpty_6 : decode cX4_isEmpty 6 = .ok (.invokevirtual 110, 3) := by decide +kernel
theorem dX4_isEmpty_9 : decode cX4_isEmpty 9 = .ok (.ifCond .ne 17, 3) := by decide +kernel
theorem dX4_isEmpty_12 : decode cX4_isEmpty 12 = .ok (.aload_n 0, 1) := by decide +kernel
theorem dX4_isEmpty_13 : decode cX4_isEmpty 13 = .ok (.getfield 72, 3) := by decide +kernel
theorem dX4_isEmpty_16 : decode cX4_isEmpty 16 = .ok (.iload_n 1, 1) := by decide +kernel
theorem dX4_isEmpty_17 : decode cX4_isEmpty 17 = .ok (.aaload, 1) := by decide +kernel
theorem dX4_isEmpty_18 : decode cX4_isEmpty 18 = .ok (.arraylength, 1) := by decide +kernel
theorem dX4_isEmpty_19 : decode cX4_isEmpty 19 = .ok (.ifCond .ne 7, 3) := by decide +kernel
theorem dX4_isEmpty_22 : decode cX4_isEmpty 22 = .ok (.iconst 1, 1) := by decide +kernel
theorem dX4_isEmpty_23 : decode cX4_isEmpty 23 = .ok (.goto 4, 3) := by decide +kernel
theorem dX4_isEmpty_26 : decode cX4_isEmpty 26 = .ok (.iconst 0, 1) := by decide +kernel
theorem dX4_isEmpty_27 : decode cX4_isEmpty 27 = .ok (.ireturn, 1) := by decide +kernel
theorem dX4_hash__0 : decode cX4_hash_ 0 = .ok (.aload_n 0, 1) := by decide +kernel
theorem dX4_hash__1 : decode cX4_hash_ 1 = .ok (.iload_n 1, 1) := by decide +kernel
theorem dX4_hash__2 : decode cX4_hash_ 2 = .ok (.invokestatic 107, 3) := by decide +kernel
theorem dX4_hash__5 : decode cX4_hash_ 5 = .ok (.iconst 1, 1) := by decide +kernel
theorem dX4_hash__6 : decode cX4_hash_ 6 = .ok (.invokevirtual 110, 3) := by decide +kernel
theorem dX4_hash__9 : decode cX4_hash_ 9 = .ok (.ifCond .eq 7, 3) := by decide +kernel
theorem dX4_hash__12 : decode cX4_hash_ 12 = .ok (.iconst 0, 1) := by decide +kernel
theorem dX4_hash__13 : decode cX4_hash_ 13 = .ok (.goto 12, 3) := by decide +kernel
theorem dX4_hash__16 : decode cX4_hash_ 16 = .ok (.aload_n 0, 1) := by decide +kernel
theorem dX4_hash__17 : decode cX4_hash_ 17 = .ok (.getfield 72, 3) := by decide +kernel
theorem dX4_hash__20 : decode cX4_hash_ 20 = .ok (.iload_n 1, 1) := by decide +kernel
theorem dX4_hash__21 : decode cX4_hash_ 21 = .ok (.aaload, 1) := by decide +kernel
theorem dX4_hash__22 : decode cX4_hash_ 22 = .ok (.invokestatic 156, 3) := by decide +kernel
theorem dX4_hash__25 : decode cX4_hash_ 25 = .ok (.ireturn, 1) := by decide +kernel
abbrev rmX4_hash_ : Room := { frames := 3, cells := 0, slots := 0, locals := 64 }
theorem mX4_hash_ {l : Launch} {G : Cx} {A : Nat → Prop} {am xa : Nat} {X : Nat → List Nat} {P : List (List Nat)} {k : Int32} {x th : Int32} : Met l yX4_hash_ (.code yX4_hash_ cX4_hash_ 2 (some .int) :: GW) rmX4_hash_ (PC G A [.ref am, .int x] (MW G A am xa X P k th)) (qI A (fun r H => (NT x ∧ r = 0 ∧ MW G A am xa X P k 1 H) ∨ ∃ i : Nat, i < 4 ∧ x = nI i ∧ r = hashL (X i) ∧ MW G A am xa X P k 0 H)) 0 0 (A) := by
  refine mstart "SigntextModel" (by decide +kernel) rfl (Nat.le_of_ble_eq_true rfl) ?_
  intro p e s m below meth c ls hx hb hr hts hown hml hlocks hname hC hA hW hl
  have hl : lv_has ls 2 [(0, .ref am), (1, .int x)] := hl
  have hK := hC.1
  have hS : va_S A s.heap s.heap [] := va_S.rf
  obtain ⟨ra, pa, tx, hW⟩ := hW
  have hO := hW.obj
  have hAm := hW.1
  refine lv_aload_n hx hb dX4_hash__0 rfl (lv_at hl 0 rfl) ?_
  refine lv_iload_n hx hb dX4_hash__1 rfl (lv_at hl 1 rfl) ?_
  refine kS_i (A := A) (As := [.int x]) (rest := .ref am :: []) ⟨hx, hb, hml, hown, hts⟩ (mX4_isNone (A := A) ) (va_cwS 1 hts (gS tw_4_203 tw_4_204 tw_1_8 tw_4_205) rfl rfl rfl (by decide +kernel) ⟨Nat.le_of_ble_eq_true rfl, Nat.le_of_ble_eq_true rfl⟩) hC hS hA  trivial rfl rfl hl.1 (Nat.le_of_ble_eq_true rfl) ⟨Nat.zero_le _, Nat.zero_le _⟩ dX4_hash__2 (fun r_1 hr_1 => ?_)
  obtain ⟨r_1v, hr_1v, rfl⟩ := hr_1
  refine lv_iconst (v := nI 1) hx hb dX4_hash__5 (by decide) ?_
  refine qI_V (A := A) (A1 := A) (b := am) (As := [.int (bI r_1v), .int (nI 1)]) (rest := []) ⟨hx, hb, hml, hown, hts⟩ (mX4_start (A := A) (b := r_1v) (w9 := 1) (by decide)) (cwV 2 hts (gV tw_4_206 tw_4_208 sel_X4_start tw_1_8 tw_4_209) rfl rfl rfl (by decide +kernel) ⟨Nat.le_of_ble_eq_true rfl, Nat.le_of_ble_eq_true rfl⟩) hC hS (fun _ h => h) (fun q h => hA q (Nat.le_trans hS.1 h)) (hW.recv hK) ⟨ra, pa, tx, hW⟩ rfl rfl hl.1 (Nat.le_of_ble_eq_true rfl) ⟨Nat.zero_le _, Nat.zero_le _⟩ dX4_hash__6 (fun rv2 H2 L2 hP2 hk2 hS => ?_)
  have hZ2 := hS.1
  obtain ⟨hr2, hM2⟩ := hP2
  subst hr2
  obtain ⟨ra, pa, tx, hW⟩ := hM2
  have hO := hW.obj
  have hAm := hW.1
  refine f_eq (tgt := 16) hx hb dX4_hash__9 (by decide) (fun c_3 => ?_) (fun c_3 => ?_)
  · have hv : r_1v = false := by cases q : r_1v; rfl; rw [q] at c_3; exact absurd c_3 (by decide)
    rw [hv] at hW hO
    obtain ⟨i, hi, rfl⟩ : ∃ i : Nat, i < 4 ∧ x = nI i := Classical.byContradiction (fun q => absurd (hr_1v.mpr q) (by rw [hv]; decide))
    have hO := hW.obj
    have hAm := hW.1
    refine lv_aload_n hx hb dX4_hash__16 rfl (lv_at hl 0 rfl) ?_
    refine va_get (D := G.1) (ci := 8) (C := RX4) (T := TX4) (N := 5) hx hb hts inX4 hown hK (at_P hO) 0 rfl rfl 1 (by decide) (hts _ tw_4_173) (fun _ h9 => h9) rfl dX4_hash__17 ?_
    refine lv_iload_n hx hb dX4_hash__20 rfl (lv_at hl 1 rfl) ?_
    refine h_aaldI (D := G.1) hx hb hK 4 hW.txs rfl (vp_in_nI (n := i) (N := 4) (by omega) (by omega)) dX4_hash__21 ?_
    refine v_cv (show va_rf _ = .ref (tx i) from by rw [nI_clamp (n := i) (by omega)]; rfl) ?_
    have hTi := (hW.tx (j := i) (by omega)).ia hC.2.1.2
    have x60i := hW.2.2.1 i (Or.inl (by omega))
    refine kS_i (A := A) (As := [.ref (tx i)]) (rest := []) ⟨hx, hb, hml, hown, hts⟩ (mX4_hash (A := A) (t := X i) (by omega)) (va_cwS 1 hts (gS tw_6_165 tw_6_166 tw_1_8 tw_6_167) rfl rfl rfl (by decide +kernel) ⟨Nat.le_of_ble_eq_true rfl, Nat.le_of_ble_eq_true rfl⟩) hC hS hA  hTi rfl rfl hl.1 (Nat.le_of_ble_eq_true rfl) ⟨Nat.zero_le _, Nat.zero_le _⟩ dX4_hash__22 (fun r9 h9 => lv_cv h9 ?_)
    exact q_i hx hb hr hlocks dX4_hash__25 hS (Nat.le_refl _) (Nat.le_refl _) (Or.inr ⟨i, hi, rfl, rfl, ra, pa, tx, hW⟩)
  · have hv : r_1v = true := by cases q : r_1v; rw [q] at c_3; exact absurd c_3 (by decide); rfl
    rw [hv] at hW hO
    refine lv_iconst (v := nI 0) hx hb dX4_hash__12 (by decide) ?_
    refine lv_goto (tgt := 25) hx hb dX4_hash__13 (by decide) ?_
    exact q_i hx hb hr hlocks dX4_hash__25 hS (Nat.le_refl _) (Nat.le_refl _) (Or.inl ⟨hr_1v.mp hv, rfl, ra, pa, tx, hW⟩)

abbrev rmX4_isEmpty : Room := { frames := 3, cells := 0, slots := 0, locals := 64 }
theorem mX4_isEmpty {l : Launch} {G : Cx} {A : Nat → Prop} {am xa : Nat} {X : Nat → List Nat} {P : List (List Nat)} {k : Int32} {x th : Int32} : Met l yX4_isEmpty (.code yX4_isEmpty cX4_isEmpty 2 (some .boolean) :: GW) rmX4_isEmpty (PC G A [.ref am, .int x] (MW G A am xa X P k th)) (qI A (fun r H => (NT x ∧ r = 0 ∧ MW G A am xa X P k 1 H) ∨ ∃ i : Nat, i < 4 ∧ x = nI i ∧ r = bI (decide ((X i).length = 0)) ∧ MW G A am xa X P k 0 H)) 0 0 (A) := by
  refine mstart "SigntextModel" (by decide +kernel) rfl (Nat.le_of_ble_eq_true rfl) ?_
  intro p e s m below meth c ls hx hb hr hts hown hml hlocks hname hC hA hW hl
  have hl : lv_has ls 2 [(0, .ref am), (1, .int x)] := hl
  have hK := hC.1
  have hS : va_S A s.heap s.heap [] := va_S.rf
  obtain ⟨ra, pa, tx, hW⟩ := hW
  have hO := hW.obj
  have hAm := hW.1
  refine lv_aload_n hx hb dX4_isEmpty_0 rfl (lv_at hl 0 rfl) ?_
  refine lv_iload_n hx hb dX4_isEmpty_1 rfl (lv_at hl 1 rfl) ?_
  refine kS_i (A := A) (As := [.int x]) (rest := .ref am :: []) ⟨hx, hb, hml, hown, hts⟩ (mX4_isNone (A := A) ) (va_cwS 1 hts (gS tw_4_203 tw_4_204 tw_1_8 tw_4_205) rfl rfl rfl (by decide +kernel) ⟨Nat.le_of_ble_eq_true rfl, Nat.le_of_ble_eq_true rfl⟩) hC hS hA  trivial rfl rfl hl.1 (Nat.le_of_ble_eq_true rfl) ⟨Nat.zero_le _, Nat.zero_le _⟩ dX4_isEmpty_2 (fun r_4 hr_4 => ?_)
  obtain ⟨r_4v, hr_4v, rfl⟩ := hr_4
  refine lv_iconst (v := nI 1) hx hb dX4_isEmpty_5 (by decide) ?_
  refine qI_V (A := A) (A1 := A) (b := am) (As := [.int (bI r_4v), .int (nI 1)]) (rest := []) ⟨hx, hb, hml, hown, hts⟩ (mX4_start (A := A) (b := r_4v) (w9 := 1) (by decide)) (cwV 2 hts (gV tw_4_206 tw_4_208 sel_X4_start tw_1_8 tw_4_209) rfl rfl rfl (by decide +kernel) ⟨Nat.le_of_ble_eq_true rfl, Nat.le_of_ble_eq_true rfl⟩) hC hS (fun _ h => h) (fun q h => hA q (Nat.le_trans hS.1 h)) (hW.recv hK) ⟨ra, pa, tx, hW⟩ rfl rfl hl.1 (Nat.le_of_ble_eq_true rfl) ⟨Nat.zero_le _, Nat.zero_le _⟩ dX4_isEmpty_6 (fun rv5 H5 L5 hP5 hk5 hS => ?_)
  have hZ5 := hS.1
  obtain ⟨hr5, hM5⟩ := hP5
  subst hr5
  obtain ⟨ra, pa, tx, hW⟩ := hM5
  have hO := hW.obj
  have hAm := hW.1
  refine f_ne (tgt := 26) hx hb dX4_isEmpty_9 (by decide) (fun c_6 => ?_) (fun c_6 => ?_)
  · have hv : r_4v = true := by cases q : r_4v; rw [q] at c_6; exact absurd c_6 (by decide); rfl
    rw [hv] at hW hO
    refine lv_iconst (v := nI 0) hx hb dX4_isEmpty_26 (by decide) ?_
    exact q_z (b9 := false) hx hb hr hlocks dX4_isEmpty_27 hS (Nat.le_refl _) (Nat.le_refl _) (Or.inl ⟨hr_4v.mp hv, rfl, ra, pa, tx, hW⟩)
  · have hv : r_4v = false := by cases q : r_4v; rfl; rw [q] at c_6; exact absurd c_6 (by decide)
    rw [hv] at hW hO
    obtain ⟨i, hi, rfl⟩ : ∃ i : Nat, i < 4 ∧ x = nI i := Classical.byContradiction (fun q => absurd (hr_4v.mpr q) (by rw [hv]; decide))
    have hO := hW.obj
    have hAm := hW.1
    refine lv_aload_n hx hb dX4_isEmpty_12 rfl (lv_at hl 0 rfl) ?_
    refine va_get (D := G.1) (ci := 8) (C := RX4) (T := TX4) (N := 5) hx hb hts inX4 hown hK (at_P hO) 0 rfl rfl 1 (by decide) (hts _ tw_4_173) (fun _ h9 => h9) rfl dX4_isEmpty_13 ?_
    refine lv_iload_n hx hb dX4_isEmpty_16 rfl (lv_at hl 1 rfl) ?_
    refine h_aaldI (D := G.1) hx hb hK 4 hW.txs rfl (vp_in_nI (n := i) (N := 4) (by omega) (by omega)) dX4_isEmpty_17 ?_
    refine v_cv (show va_rf _ = .ref (tx i) from by rw [nI_clamp (n := i) (by omega)]; rfl) ?_
    have hTi := (hW.tx (j := i) (by omega)).ia hC.2.1.2
    have x60i := hW.2.2.1 i (Or.inl (by omega))
    refine h_ilen hx hb hC.2.1 hTi dX4_isEmpty_18 ?_
    refine z_ne (tgt := 26) hx hb dX4_isEmpty_19 (by decide) (by omega) (fun c_7 => ?_) (fun c_7 => ?_)
    · refine lv_iconst (v := nI 0) hx hb dX4_isEmpty_26 (by decide) ?_
      exact q_z (b9 := false) hx hb hr hlocks dX4_isEmpty_27 hS (Nat.le_refl _) (Nat.le_refl _) (Or.inr ⟨i, hi, rfl, by rw [decide_eq_false c_7], ra, pa, tx, hW⟩)
    · refine lv_iconst (v := nI 1) hx hb dX4_isEmpty_22 (by decide) ?_
      refine lv_goto (tgt := 27) hx hb dX4_isEmpty_23 (by decide) ?_
      exact q_z (b9 := true) hx hb hr hlocks dX4_isEmpty_27 hS (Nat.le_refl _) (Nat.le_refl _) (Or.inr ⟨i, hi, rfl, by rw [decide_eq_true c_7], ra, pa, tx, hW⟩)
end
/-! 46.mod10 -/
section
/-! The model, 10: calls that change texts and row -/
theorem rngL {n : Nat} (hn : n < 2 ^ 31) {x : Int32} : (nI 0 ≤ x ∧ x ≤ nI n - nI 1) ↔ ∃ a9 : Nat, a9 < n ∧ x = nI a9 := by
  rcases Nat.eq_zero_or_pos n with q | q
  · subst q
    constructor
    · intro ⟨h1, h2⟩
      exact absurd (Int32.le_trans h1 h2) (by decide)
    · rintro ⟨i, hi, -⟩; exact absurd hi (Nat.not_lt_zero i)
  · rw [pk_sub (a := n) (b := 1) (by omega)]
    rw [rngI (n := n - 1) (by omega)]
    constructor
    · rintro ⟨i, h1, h2⟩; exact ⟨i, by omega, h2⟩
    · rintro ⟨i, h1, h2⟩; exact ⟨i, by omega, h2⟩
theorem knT_le {i : Nat} (h : i < 7) : (knT i).length ≤ 4 ∧ okc (knT i) := by
  have k : ∀ j : Fin 7, (knT j.1).length ≤ 4 ∧ ∀ q : Fin 4, (knT j.1).getD q.1 0 < 256 := by decide +kernel
  obtain ⟨h1, h2⟩ := k ⟨i, h⟩
  refine ⟨h1, fun j => ?_⟩
  rcases Nat.lt_or_ge j 4 with q | q
  · exact h2 ⟨j, q⟩
  · rw [List.getD_eq_getElem?_getD, List.getElem?_eq_none (Nat.le_trans h1 q)]; decide
section MWS2
variable {G : Cx} {A : Nat → Prop} {am xa : Nat} {X : Nat → List Nat} {P : List (List Nat)} {k th : Int32} {H H1 : Heap} {s : State}
/-- a fresh row becomes the row -/
theorem MWx_lay {ra pa : Nat} {tx : Nat → Nat} (hK : va_K G.1 vwCl (tyL G.2.1) s) (h : MWx G A am xa ra pa tx X P k th H) {H2 : Heap} {r : Nat} {t : List Nat} (hk : kp (nw H.size) H H2) (hrn : H.size ≤ r) (hr : IA0 G r t H2) (hO : va_at G.1 vwCl (am, .inr (8, [.int th, .ref xa, .ref r, .ref pa, .int k])) H1) (oq : ∀ q : Nat, q ≠ am → H1[q]? = H2[q]?) (hAr : A r) (ht : okc t ∧ t.length ≤ 60) : MWx G A am xa r pa tx (updT X 11 t) P k th H1 := by
  have hO0 := h.obj
  obtain ⟨a1, a2, a3, a4, b1, b2, b3, b4, b5, b6, b7, b8⟩ := h
  have hne : ∀ (q : Nat) (fs : ClassId × vp_A) (t0 : Nat) (ty : FieldType), va_at G.1 vwCl (q, .inl fs) H → (tyL G.2.1)[t0]? = some (fs.1, ty) → q ≠ am := fun q fs t0 ty hq ht => Ne.symm (at_ne_oa hK hO0 (r := (RX4, TX4, 5)) rfl hq t0 ht)
  have hq : ∀ q : Nat, q < H.size → q ≠ am → H1[q]? = H[q]? := fun q h1 h2 => (oq q h2).trans (hk.2 q h1 (Nat.not_le_of_lt h1))
  have hI : ∀ {q : Nat} {t : List Nat}, IA0 G q t H → IA0 G q t H1 := fun {q t} hz => by
    obtain ⟨f, q1, q2⟩ := hz
    exact ⟨f, q1.kept (hq _ q1.lt (hne q _ 0 _ q1 rfl)), q2⟩
  have ham := b4.lt
  refine ⟨a1, a2, fun i hi => ?_, a4, hAr, b2, b3, hO, b5.kept (hq _ b5.lt (hne xa _ 4 _ b5 rfl)), fun j hj => ?_, ?_, ?_⟩
  · unfold updT; split
    · exact ht
    · exact a3 i hi
  · rw [updT_n (by omega)]; exact ⟨hI (b6 j hj).1, by have := (b6 j hj).1.lt; omega⟩
  · rw [updT_s]; exact hr.o oq (by omega)
  · obtain ⟨h0, h | ⟨md, ed, cap, f, pe, h1, h2, h3, h4, h5, h6⟩⟩ := b8
    · obtain ⟨e, md, h⟩ := h
      exact ⟨h0, Or.inl ⟨e, md, h.kept (hq _ h.lt b3)⟩⟩
    · exact ⟨h0, Or.inr ⟨md, ed, cap, f, pe, h1.kept (hq _ h1.lt b3), h2.kept (hq _ h2.lt (hne ed _ 5 _ h2 rfl)), h3, h4, h5, fun i hi => ⟨(h6 i hi).1, hI (h6 i hi).2.1, by have := (h6 i hi).2.1.lt; omega⟩⟩⟩
end MWS2
theorem dX4_part_0 : decode cX4_part 0 = .ok (.aload_n 0, 1) := by decide +kernel
theorem dX4_part_1 : decode cX4_part 1 = .ok (.iload_n 1, 1) := by decide +kernel
theorem dX4_part_2 : decode cX4_part 2 = .ok (.invokestatic 107, 3) := by decide +kernel
theorem dX4_part_5 : decode cX4_part 5 = .ok (.ifCond .ne 20, 3) := by decide +kernel
theorem dX4_part_8 : decode cX4_part 8 = .ok (.iload 4, 2) := by decide +kernel
theorem dX4_part_10 : decode cX4_part 10 = .ok (.invokestatic 107, 3) := by decide +kernel
theorem dX4_part_13 : decode cX4_part 13 = .ok (.ifCond .ne 12, 3) := by decide +kernel
theorem dX4_part_16 : decode cX4_part 16 = .ok (.iload_n 2, 1) := by decide +kernel
theorem dX4_part_17 : decode cX4_part 17 = .ok (.ifCond .lt 8, 3) := by decide +kernel
theorem dX4_part_20 : decode cX4_part 20 = .ok (.iload_n 3, 1) := by decide +kernel
theorem dX4_part_21 : decode cX4_part 21 = .ok (.iload_n 2, 1) := by decide +kernel
theorem dX4_part_22 : decode cX4_part 22 = .ok (.if_icmp .ge 7, 3) := by decide +kernel
theorem dX4_part_25 : decode cX4_part 25 = .ok (.iconst 1, 1) := by decide +kernel
theorem dX4_part_26 : decode cX4_part 26 = .ok (.goto 4, 3) := by decide +kernel
theorem dX4_part_29 : decode cX4_part 29 = .ok (.iconst 0, 1) := by decide +kernel
theorem dX4_part_30 : decode cX4_part 30 = .ok (.iconst 1, 1) := by decide +kernel
theorem dX4_part_31 : decode cX4_part 31 = .ok (.invokevirtual 110, 3) := by decide +kernel
theorem dX4_part_34 : decode cX4_part 34 = .ok (.ifCond .ne 27, 3) := by decide +kernel
theorem dX4_part_37 : decode cX4_part 37 = .ok (.aload_n 0, 1) := by decide +kernel
theorem dX4_part_38 : decode cX4_part 38 = .ok (.iload_n 3, 1) := by decide +kernel
theorem dX4_part_39 : decode cX4_part 39 = .ok (.aload_n 0, 1) := by decide +kernel
theorem dX4_part_40 : decode cX4_part 40 = .ok (.getfield 72, 3) := by decide +kernel
theorem dX4_part_43 : decode cX4_part 43 = .ok (.iload_n 1, 1) := by decide +kernel
theorem dX4_part_44 : decode cX4_part 44 = .ok (.aaload, 1) := by decide +kernel
theorem dX4_part_45 : decode cX4_part 45 = .ok (.arraylength, 1) := by decide +kernel
theorem dX4_part_46 : decode cX4_part 46 = .ok (.if_icmp .le 7, 3) := by decide +kernel
theorem dX4_part_49 : decode cX4_part 49 = .ok (.iconst 1, 1) := by decide +kernel
theorem dX4_part_50 : decode cX4_part 50 = .ok (.goto 4, 3) := by decide +kernel
theorem dX4_part_53 : decode cX4_part 53 = .ok (.iconst 0, 1) := by decide +kernel
theorem dX4_part_54 : decode cX4_part 54 = .ok (.iconst 1, 1) := by decide +kernel
theorem dX4_part_55 : decode cX4_part 55 = .ok (.invokevirtual 86, 3) := by decide +kernel
theorem dX4_part_58 : decode cX4_part 58 = .ok (.ifCond .eq 5, 3) := by decide +kernel
theorem dX4_part_61 : decode cX4_part 61 = .ok (.iconst 0, 1) := by decide +kernel
theorem dX4_part_62 : decode cX4_part 62 = .ok (.ireturn, 1) := by decide +kernel
theorem dX4_part_63 : decode cX4_part 63 = .ok (.aload_n 0, 1) := by decide +kernel
theorem dX4_part_64 : decode cX4_part 64 = .ok (.iload 4, 2) := by decide +kernel
theorem dX4_part_66 : decode cX4_part 66 = .ok (.aload_n 0, 1) := by decide +kernel
theorem dX4_part_67 : decode cX4_part 67 = .ok (.getfield 72, 3) := by decide +kernel
theorem dX4_part_70 : decode cX4_part 70 = .ok (.iload_n 1, 1) := by decide +kernel
theorem dX4_part_71 : decode cX4_part 71 = .ok (.aaload, 1) := by decide +kernel
theorem dX4_part_72 : decode cX4_part 72 = .ok (.iload_n 2, 1) := by decide +kernel
theorem dX4_part_73 : decode cX4_part 73 = .ok (.iload_n 3, 1) := by decide +kernel
theorem dX4_part_74 : decode cX4_part 74 = .ok (.invokestatic 31, 3) := by decide +kernel
theorem dX4_part_77 : decode cX4_part 77 = .ok (.invokevirtual 113, 3) := by decide +kernel
theorem dX4_part_80 : decode cX4_part 80 = .ok (.ireturn, 1) := by decide +kernel
theorem dX4_tail_0 : decode cX4_tail 0 = .ok (.aload_n 0, 1) := by decide +kernel
theorem dX4_tail_1 : decode cX4_tail 1 = .ok (.iload_n 1, 1) := by decide +kernel
theorem dX4_tail_2 : decode cX4_tail 2 = .ok (.invokestatic 107, 3) := by decide +kernel
theorem dX4_tail_5 : decode cX4_tail 5 = .ok (.ifCond .ne 14, 3) := by decide +kernel
theorem dX4_tail_8 : decode cX4_tail 8 = .ok (.iload_n 3, 1) := by decide +kernel
theorem dX4_tail_9 : decode cX4_tail 9 = .ok (.invokestatic 107, 3) := by decide +kernel
theorem dX4_tail_12 : decode cX4_tail 12 = .ok (.ifCond .ne 7, 3) := by decide +kernel
theorem dX4_tail_15 : decode cX4_tail 15 = .ok (.iload_n 2, 1) := by decide +kernel
theorem dX4_tail_16 : decode cX4_tail 16 = .ok (.ifCond .ge 7, 3) := by decide +kernel
theorem dX4_tail_19 : decode cX4_tail 19 = .ok (.iconst 1, 1) := by decide +kernel
theorem dX4_tail_20 : decode cX4_tail 20 = .ok (.goto 4, 3) := by decide +kernel
theorem dX4_tail_23 : decode cX4_tail 23 = .ok (.iconst 0, 1) := by decide +kernel
theorem dX4_tail_24 : decode cX4_tail 24 = .ok (.iconst 1, 1) := by decide +kernel
theorem dX4_tail_25 : decode cX4_tail 25 = .ok (.invokevirtual 110, 3) := by decide +kernel
theorem dX4_tail_28 : decode cX4_tail 28 = .ok (.ifCond .ne 27, 3) := by decide +kernel
theorem dX4_tail_31 : decode cX4_tail 31 = .ok (.aload_n 0, 1) := by decide +kernel
theorem dX4_tail_32 : decode cX4_tail 32 = .ok (.iload_n 2, 1) := by decide +kernel
theorem dX4_tail_33 : decode cX4_tail 33 = .ok (.aload_n 0, 1) := by decide +kernel
theorem dX4_tail_34 : decode cX4_tail 34 = .ok (.getfield 72, 3) := by decide +kernel
theorem dX4_tail_37 : decode cX4_tail 37 = .ok (.iload_n 1, 1) := by decide +kernel
theorem dX4_tail_38 : decode cX4_tail 38 = .ok (.aaload, 1) := by decide +kernel
theorem dX4_tail_39 : decode cX4_tail 39 = .ok (.arraylength, 1) := by decide +kernel
theorem dX4_tail_40 : decode cX4_tail 40 = .ok (.if_icmp .le 7, 3) := by decide +kernel
theorem dX4_tail_43 : decode cX4_tail 43 = .ok (.iconst 1, 1) := by decide +kernel
theorem dX4_tail_44 : decode cX4_tail 44 = .ok (.goto 4, 3) := by decide +kernel
theorem dX4_tail_47 : decode cX4_tail 47 = .ok (.iconst 0, 1) := by decide +kernel
theorem dX4_tail_48 : decode cX4_tail 48 = .ok (.iconst 1, 1) := by decide +kernel
theorem dX4_tail_49 : decode cX4_tail 49 = .ok (.invokevirtual 86, 3) := by decide +kernel
theorem dX4_tail_52 : decode cX4_tail 52 = .ok (.ifCond .eq 5, 3) := by decide +kernel
theorem dX4_tail_55 : decode cX4_tail 55 = .ok (.iconst 0, 1) := by decide +kernel
theorem dX4_tail_56 : decode cX4_tail 56 = .ok (.ireturn, 1) := by decide +kernel
theorem dX4_tail_57 : decode cX4_tail 57 = .ok (.aload_n 0, 1) := by decide +kernel
theorem dX4_tail_58 : decode cX4_tail 58 = .ok (.iload_n 3, 1) := by decide +kernel
theorem dX4_tail_59 : decode cX4_tail 59 = .ok (.aload_n 0, 1) := by decide +kernel
theorem dX4_tail_60 : decode cX4_tail 60 = .ok (.getfield 72, 3) := by decide +kernel
theorem dX4_tail_63 : decode cX4_tail 63 = .ok (.iload_n 1, 1) := by decide +kernel
theorem dX4_tail_64 : decode cX4_tail 64 = .ok (.aaload, 1) := by decide +kernel
theorem dX4_tail_65 : decode cX4_tail 65 = .ok (.iload_n 2, 1) := by decide +kernel
theorem dX4_tail_66 : decode cX4_tail 66 = .ok (.aload_n 0, 1) := by decide +kernel
theorem dX4_tail_67 : decode cX4_tail 67 = .ok (.getfield 72, 3) := by decide +kernel
theorem dX4_tail_70 : decode cX4_tail 70 = .ok (.iload_n 1, 1) := by decide +kernel
theorem dX4_tail_71 : decode cX4_tail 71 = .ok (.aaload, 1) := by decide +kernel
theorem dX4_tail_72 : decode cX4_tail 72 = .ok (.arraylength, 1) := by decide +kernel
theorem dX4_tail_73 : decode cX4_tail 73 = .ok (.invokestatic 31, 3) := by decide +kernel
theorem dX4_tail_76 : decode cX4_tail 76 = .ok (.invokevirtual 113, 3) := by decide +kernel
theorem dX4_tail_79 : decode cX4_tail 79 = .ok (.ireturn, 1) := by decide +kernel
theorem dX4_join_0 : decode cX4_join 0 = .ok (.aload_n 0, 1) := by decide +kernel
theorem dX4_join_1 : decode cX4_join 1 = .ok (.iload_n 1, 1) := by decide +kernel
theorem dX4_join_2 : decode cX4_join 2 = .ok (.invokestatic 107, 3) := by decide +kernel
theorem dX4_join_5 : decode cX4_join 5 = .ok (.ifCond .ne 17, 3) := by decide +kernel
theorem dX4_join_8 : decode cX4_join 8 = .ok (.iload_n 2, 1) := by decide +kernel
theorem dX4_join_9 : decode cX4_join 9 = .ok (.invokestatic 107, 3) := by decide +kernel
theorem dX4_join_12 : decode cX4_join 12 = .ok (.ifCond .ne 10, 3) := by decide +kernel
theorem dX4_join_15 : decode cX4_join 15 = .ok (.iload_n 3, 1) := by decide +kernel
theorem dX4_join_16 : decode cX4_join 16 = .ok (.invokestatic 107, 3) := by decide +kernel
theorem dX4_join_19 : decode cX4_join 19 = .ok (.ifCond .eq 7, 3) := by decide +kernel
theorem dX4_join_22 : decode cX4_join 22 = .ok (.iconst 1, 1) := by decide +kernel
theorem dX4_join_23 : decode cX4_join 23 = .ok (.goto 4, 3) := by decide +kernel
theorem dX4_join_26 : decode cX4_join 26 = .ok (.iconst 0, 1) := by decide +kernel
theorem dX4_join_27 : decode cX4_join 27 = .ok (.iconst 1, 1) := by decide +kernel
theorem dX4_join_28 : decode cX4_join 28 = .ok (.invokevirtual 110, 3) := by decide +kernel
theorem dX4_join_31 : decode cX4_join 31 = .ok (.ifCond .ne 36, 3) := by decide +kernel
theorem dX4_join_34 : decode cX4_join 34 = .ok (.aload_n 0, 1) := by decide +kernel
theorem dX4_join_35 : decode cX4_join 35 = .ok (.aload_n 0, 1) := by decide +kernel
theorem dX4_join_36 : decode cX4_join 36 = .ok (.getfield 72, 3) := by decide +kernel
theorem dX4_join_39 : decode cX4_join 39 = .ok (.iload_n 1, 1) := by decide +kernel
theorem dX4_join_40 : decode cX4_join 40 = .ok (.aaload, 1) := by decide +kernel
theorem dX4_join_41 : decode cX4_join 41 = .ok (.arraylength, 1) := by decide +kernel
theorem dX4_join_42 : decode cX4_join 42 = .ok (.aload_n 0, 1) := by decide +kernel
theorem dX4_join_43 : decode cX4_join 43 = .ok (.getfield 72, 3) := by decide +kernel
theorem dX4_join_46 : decode cX4_join 46 = .ok (.iload_n 2, 1) := by decide +kernel
theorem dX4_join_47 : decode cX4_join 47 = .ok (.aaload, 1) := by decide +kernel
theorem dX4_join_48 : decode cX4_join 48 = .ok (.arraylength, 1) := by decide +kernel
theorem dX4_join_49 : decode cX4_join 49 = .ok (.iadd, 1) := by decide +kernel
theorem dX4_join_50 : decode cX4_join 50 = .ok (.bipush 60, 2) := by decide +kernel
theorem dX4_join_52 : decode cX4_join 52 = .ok (.if_icmp .le 7, 3) := by decide +kernel
theorem dX4_join_55 : decode cX4_join 55 = .ok (.iconst 1, 1) := by decide +kernel
theorem dX4_join_56 : decode cX4_join 56 = .ok (.goto 4, 3) := by decide +kernel
theorem dX4_join_59 : decode cX4_join 59 = .ok (.iconst 0, 1) := by decide +kernel
theorem dX4_join_60 : decode cX4_join 60 = .ok (.iconst 2, 1) := by decide +kernel
theorem dX4_join_61 : decode cX4_join 61 = .ok (.invokevirtual 86, 3) := by decide +kernel
theorem dX4_join_64 : decode cX4_join 64 = .ok (.ifCond .eq 5, 3) := by decide +kernel
theorem dX4_join_67 : decode cX4_join 67 = .ok (.iconst 0, 1) := by decide +kernel
theorem dX4_join_68 : decode cX4_join 68 = .ok (.ireturn, 1) := by decide +kernel
theorem dX4_join_69 : decode cX4_join 69 = .ok (.aload_n 0, 1) := by decide +kernel
theorem dX4_join_70 : decode cX4_join 70 = .ok (.iload_n 3, 1) := by decide +kernel
theorem dX4_join_71 : decode cX4_join 71 = .ok (.aload_n 0, 1) := by decide +kernel
theorem dX4_join_72 : decode cX4_join 72 = .ok (.getfield 72, 3) := by decide +kernel
theorem dX4_join_75 : decode cX4_join 75 = .ok (.iload_n 1, 1) := by decide +kernel
theorem dX4_join_76 : decode cX4_join 76 = .ok (.aaload, 1) := by decide +kernel
theorem dX4_join_77 : decode cX4_join 77 = .ok (.aload_n 0, 1) := by decide +kernel
theorem dX4_join_78 : decode cX4_join 78 = .ok (.getfield 72, 3) := by decide +kernel
theorem dX4_join_81 : decode cX4_join 81 = .ok (.iload_n 2, 1) := by decide +kernel
theorem dX4_join_82 : decode cX4_join 82 = .ok (.aaload, 1) := by decide +kernel
theorem dX4_join_83 : decode cX4_join 83 = .ok (.invokestatic 103, 3) := by decide +kernel
theorem dX4_join_86 : decode cX4_join 86 = .ok (.invokevirtual 113, 3) := by decide +kernel
theorem dX4_join_89 : decode cX4_join 89 = .ok (.ireturn, 1) := by decide +kernel
theorem dX4_lay_0 : decode cX4_lay 0 = .ok (.aload_n 0, 1) := by decide +kernel
theorem dX4_lay_1 : decode cX4_lay 1 = .ok (.iload_n 1, 1) := by decide +kernel
theorem dX4_lay_2 : decode cX4_lay 2 = .ok (.invokestatic 107, 3) := by decide +kernel
theorem dX4_lay_5 : decode cX4_lay 5 = .ok (.iconst 1, 1) := by decide +kernel
theorem dX4_lay_6 : decode cX4_lay 6 = .ok (.invokevirtual 110, 3) := by decide +kernel
theorem dX4_lay_9 : decode cX4_lay 9 = .ok (.ifCond .eq 5, 3) := by decide +kernel
theorem dX4_lay_12 : decode cX4_lay 12 = .ok (.iconst 0, 1) := by decide +kernel
theorem dX4_lay_13 : decode cX4_lay 13 = .ok (.ireturn, 1) := by decide +kernel
theorem dX4_lay_14 : decode cX4_lay 14 = .ok (.aload_n 0, 1) := by decide +kernel
theorem dX4_lay_15 : decode cX4_lay 15 = .ok (.aload_n 0, 1) := by decide +kernel
theorem dX4_lay_16 : decode cX4_lay 16 = .ok (.getfield 72, 3) := by decide +kernel
theorem dX4_lay_19 : decode cX4_lay 19 = .ok (.iload_n 1, 1) := by decide +kernel
theorem dX4_lay_20 : decode cX4_lay 20 = .ok (.aaload, 1) := by decide +kernel
theorem dX4_lay_21 : decode cX4_lay 21 = .ok (.iconst 0, 1) := by decide +kernel
theorem dX4_lay_22 : decode cX4_lay 22 = .ok (.aload_n 0, 1) := by decide +kernel
theorem dX4_lay_23 : decode cX4_lay 23 = .ok (.getfield 72, 3) := by decide +kernel
theorem dX4_lay_26 : decode cX4_lay 26 = .ok (.iload_n 1, 1) := by decide +kernel
theorem dX4_lay_27 : decode cX4_lay 27 = .ok (.aaload, 1) := by decide +kernel
theorem dX4_lay_28 : decode cX4_lay 28 = .ok (.arraylength, 1) := by decide +kernel
theorem dX4_lay_29 : decode cX4_lay 29 = .ok (.invokestatic 31, 3) := by decide +kernel
theorem dX4_lay_32 : decode cX4_lay 32 = .ok (.putfield 75, 3) := by decide +kernel
theorem dX4_lay_35 : decode cX4_lay 35 = .ok (.aload_n 0, 1) := by decide +kernel
theorem dX4_lay_36 : decode cX4_lay 36 = .ok (.getfield 75, 3) := by decide +kernel
theorem dX4_lay_39 : decode cX4_lay 39 = .ok (.arraylength, 1) := by decide +kernel
theorem dX4_lay_40 : decode cX4_lay 40 = .ok (.ireturn, 1) := by decide +kernel
theorem dX4_isNoPlace_0 : decode cX4_isNoPlace 0 = .ok (.iload_n 1, 1) := by decide +kernel
theorem dX4_isNoPlace_1 : decode cX4_isNoPlace 1 = .ok (.iconst 0, 1) := by decide +kernel
theorem dX4_isNoPlace_2 : decode cX4_isNoPlace 2 = .ok (.aload_n 0, 1) := by decide +kernel
theorem dX4_isNoPlace_3 : decode cX4_isNoPlace 3 = .ok (.getfield 75, 3) := by decide +kernel
theorem dX4_isNoPlace_6 : decode cX4_isNoPlace 6 = .ok (.arraylength, 1) := by decide +kernel
theorem dX4_isNoPlace_7 : decode cX4_isNoPlace 7 = .ok (.iconst 1, 1) := by decide +kernel
theorem dX4_isNoPlace_8 : decode cX4_isNoPlace 8 = .ok (.isub, 1) := by decide +kernel
theorem dX4_isNoPlace_9 : decode cX4_isNoPlace 9 = .ok (.invokestatic 90, 3) := by decide +kernel
theorem dX4_isNoPlace_12 : decode cX4_isNoPlace 12 = .ok (.ifCond .ne 7, 3) := by decide +kernel
theorem dX4_isNoPlace_15 : decode cX4_isNoPlace 15 = .ok (.iconst 1, 1) := by decide +kernel
theorem dX4_isNoPlace_16 : decode cX4_isNoPlace 16 = .ok (.goto 4, 3) := by decide +kernel
theorem dX4_isNoPlace_19 : decode cX4_isNoPlace 19 = .ok (.iconst 0, 1) := by decide +kernel
theorem dX4_isNoPlace_20 : decode cX4_isNoPlace 20 = .ok (.ireturn, 1) := by decide +kernel
abbrev rmX4_part : Room := { frames := 3, cells := 1, slots := 61, locals := 64 }
theorem mX4_part {l : Launch} {G : Cx} {A : Nat → Prop} {am xa : Nat} {X : Nat → List Nat} {P : List (List Nat)} {k : Int32} {x f9 t9 y th : Int32} : Met l yX4_part (.code yX4_part cX4_part 5 (some .int) :: GW) rmX4_part (PC G A [.ref am, .int x, .int f9, .int t9, .int y] (MW G A am xa X P k th)) (qI A (fun r H => ((NT x ∨ NT y ∨ ¬ (∃ i a9 b9 : Nat, i < 4 ∧ x = nI i ∧ f9 = nI a9 ∧ t9 = nI b9 ∧ a9 ≤ b9 ∧ b9 ≤ (X i).length)) ∧ r = 0 ∧ MW G A am xa X P k 1 H) ∨ ∃ i j a9 b9 : Nat, i < 4 ∧ x = nI i ∧ j < 4 ∧ y = nI j ∧ f9 = nI a9 ∧ t9 = nI b9 ∧ a9 ≤ b9 ∧ b9 ≤ (X i).length ∧ r = nI (cutL (X i) a9 b9).length ∧ MW G A am xa (updT X j (cutL (X i) a9 b9)) P k 0 H)) 1 61 (A) := by
  refine mstart "SigntextModel" (by decide +kernel) rfl (Nat.le_of_ble_eq_true rfl) ?_
  intro p e s m below meth c ls hx hb hr hts hown hml hlocks hname hC hA hW hl
  have hl : lv_has ls 5 [(0, .ref am), (1, .int x), (2, .int f9), (3, .int t9), (4, .int y)] := hl
  have hK := hC.1
  have hS : va_S A s.heap s.heap [] := va_S.rf
  obtain ⟨ra, pa, tx, hW⟩ := hW
  have hO := hW.obj
  have hAm := hW.1
  refine lv_aload_n hx hb dX4_part_0 rfl (lv_at hl 0 rfl) ?_
  refine lv_iload_n hx hb dX4_part_1 rfl (lv_at hl 1 rfl) ?_
  refine kS_i (A := A) (As := [.int x]) (rest := .ref am :: []) ⟨hx, hb, hml, hown, hts⟩ (mX4_isNone (A := A) ) (va_cwS 1 hts (gS tw_4_203 tw_4_204 tw_1_8 tw_4_205) rfl rfl rfl (by decide +kernel) ⟨Nat.le_of_ble_eq_true rfl, Nat.le_of_ble_eq_true rfl⟩) hC hS hA  trivial rfl rfl hl.1 (Nat.le_of_ble_eq_true rfl) ⟨Nat.zero_le _, Nat.zero_le _⟩ dX4_part_2 (fun r_1 hr_1 => ?_)
  obtain ⟨r_1v, hr_1v, rfl⟩ := hr_1
  refine f_ne (tgt := 25) hx hb dX4_part_5 (by decide) (fun c_2 => ?_) (fun c_2 => ?_)
  · refine lv_iconst (v := nI 1) hx hb dX4_part_25 (by decide) ?_
    refine lv_goto (tgt := 30) hx hb dX4_part_26 (by decide) ?_
    refine lv_iconst (v := nI 1) hx hb dX4_part_30 (by decide) ?_
    refine qI_V (A := A) (A1 := A) (b := am) (As := [.int (bI true), .int (nI 1)]) (rest := []) ⟨hx, hb, hml, hown, hts⟩ (mX4_start (A := A) (X := X) (P := P) (k := k) (xa := xa) (b := true) (w9 := 1) (by decide)) (cwV 2 hts (gV tw_4_206 tw_4_208 sel_X4_start tw_1_8 tw_4_209) rfl rfl rfl (by decide +kernel) ⟨Nat.le_of_ble_eq_true rfl, Nat.le_of_ble_eq_true rfl⟩) hC hS (fun _ h => h) (fun q h => hA q (Nat.le_trans hS.1 h)) (hW.recv hK) ⟨ra, pa, tx, hW⟩ rfl rfl hl.1 (Nat.le_of_ble_eq_true rfl) ⟨Nat.zero_le _, Nat.zero_le _⟩ dX4_part_31 (fun rv3 H3 L3 hP3 hk3 hS => ?_)
    have hZ3 := hS.1
    obtain ⟨hr3, hM3⟩ := hP3
    subst hr3
    obtain ⟨ra, pa, tx, hW⟩ := hM3
    have hW : MWx G A am xa ra pa tx X P k (nI 1) H3 := hW
    have hO := hW.obj
    have hAm := hW.1
    refine f_ne (tgt := 61) hx hb dX4_part_34 (by decide) (fun c_4 => ?_) (fun c_4 => ?_)
    · refine lv_iconst (v := nI 0) hx hb dX4_part_61 (by decide) ?_
      exact q_i hx hb hr hlocks dX4_part_62 hS (by omega) (by omega) (Or.inl ⟨(Or.inl (hr_1v.mp c_2)), rfl, ra, pa, tx, hW⟩)
    · exact absurd c_4 (by decide)
  · obtain ⟨i, hi, rfl⟩ : ∃ i : Nat, i < 4 ∧ x = nI i := Classical.byContradiction (fun q => absurd (hr_1v.mpr q) (by rw [c_2]; decide))
    refine lv_iload hx hb dX4_part_8 (lv_at hl 4 rfl) ?_
    refine kS_i (A := A) (As := [.int y]) (rest := .ref am :: []) ⟨hx, hb, hml, hown, hts⟩ (mX4_isNone (A := A) ) (va_cwS 1 hts (gS tw_4_203 tw_4_204 tw_1_8 tw_4_205) rfl rfl rfl (by decide +kernel) ⟨Nat.le_of_ble_eq_true rfl, Nat.le_of_ble_eq_true rfl⟩) hC hS hA  trivial rfl rfl hl.1 (Nat.le_of_ble_eq_true rfl) ⟨Nat.zero_le _, Nat.zero_le _⟩ dX4_part_10 (fun r_5 hr_5 => ?_)
    obtain ⟨r_5v, hr_5v, rfl⟩ := hr_5
    refine f_ne (tgt := 25) hx hb dX4_part_13 (by decide) (fun c_6 => ?_) (fun c_6 => ?_)
    · refine lv_iconst (v := nI 1) hx hb dX4_part_25 (by decide) ?_
      refine lv_goto (tgt := 30) hx hb dX4_part_26 (by decide) ?_
      refine lv_iconst (v := nI 1) hx hb dX4_part_30 (by decide) ?_
      refine qI_V (A := A) (A1 := A) (b := am) (As := [.int (bI true), .int (nI 1)]) (rest := []) ⟨hx, hb, hml, hown, hts⟩ (mX4_start (A := A) (X := X) (P := P) (k := k) (xa := xa) (b := true) (w9 := 1) (by decide)) (cwV 2 hts (gV tw_4_206 tw_4_208 sel_X4_start tw_1_8 tw_4_209) rfl rfl rfl (by decide +kernel) ⟨Nat.le_of_ble_eq_true rfl, Nat.le_of_ble_eq_true rfl⟩) hC hS (fun _ h => h) (fun q h => hA q (Nat.le_trans hS.1 h)) (hW.recv hK) ⟨ra, pa, tx, hW⟩ rfl rfl hl.1 (Nat.le_of_ble_eq_true rfl) ⟨Nat.zero_le _, Nat.zero_le _⟩ dX4_part_31 (fun rv7 H7 L7 hP7 hk7 hS => ?_)
      have hZ7 := hS.1
      obtain ⟨hr7, hM7⟩ := hP7
      subst hr7
      obtain ⟨ra, pa, tx, hW⟩ := hM7
      have hW : MWx G A am xa ra pa tx X P k (nI 1) H7 := hW
      have hO := hW.obj
      have hAm := hW.1
      refine f_ne (tgt := 61) hx hb dX4_part_34 (by decide) (fun c_8 => ?_) (fun c_8 => ?_)
      · refine lv_iconst (v := nI 0) hx hb dX4_part_61 (by decide) ?_
        exact q_i hx hb hr hlocks dX4_part_62 hS (by omega) (by omega) (Or.inl ⟨(Or.inr (Or.inl (hr_5v.mp c_6))), rfl, ra, pa, tx, hW⟩)
      · exact absurd c_8 (by decide)
    · obtain ⟨j, hj, rfl⟩ : ∃ j : Nat, j < 4 ∧ y = nI j := Classical.byContradiction (fun q => absurd (hr_5v.mpr q) (by rw [c_6]; decide))
      refine lv_iload_n hx hb dX4_part_16 rfl (lv_at hl 2 rfl) ?_
      have x60i := hW.2.2.1 i (Or.inl (by omega))
      have i60 := x60i.2
      refine lv_if_lt (tgt := 25) hx hb dX4_part_17 (by decide) (fun c_9 => ?_) (fun c_9 => ?_)
      · refine lv_iconst (v := nI 1) hx hb dX4_part_25 (by decide) ?_
        refine lv_goto (tgt := 30) hx hb dX4_part_26 (by decide) ?_
        refine lv_iconst (v := nI 1) hx hb dX4_part_30 (by decide) ?_
        refine qI_V (A := A) (A1 := A) (b := am) (As := [.int (bI true), .int (nI 1)]) (rest := []) ⟨hx, hb, hml, hown, hts⟩ (mX4_start (A := A) (X := X) (P := P) (k := k) (xa := xa) (b := true) (w9 := 1) (by decide)) (cwV 2 hts (gV tw_4_206 tw_4_208 sel_X4_start tw_1_8 tw_4_209) rfl rfl rfl (by decide +kernel) ⟨Nat.le_of_ble_eq_true rfl, Nat.le_of_ble_eq_true rfl⟩) hC hS (fun _ h => h) (fun q h => hA q (Nat.le_trans hS.1 h)) (hW.recv hK) ⟨ra, pa, tx, hW⟩ rfl rfl hl.1 (Nat.le_of_ble_eq_true rfl) ⟨Nat.zero_le _, Nat.zero_le _⟩ dX4_part_31 (fun rv10 H10 L10 hP10 hk10 hS => ?_)
        have hZ10 := hS.1
        obtain ⟨hr10, hM10⟩ := hP10
        subst hr10
        obtain ⟨ra, pa, tx, hW⟩ := hM10
        have hW : MWx G A am xa ra pa tx X P k (nI 1) H10 := hW
        have hO := hW.obj
        have hAm := hW.1
        refine f_ne (tgt := 61) hx hb dX4_part_34 (by decide) (fun c_11 => ?_) (fun c_11 => ?_)
        · refine lv_iconst (v := nI 0) hx hb dX4_part_61 (by decide) ?_
          exact q_i hx hb hr hlocks dX4_part_62 hS (by omega) (by omega) (Or.inl ⟨(Or.inr (Or.inr (fun ⟨i9, a0, b0, w1, w2, w3, w4, w5, w6⟩ => by rw [w3] at c_9; exact nI_pos (by have w7 : i9 = i := (nI_eq (by omega) (by omega)).mp w2.symm; rw [w7] at w6; omega) c_9))), rfl, ra, pa, tx, hW⟩)
        · exact absurd c_11 (by decide)
      · obtain ⟨a9, ha31, rfl⟩ := nI_of c_9
        refine lv_iload_n hx hb dX4_part_20 rfl (lv_at hl 3 rfl) ?_
        refine lv_iload_n hx hb dX4_part_21 rfl (lv_at hl 2 rfl) ?_
        refine lv_icmp_ge (tgt := 29) hx hb dX4_part_22 (by decide) (fun c_12 => ?_) (fun c_12 => ?_)
        · have hb0 : ¬ t9 < 0 := fun q => absurd (Int32.lt_of_lt_of_le q (nI_pos' (n := a9) (by omega))) (Int32.not_lt.mpr c_12)
          obtain ⟨b9, hb31, rfl⟩ := nI_of hb0
          have hab : a9 ≤ b9 := (nI_leI (by omega) (by omega)).mp c_12
          refine lv_iconst (v := nI 0) hx hb dX4_part_29 (by decide) ?_
          refine lv_iconst (v := nI 1) hx hb dX4_part_30 (by decide) ?_
          refine qI_V (A := A) (A1 := A) (b := am) (As := [.int (bI false), .int (nI 1)]) (rest := []) ⟨hx, hb, hml, hown, hts⟩ (mX4_start (A := A) (X := X) (P := P) (k := k) (xa := xa) (b := false) (w9 := 1) (by decide)) (cwV 2 hts (gV tw_4_206 tw_4_208 sel_X4_start tw_1_8 tw_4_209) rfl rfl rfl (by decide +kernel) ⟨Nat.le_of_ble_eq_true rfl, Nat.le_of_ble_eq_true rfl⟩) hC hS (fun _ h => h) (fun q h => hA q (Nat.le_trans hS.1 h)) (hW.recv hK) ⟨ra, pa, tx, hW⟩ rfl rfl hl.1 (Nat.le_of_ble_eq_true rfl) ⟨Nat.zero_le _, Nat.zero_le _⟩ dX4_part_31 (fun rv13 H13 L13 hP13 hk13 hS => ?_)
          have hZ13 := hS.1
          obtain ⟨hr13, hM13⟩ := hP13
          subst hr13
          obtain ⟨ra, pa, tx, hW⟩ := hM13
          have hW : MWx G A am xa ra pa tx X P k (nI 0) H13 := hW
          have hO := hW.obj
          have hAm := hW.1
          refine f_ne (tgt := 61) hx hb dX4_part_34 (by decide) (fun c_14 => ?_) (fun c_14 => ?_)
          · exact absurd c_14 (by decide)
          · refine lv_aload_n hx hb dX4_part_37 rfl (lv_at hl 0 rfl) ?_
            refine lv_iload_n hx hb dX4_part_38 rfl (lv_at hl 3 rfl) ?_
            refine lv_aload_n hx hb dX4_part_39 rfl (lv_at hl 0 rfl) ?_
            refine va_get (D := G.1) (ci := 8) (C := RX4) (T := TX4) (N := 5) hx hb hts inX4 hown hK (at_P hO) 0 rfl rfl 1 (by decide) (hts _ tw_4_173) (fun _ h9 => h9) rfl dX4_part_40 ?_
            refine lv_iload_n hx hb dX4_part_43 rfl (lv_at hl 1 rfl) ?_
            refine h_aaldI (D := G.1) hx hb hK 4 hW.txs rfl (vp_in_nI (n := i) (N := 4) (by omega) (by omega)) dX4_part_44 ?_
            refine v_cv (show va_rf _ = .ref (tx i) from by rw [nI_clamp (n := i) (by omega)]; rfl) ?_
            have hTi := (hW.tx (j := i) (by omega)).ia hC.2.1.2
            have x60i := hW.2.2.1 i (Or.inl (by omega))
            refine h_ilen hx hb hC.2.1 hTi dX4_part_45 ?_
            refine b_le (tgt := 53) hx hb dX4_part_46 (by decide) (by omega) (by omega) (fun c_15 => ?_) (fun c_15 => ?_)
            · refine lv_iconst (v := nI 0) hx hb dX4_part_53 (by decide) ?_
              refine lv_iconst (v := nI 1) hx hb dX4_part_54 (by decide) ?_
              refine qI_V (A := A) (A1 := A) (b := am) (As := [.int (bI false), .int (nI 1)]) (rest := []) ⟨hx, hb, hml, hown, hts⟩ (mX4_refuse (A := A) (X := X) (P := P) (k := k) (xa := xa) (b := false) (th := 0) (w9 := 1) (by decide) (by decide)) (cwV 2 hts (gV tw_4_210 tw_4_212 sel_X4_refuse tw_1_8 tw_4_213) rfl rfl rfl (by decide +kernel) ⟨Nat.le_of_ble_eq_true rfl, Nat.le_of_ble_eq_true rfl⟩) hC hS (fun _ h => h) (fun q h => hA q (Nat.le_trans hS.1 h)) (hW.recv hK) ⟨ra, pa, tx, hW⟩ rfl rfl hl.1 (Nat.le_of_ble_eq_true rfl) ⟨Nat.zero_le _, Nat.zero_le _⟩ dX4_part_55 (fun rv16 H16 L16 hP16 hk16 hS => ?_)
              have hZ16 := hS.1
              obtain ⟨hr16, hM16⟩ := hP16
              subst hr16
              obtain ⟨ra, pa, tx, hW⟩ := hM16
              have hW : MWx G A am xa ra pa tx X P k (nI 0) H16 := hW
              have hO := hW.obj
              have hAm := hW.1
              refine f_eq (tgt := 63) hx hb dX4_part_58 (by decide) (fun c_17 => ?_) (fun c_17 => ?_)
              · refine lv_aload_n hx hb dX4_part_63 rfl (lv_at hl 0 rfl) ?_
                refine lv_iload hx hb dX4_part_64 (lv_at hl 4 rfl) ?_
                refine lv_aload_n hx hb dX4_part_66 rfl (lv_at hl 0 rfl) ?_
                refine va_get (D := G.1) (ci := 8) (C := RX4) (T := TX4) (N := 5) hx hb hts inX4 hown hK (at_P hO) 0 rfl rfl 1 (by decide) (hts _ tw_4_173) (fun _ h9 => h9) rfl dX4_part_67 ?_
                refine lv_iload_n hx hb dX4_part_70 rfl (lv_at hl 1 rfl) ?_
                refine h_aaldI (D := G.1) hx hb hK 4 hW.txs rfl (vp_in_nI (n := i) (N := 4) (by omega) (by omega)) dX4_part_71 ?_
                refine v_cv (show va_rf _ = .ref (tx i) from by rw [nI_clamp (n := i) (by omega)]; rfl) ?_
                have hTi := (hW.tx (j := i) (by omega)).ia hC.2.1.2
                have x60i := hW.2.2.1 i (Or.inl (by omega))
                refine lv_iload_n hx hb dX4_part_72 rfl (lv_at hl 2 rfl) ?_
                refine lv_iload_n hx hb dX4_part_73 rfl (lv_at hl 3 rfl) ?_
                have hra := hW.row.lt
                refine qR_S (A := A) (A1 := nw H16.size)  (As := [.ref (tx i), .int (nI a9), .int (nI b9)]) (rest := .int (nI j) :: .ref am :: []) ⟨hx, hb, hml, hown, hts⟩ (mX4_cut (A := nw H16.size) (sz := H16.size) (t := X i) (i := a9) (i2 := b9) hab c_15 (by omega)) (va_cwS 3 hts (gS tw_4_226 tw_4_227 tw_1_8 tw_4_228) rfl rfl rfl (by decide +kernel) ⟨Nat.le_of_ble_eq_true rfl, Nat.le_of_ble_eq_true rfl⟩) hC hS (nw_in hA hS.1) nw_n  ⟨rfl, hTi⟩ rfl rfl hl.1 (Nat.le_of_ble_eq_true rfl) ⟨Nat.le_trans (show 0 + 1 ≤ 1 by omega) (Nat.le_of_ble_eq_true rfl), Nat.le_trans (show 0 + 61 ≤ 61 by omega) (Nat.le_of_ble_eq_true rfl)⟩ dX4_part_74 (fun rv18 H18 L18 hP18 hk18 hS => ?_)
                have hZ18 := hS.1
                have hW := hW.nw hk18
                refine qI_V (A := A) (A1 := A) (b := am) (As := [.int (nI j), .ref rv18]) (rest := []) ⟨hx, hb, hml, hown, hts⟩ (mX4_become (A := A) (X := X) (P := P) (k := k) (xa := xa) (t := cutL (X i) a9 b9) hj ⟨okc_cut x60i.1 _ _, Nat.le_trans (cutL_le _ _ _) x60i.2⟩) (cwV 2 hts (gV tw_4_214 tw_4_216 sel_X4_become tw_1_8 tw_4_217) rfl rfl rfl (by decide +kernel) ⟨Nat.le_of_ble_eq_true rfl, Nat.le_of_ble_eq_true rfl⟩) hC hS (fun _ h => h) (fun q h => hA q (Nat.le_trans hS.1 h)) (hW.recv hK) ⟨ra, pa, tx, hW, hP18.2, (by have := hP18.1; omega)⟩ rfl rfl hl.1 (Nat.le_of_ble_eq_true rfl) ⟨Nat.le_trans (show (0 + 1) ≤ 1 by omega) (Nat.le_of_ble_eq_true rfl), Nat.le_trans (show (0 + 61) ≤ 61 by omega) (Nat.le_of_ble_eq_true rfl)⟩ dX4_part_77 (fun rv19 H19 L19 hP19 hk19 hS => ?_)
                have hZ19 := hS.1
                exact q_i hx hb hr hlocks dX4_part_80 hS (by omega) (by omega) (Or.inr (⟨i, j, a9, b9, hi, rfl, hj, rfl, rfl, rfl, hab, c_15, hP19.1, hP19.2⟩))
              · exact absurd c_17 (by decide)
            · refine lv_iconst (v := nI 1) hx hb dX4_part_49 (by decide) ?_
              refine lv_goto (tgt := 54) hx hb dX4_part_50 (by decide) ?_
              refine lv_iconst (v := nI 1) hx hb dX4_part_54 (by decide) ?_
              refine qI_V (A := A) (A1 := A) (b := am) (As := [.int (bI true), .int (nI 1)]) (rest := []) ⟨hx, hb, hml, hown, hts⟩ (mX4_refuse (A := A) (X := X) (P := P) (k := k) (xa := xa) (b := true) (th := 0) (w9 := 1) (by decide) (by decide)) (cwV 2 hts (gV tw_4_210 tw_4_212 sel_X4_refuse tw_1_8 tw_4_213) rfl rfl rfl (by decide +kernel) ⟨Nat.le_of_ble_eq_true rfl, Nat.le_of_ble_eq_true rfl⟩) hC hS (fun _ h => h) (fun q h => hA q (Nat.le_trans hS.1 h)) (hW.recv hK) ⟨ra, pa, tx, hW⟩ rfl rfl hl.1 (Nat.le_of_ble_eq_true rfl) ⟨Nat.zero_le _, Nat.zero_le _⟩ dX4_part_55 (fun rv20 H20 L20 hP20 hk20 hS => ?_)
              have hZ20 := hS.1
              obtain ⟨hr20, hM20⟩ := hP20
              subst hr20
              obtain ⟨ra, pa, tx, hW⟩ := hM20
              have hW : MWx G A am xa ra pa tx X P k (nI 1) H20 := hW
              have hO := hW.obj
              have hAm := hW.1
              refine f_eq (tgt := 63) hx hb dX4_part_58 (by decide) (fun c_21 => ?_) (fun c_21 => ?_)
              · exact absurd c_21 (by decide)
              · refine lv_iconst (v := nI 0) hx hb dX4_part_61 (by decide) ?_
                exact q_i hx hb hr hlocks dX4_part_62 hS (by omega) (by omega) (Or.inl ⟨(Or.inr (Or.inr (fun ⟨i9, a0, b0, w1, w2, w3, w4, w5, w6⟩ => by have w7 : i9 = i := (nI_eq (by omega) (by omega)).mp w2.symm; rw [w7] at w6; have w8 : b0 = b9 := (nI_eq (by omega) (by omega)).mp w4.symm; omega))), rfl, ra, pa, tx, hW⟩)
        · refine lv_iconst (v := nI 1) hx hb dX4_part_25 (by decide) ?_
          refine lv_goto (tgt := 30) hx hb dX4_part_26 (by decide) ?_
          refine lv_iconst (v := nI 1) hx hb dX4_part_30 (by decide) ?_
          refine qI_V (A := A) (A1 := A) (b := am) (As := [.int (bI true), .int (nI 1)]) (rest := []) ⟨hx, hb, hml, hown, hts⟩ (mX4_start (A := A) (X := X) (P := P) (k := k) (xa := xa) (b := true) (w9 := 1) (by decide)) (cwV 2 hts (gV tw_4_206 tw_4_208 sel_X4_start tw_1_8 tw_4_209) rfl rfl rfl (by decide +kernel) ⟨Nat.le_of_ble_eq_true rfl, Nat.le_of_ble_eq_true rfl⟩) hC hS (fun _ h => h) (fun q h => hA q (Nat.le_trans hS.1 h)) (hW.recv hK) ⟨ra, pa, tx, hW⟩ rfl rfl hl.1 (Nat.le_of_ble_eq_true rfl) ⟨Nat.zero_le _, Nat.zero_le _⟩ dX4_part_31 (fun rv22 H22 L22 hP22 hk22 hS => ?_)
          have hZ22 := hS.1
          obtain ⟨hr22, hM22⟩ := hP22
          subst hr22
          obtain ⟨ra, pa, tx, hW⟩ := hM22
          have hW : MWx G A am xa ra pa tx X P k (nI 1) H22 := hW
          have hO := hW.obj
          have hAm := hW.1
          refine f_ne (tgt := 61) hx hb dX4_part_34 (by decide) (fun c_23 => ?_) (fun c_23 => ?_)
          · refine lv_iconst (v := nI 0) hx hb dX4_part_61 (by decide) ?_
            exact q_i hx hb hr hlocks dX4_part_62 hS (by omega) (by omega) (Or.inl ⟨(Or.inr (Or.inr (fun ⟨i9, a0, b0, w1, w2, w3, w4, w5, w6⟩ => by rw [w3, w4] at c_12; exact c_12 (nI_le w5 (by have w7 : i9 = i := (nI_eq (by omega) (by omega)).mp w2.symm; rw [w7] at w6; omega))))), rfl, ra, pa, tx, hW⟩)
          · exact absurd c_23 (by decide)

abbrev rmX4_tail : Room := { frames := 3, cells := 1, slots := 61, locals := 64 }
theorem mX4_tail {l : Launch} {G : Cx} {A : Nat → Prop} {am xa : Nat} {X : Nat → List Nat} {P : List (List Nat)} {k : Int32} {x f9 y th : Int32} : Met l yX4_tail (.code yX4_tail cX4_tail 4 (some .int) :: GW) rmX4_tail (PC G A [.ref am, .int x, .int f9, .int y] (MW G A am xa X P k th)) (qI A (fun r H => ((NT x ∨ NT y ∨ ¬ (∃ i a9 : Nat, i < 4 ∧ x = nI i ∧ f9 = nI a9 ∧ a9 ≤ (X i).length)) ∧ r = 0 ∧ MW G A am xa X P k 1 H) ∨ ∃ i j a9 : Nat, i < 4 ∧ x = nI i ∧ j < 4 ∧ y = nI j ∧ f9 = nI a9 ∧ a9 ≤ (X i).length ∧ r = nI (cutL (X i) a9 (X i).length).length ∧ MW G A am xa (updT X j (cutL (X i) a9 (X i).length)) P k 0 H)) 1 61 (A) := by
  refine mstart "SigntextModel" (by decide +kernel) rfl (Nat.le_of_ble_eq_true rfl) ?_
  intro p e s m below meth c ls hx hb hr hts hown hml hlocks hname hC hA hW hl
  have hl : lv_has ls 4 [(0, .ref am), (1, .int x), (2, .int f9), (3, .int y)] := hl
  have hK := hC.1
  have hS : va_S A s.heap s.heap [] := va_S.rf
  obtain ⟨ra, pa, tx, hW⟩ := hW
  have hO := hW.obj
  have hAm := hW.1
  refine lv_aload_n hx hb dX4_tail_0 rfl (lv_at hl 0 rfl) ?_
  refine lv_iload_n hx hb dX4_tail_1 rfl (lv_at hl 1 rfl) ?_
  refine kS_i (A := A) (As := [.int x]) (rest := .ref am :: []) ⟨hx, hb, hml, hown, hts⟩ (mX4_isNone (A := A) ) (va_cwS 1 hts (gS tw_4_203 tw_4_204 tw_1_8 tw_4_205) rfl rfl rfl (by decide +kernel) ⟨Nat.le_of_ble_eq_true rfl, Nat.le_of_ble_eq_true rfl⟩) hC hS hA  trivial rfl rfl hl.1 (Nat.le_of_ble_eq_true rfl) ⟨Nat.zero_le _, Nat.zero_le _⟩ dX4_tail_2 (fun r_24 hr_24 => ?_)
  obtain ⟨r_24v, hr_24v, rfl⟩ := hr_24
  refine f_ne (tgt := 19) hx hb dX4_tail_5 (by decide) (fun c_25 => ?_) (fun c_25 => ?_)
  · refine lv_iconst (v := nI 1) hx hb dX4_tail_19 (by decide) ?_
    refine lv_goto (tgt := 24) hx hb dX4_tail_20 (by decide) ?_
    refine lv_iconst (v := nI 1) hx hb dX4_tail_24 (by decide) ?_
    refine qI_V (A := A) (A1 := A) (b := am) (As := [.int (bI true), .int (nI 1)]) (rest := []) ⟨hx, hb, hml, hown, hts⟩ (mX4_start (A := A) (X := X) (P := P) (k := k) (xa := xa) (b := true) (w9 := 1) (by decide)) (cwV 2 hts (gV tw_4_206 tw_4_208 sel_X4_start tw_1_8 tw_4_209) rfl rfl rfl (by decide +kernel) ⟨Nat.le_of_ble_eq_true rfl, Nat.le_of_ble_eq_true rfl⟩) hC hS (fun _ h => h) (fun q h => hA q (Nat.le_trans hS.1 h)) (hW.recv hK) ⟨ra, pa, tx, hW⟩ rfl rfl hl.1 (Nat.le_of_ble_eq_true rfl) ⟨Nat.zero_le _, Nat.zero_le _⟩ dX4_tail_25 (fun rv26 H26 L26 hP26 hk26 hS => ?_)
    have hZ26 := hS.1
    obtain ⟨hr26, hM26⟩ := hP26
    subst hr26
    obtain ⟨ra, pa, tx, hW⟩ := hM26
    have hW : MWx G A am xa ra pa tx X P k (nI 1) H26 := hW
    have hO := hW.obj
    have hAm := hW.1
    refine f_ne (tgt := 55) hx hb dX4_tail_28 (by decide) (fun c_27 => ?_) (fun c_27 => ?_)
    · refine lv_iconst (v := nI 0) hx hb dX4_tail_55 (by decide) ?_
      exact q_i hx hb hr hlocks dX4_tail_56 hS (by omega) (by omega) (Or.inl ⟨(Or.inl (hr_24v.mp c_25)), rfl, ra, pa, tx, hW⟩)
    · exact absurd c_27 (by decide)
  · obtain ⟨i, hi, rfl⟩ : ∃ i : Nat, i < 4 ∧ x = nI i := Classical.byContradiction (fun q => absurd (hr_24v.mpr q) (by rw [c_25]; decide))
    refine lv_iload_n hx hb dX4_tail_8 rfl (lv_at hl 3 rfl) ?_
    refine kS_i (A := A) (As := [.int y]) (rest := .ref am :: []) ⟨hx, hb, hml, hown, hts⟩ (mX4_isNone (A := A) ) (va_cwS 1 hts (gS tw_4_203 tw_4_204 tw_1_8 tw_4_205) rfl rfl rfl (by decide +kernel) ⟨Nat.le_of_ble_eq_true rfl, Nat.le_of_ble_eq_true rfl⟩) hC hS hA  trivial rfl rfl hl.1 (Nat.le_of_ble_eq_true rfl) ⟨Nat.zero_le _, Nat.zero_le _⟩ dX4_tail_9 (fun r_28 hr_28 => ?_)
    obtain ⟨r_28v, hr_28v, rfl⟩ := hr_28
    refine f_ne (tgt := 19) hx hb dX4_tail_12 (by decide) (fun c_29 => ?_) (fun c_29 => ?_)
    · refine lv_iconst (v := nI 1) hx hb dX4_tail_19 (by decide) ?_
      refine lv_goto (tgt := 24) hx hb dX4_tail_20 (by decide) ?_
      refine lv_iconst (v := nI 1) hx hb dX4_tail_24 (by decide) ?_
      refine qI_V (A := A) (A1 := A) (b := am) (As := [.int (bI true), .int (nI 1)]) (rest := []) ⟨hx, hb, hml, hown, hts⟩ (mX4_start (A := A) (X := X) (P := P) (k := k) (xa := xa) (b := true) (w9 := 1) (by decide)) (cwV 2 hts (gV tw_4_206 tw_4_208 sel_X4_start tw_1_8 tw_4_209) rfl rfl rfl (by decide +kernel) ⟨Nat.le_of_ble_eq_true rfl, Nat.le_of_ble_eq_true rfl⟩) hC hS (fun _ h => h) (fun q h => hA q (Nat.le_trans hS.1 h)) (hW.recv hK) ⟨ra, pa, tx, hW⟩ rfl rfl hl.1 (Nat.le_of_ble_eq_true rfl) ⟨Nat.zero_le _, Nat.zero_le _⟩ dX4_tail_25 (fun rv30 H30 L30 hP30 hk30 hS => ?_)
      have hZ30 := hS.1
      obtain ⟨hr30, hM30⟩ := hP30
      subst hr30
      obtain ⟨ra, pa, tx, hW⟩ := hM30
      have hW : MWx G A am xa ra pa tx X P k (nI 1) H30 := hW
      have hO := hW.obj
      have hAm := hW.1
      refine f_ne (tgt := 55) hx hb dX4_tail_28 (by decide) (fun c_31 => ?_) (fun c_31 => ?_)
      · refine lv_iconst (v := nI 0) hx hb dX4_tail_55 (by decide) ?_
        exact q_i hx hb hr hlocks dX4_tail_56 hS (by omega) (by omega) (Or.inl ⟨(Or.inr (Or.inl (hr_28v.mp c_29))), rfl, ra, pa, tx, hW⟩)
      · exact absurd c_31 (by decide)
    · obtain ⟨j, hj, rfl⟩ : ∃ j : Nat, j < 4 ∧ y = nI j := Classical.byContradiction (fun q => absurd (hr_28v.mpr q) (by rw [c_29]; decide))
      refine lv_iload_n hx hb dX4_tail_15 rfl (lv_at hl 2 rfl) ?_
      have x60i := hW.2.2.1 i (Or.inl (by omega))
      have i60 := x60i.2
      refine lv_if_ge (tgt := 23) hx hb dX4_tail_16 (by decide) (fun c_32 => ?_) (fun c_32 => ?_)
      · have hf0 : ¬ f9 < 0 := Int32.not_lt.mpr c_32
        obtain ⟨a9, ha31, rfl⟩ := nI_of hf0
        refine lv_iconst (v := nI 0) hx hb dX4_tail_23 (by decide) ?_
        refine lv_iconst (v := nI 1) hx hb dX4_tail_24 (by decide) ?_
        refine qI_V (A := A) (A1 := A) (b := am) (As := [.int (bI false), .int (nI 1)]) (rest := []) ⟨hx, hb, hml, hown, hts⟩ (mX4_start (A := A) (X := X) (P := P) (k := k) (xa := xa) (b := false) (w9 := 1) (by decide)) (cwV 2 hts (gV tw_4_206 tw_4_208 sel_X4_start tw_1_8 tw_4_209) rfl rfl rfl (by decide +kernel) ⟨Nat.le_of_ble_eq_true rfl, Nat.le_of_ble_eq_true rfl⟩) hC hS (fun _ h => h) (fun q h => hA q (Nat.le_trans hS.1 h)) (hW.recv hK) ⟨ra, pa, tx, hW⟩ rfl rfl hl.1 (Nat.le_of_ble_eq_true rfl) ⟨Nat.zero_le _, Nat.zero_le _⟩ dX4_tail_25 (fun rv33 H33 L33 hP33 hk33 hS => ?_)
        have hZ33 := hS.1
        obtain ⟨hr33, hM33⟩ := hP33
        subst hr33
        obtain ⟨ra, pa, tx, hW⟩ := hM33
        have hW : MWx G A am xa ra pa tx X P k (nI 0) H33 := hW
        have hO := hW.obj
        have hAm := hW.1
        refine f_ne (tgt := 55) hx hb dX4_tail_28 (by decide) (fun c_34 => ?_) (fun c_34 => ?_)
        · exact absurd c_34 (by decide)
        · refine lv_aload_n hx hb dX4_tail_31 rfl (lv_at hl 0 rfl) ?_
          refine lv_iload_n hx hb dX4_tail_32 rfl (lv_at hl 2 rfl) ?_
          refine lv_aload_n hx hb dX4_tail_33 rfl (lv_at hl 0 rfl) ?_
          refine va_get (D := G.1) (ci := 8) (C := RX4) (T := TX4) (N := 5) hx hb hts inX4 hown hK (at_P hO) 0 rfl rfl 1 (by decide) (hts _ tw_4_173) (fun _ h9 => h9) rfl dX4_tail_34 ?_
          refine lv_iload_n hx hb dX4_tail_37 rfl (lv_at hl 1 rfl) ?_
          refine h_aaldI (D := G.1) hx hb hK 4 hW.txs rfl (vp_in_nI (n := i) (N := 4) (by omega) (by omega)) dX4_tail_38 ?_
          refine v_cv (show va_rf _ = .ref (tx i) from by rw [nI_clamp (n := i) (by omega)]; rfl) ?_
          have hTi := (hW.tx (j := i) (by omega)).ia hC.2.1.2
          have x60i := hW.2.2.1 i (Or.inl (by omega))
          refine h_ilen hx hb hC.2.1 hTi dX4_tail_39 ?_
          refine b_le (tgt := 47) hx hb dX4_tail_40 (by decide) (by omega) (by omega) (fun c_35 => ?_) (fun c_35 => ?_)
          · refine lv_iconst (v := nI 0) hx hb dX4_tail_47 (by decide) ?_
            refine lv_iconst (v := nI 1) hx hb dX4_tail_48 (by decide) ?_
            refine qI_V (A := A) (A1 := A) (b := am) (As := [.int (bI false), .int (nI 1)]) (rest := []) ⟨hx, hb, hml, hown, hts⟩ (mX4_refuse (A := A) (X := X) (P := P) (k := k) (xa := xa) (b := false) (th := 0) (w9 := 1) (by decide) (by decide)) (cwV 2 hts (gV tw_4_210 tw_4_212 sel_X4_refuse tw_1_8 tw_4_213) rfl rfl rfl (by decide +kernel) ⟨Nat.le_of_ble_eq_true rfl, Nat.le_of_ble_eq_true rfl⟩) hC hS (fun _ h => h) (fun q h => hA q (Nat.le_trans hS.1 h)) (hW.recv hK) ⟨ra, pa, tx, hW⟩ rfl rfl hl.1 (Nat.le_of_ble_eq_true rfl) ⟨Nat.zero_le _, Nat.zero_le _⟩ dX4_tail_49 (fun rv36 H36 L36 hP36 hk36 hS => ?_)
            have hZ36 := hS.1
            obtain ⟨hr36, hM36⟩ := hP36
            subst hr36
            obtain ⟨ra, pa, tx, hW⟩ := hM36
            have hW : MWx G A am xa ra pa tx X P k (nI 0) H36 := hW
            have hO := hW.obj
            have hAm := hW.1
            refine f_eq (tgt := 57) hx hb dX4_tail_52 (by decide) (fun c_37 => ?_) (fun c_37 => ?_)
            · refine lv_aload_n hx hb dX4_tail_57 rfl (lv_at hl 0 rfl) ?_
              refine lv_iload_n hx hb dX4_tail_58 rfl (lv_at hl 3 rfl) ?_
              refine lv_aload_n hx hb dX4_tail_59 rfl (lv_at hl 0 rfl) ?_
              refine va_get (D := G.1) (ci := 8) (C := RX4) (T := TX4) (N := 5) hx hb hts inX4 hown hK (at_P hO) 0 rfl rfl 1 (by decide) (hts _ tw_4_173) (fun _ h9 => h9) rfl dX4_tail_60 ?_
              refine lv_iload_n hx hb dX4_tail_63 rfl (lv_at hl 1 rfl) ?_
              refine h_aaldI (D := G.1) hx hb hK 4 hW.txs rfl (vp_in_nI (n := i) (N := 4) (by omega) (by omega)) dX4_tail_64 ?_
              refine v_cv (show va_rf _ = .ref (tx i) from by rw [nI_clamp (n := i) (by omega)]; rfl) ?_
              have hTi := (hW.tx (j := i) (by omega)).ia hC.2.1.2
              have x60i := hW.2.2.1 i (Or.inl (by omega))
              refine lv_iload_n hx hb dX4_tail_65 rfl (lv_at hl 2 rfl) ?_
              refine lv_aload_n hx hb dX4_tail_66 rfl (lv_at hl 0 rfl) ?_
              refine va_get (D := G.1) (ci := 8) (C := RX4) (T := TX4) (N := 5) hx hb hts inX4 hown hK (at_P hO) 0 rfl rfl 1 (by decide) (hts _ tw_4_173) (fun _ h9 => h9) rfl dX4_tail_67 ?_
              refine lv_iload_n hx hb dX4_tail_70 rfl (lv_at hl 1 rfl) ?_
              refine h_aaldI (D := G.1) hx hb hK 4 hW.txs rfl (vp_in_nI (n := i) (N := 4) (by omega) (by omega)) dX4_tail_71 ?_
              refine v_cv (show va_rf _ = .ref (tx i) from by rw [nI_clamp (n := i) (by omega)]; rfl) ?_
              refine h_ilen hx hb hC.2.1 hTi dX4_tail_72 ?_
              have hra := hW.row.lt
              refine qR_S (A := A) (A1 := nw H36.size)  (As := [.ref (tx i), .int (nI a9), .int (nI ((X i).length))]) (rest := .int (nI j) :: .ref am :: []) ⟨hx, hb, hml, hown, hts⟩ (mX4_cut (A := nw H36.size) (sz := H36.size) (t := X i) (i := a9) (i2 := (X i).length) c_35 (Nat.le_refl _) (by omega)) (va_cwS 3 hts (gS tw_4_226 tw_4_227 tw_1_8 tw_4_228) rfl rfl rfl (by decide +kernel) ⟨Nat.le_of_ble_eq_true rfl, Nat.le_of_ble_eq_true rfl⟩) hC hS (nw_in hA hS.1) nw_n  ⟨rfl, hTi⟩ rfl rfl hl.1 (Nat.le_of_ble_eq_true rfl) ⟨Nat.le_trans (show 0 + 1 ≤ 1 by omega) (Nat.le_of_ble_eq_true rfl), Nat.le_trans (show 0 + 61 ≤ 61 by omega) (Nat.le_of_ble_eq_true rfl)⟩ dX4_tail_73 (fun rv38 H38 L38 hP38 hk38 hS => ?_)
              have hZ38 := hS.1
              have hW := hW.nw hk38
              refine qI_V (A := A) (A1 := A) (b := am) (As := [.int (nI j), .ref rv38]) (rest := []) ⟨hx, hb, hml, hown, hts⟩ (mX4_become (A := A) (X := X) (P := P) (k := k) (xa := xa) (t := cutL (X i) a9 (X i).length) hj ⟨okc_cut x60i.1 _ _, Nat.le_trans (cutL_le _ _ _) x60i.2⟩) (cwV 2 hts (gV tw_4_214 tw_4_216 sel_X4_become tw_1_8 tw_4_217) rfl rfl rfl (by decide +kernel) ⟨Nat.le_of_ble_eq_true rfl, Nat.le_of_ble_eq_true rfl⟩) hC hS (fun _ h => h) (fun q h => hA q (Nat.le_trans hS.1 h)) (hW.recv hK) ⟨ra, pa, tx, hW, hP38.2, (by have := hP38.1; omega)⟩ rfl rfl hl.1 (Nat.le_of_ble_eq_true rfl) ⟨Nat.le_trans (show (0 + 1) ≤ 1 by omega) (Nat.le_of_ble_eq_true rfl), Nat.le_trans (show (0 + 61) ≤ 61 by omega) (Nat.le_of_ble_eq_true rfl)⟩ dX4_tail_76 (fun rv39 H39 L39 hP39 hk39 hS => ?_)
              have hZ39 := hS.1
              exact q_i hx hb hr hlocks dX4_tail_79 hS (by omega) (by omega) (Or.inr (⟨i, j, a9, hi, rfl, hj, rfl, rfl, c_35, hP39.1, hP39.2⟩))
            · exact absurd c_37 (by decide)
          · refine lv_iconst (v := nI 1) hx hb dX4_tail_43 (by decide) ?_
            refine lv_goto (tgt := 48) hx hb dX4_tail_44 (by decide) ?_
            refine lv_iconst (v := nI 1) hx hb dX4_tail_48 (by decide) ?_
            refine qI_V (A := A) (A1 := A) (b := am) (As := [.int (bI true), .int (nI 1)]) (rest := []) ⟨hx, hb, hml, hown, hts⟩ (mX4_refuse (A := A) (X := X) (P := P) (k := k) (xa := xa) (b := true) (th := 0) (w9 := 1) (by decide) (by decide)) (cwV 2 hts (gV tw_4_210 tw_4_212 sel_X4_refuse tw_1_8 tw_4_213) rfl rfl rfl (by decide +kernel) ⟨Nat.le_of_ble_eq_true rfl, Nat.le_of_ble_eq_true rfl⟩) hC hS (fun _ h => h) (fun q h => hA q (Nat.le_trans hS.1 h)) (hW.recv hK) ⟨ra, pa, tx, hW⟩ rfl rfl hl.1 (Nat.le_of_ble_eq_true rfl) ⟨Nat.zero_le _, Nat.zero_le _⟩ dX4_tail_49 (fun rv40 H40 L40 hP40 hk40 hS => ?_)
            have hZ40 := hS.1
            obtain ⟨hr40, hM40⟩ := hP40
            subst hr40
            obtain ⟨ra, pa, tx, hW⟩ := hM40
            have hW : MWx G A am xa ra pa tx X P k (nI 1) H40 := hW
            have hO := hW.obj
            have hAm := hW.1
            refine f_eq (tgt := 57) hx hb dX4_tail_52 (by decide) (fun c_41 => ?_) (fun c_41 => ?_)
            · exact absurd c_41 (by decide)
            · refine lv_iconst (v := nI 0) hx hb dX4_tail_55 (by decide) ?_
              exact q_i hx hb hr hlocks dX4_tail_56 hS (by omega) (by omega) (Or.inl ⟨(Or.inr (Or.inr (fun ⟨i9, a0, w1, w2, w3, w6⟩ => by have w7 : i9 = i := (nI_eq (by omega) (by omega)).mp w2.symm; rw [w7] at w6; have w8 : a0 = a9 := (nI_eq (by omega) (by omega)).mp w3.symm; omega))), rfl, ra, pa, tx, hW⟩)
      · refine lv_iconst (v := nI 1) hx hb dX4_tail_19 (by decide) ?_
        refine lv_goto (tgt := 24) hx hb dX4_tail_20 (by decide) ?_
        refine lv_iconst (v := nI 1) hx hb dX4_tail_24 (by decide) ?_
        refine qI_V (A := A) (A1 := A) (b := am) (As := [.int (bI true), .int (nI 1)]) (rest := []) ⟨hx, hb, hml, hown, hts⟩ (mX4_start (A := A) (X := X) (P := P) (k := k) (xa := xa) (b := true) (w9 := 1) (by decide)) (cwV 2 hts (gV tw_4_206 tw_4_208 sel_X4_start tw_1_8 tw_4_209) rfl rfl rfl (by decide +kernel) ⟨Nat.le_of_ble_eq_true rfl, Nat.le_of_ble_eq_true rfl⟩) hC hS (fun _ h => h) (fun q h => hA q (Nat.le_trans hS.1 h)) (hW.recv hK) ⟨ra, pa, tx, hW⟩ rfl rfl hl.1 (Nat.le_of_ble_eq_true rfl) ⟨Nat.zero_le _, Nat.zero_le _⟩ dX4_tail_25 (fun rv42 H42 L42 hP42 hk42 hS => ?_)
        have hZ42 := hS.1
        obtain ⟨hr42, hM42⟩ := hP42
        subst hr42
        obtain ⟨ra, pa, tx, hW⟩ := hM42
        have hW : MWx G A am xa ra pa tx X P k (nI 1) H42 := hW
        have hO := hW.obj
        have hAm := hW.1
        refine f_ne (tgt := 55) hx hb dX4_tail_28 (by decide) (fun c_43 => ?_) (fun c_43 => ?_)
        · refine lv_iconst (v := nI 0) hx hb dX4_tail_55 (by decide) ?_
          exact q_i hx hb hr hlocks dX4_tail_56 hS (by omega) (by omega) (Or.inl ⟨(Or.inr (Or.inr (fun ⟨i9, a0, w1, w2, w3, w6⟩ => by rw [w3] at c_32; exact c_32 (nI_pos' (by have w7 : i9 = i := (nI_eq (by omega) (by omega)).mp w2.symm; rw [w7] at w6; omega))))), rfl, ra, pa, tx, hW⟩)
        · exact absurd c_43 (by decide)

abbrev rmX4_join : Room := { frames := 3, cells := 1, slots := 61, locals := 64 }
theorem mX4_join {l : Launch} {G : Cx} {A : Nat → Prop} {am xa : Nat} {X : Nat → List Nat} {P : List (List Nat)} {k : Int32} {x y z th : Int32} : Met l yX4_join (.code yX4_join cX4_join 4 (some .int) :: GW) rmX4_join (PC G A [.ref am, .int x, .int y, .int z] (MW G A am xa X P k th)) (qI A (fun r H => ((NT x ∨ NT y ∨ NT z) ∧ r = 0 ∧ MW G A am xa X P k 1 H) ∨ ((∃ i j q : Nat, i < 4 ∧ x = nI i ∧ j < 4 ∧ y = nI j ∧ q < 4 ∧ z = nI q ∧ 60 < (X i ++ X j).length) ∧ r = 0 ∧ MW G A am xa X P k 2 H) ∨ ∃ i j q : Nat, i < 4 ∧ x = nI i ∧ j < 4 ∧ y = nI j ∧ q < 4 ∧ z = nI q ∧ (X i ++ X j).length ≤ 60 ∧ r = nI (X i ++ X j).length ∧ MW G A am xa (updT X q (X i ++ X j)) P k 0 H)) 1 61 (A) := by
  refine mstart "SigntextModel" (by decide +kernel) rfl (Nat.le_of_ble_eq_true rfl) ?_
  intro p e s m below meth c ls hx hb hr hts hown hml hlocks hname hC hA hW hl
  have hl : lv_has ls 4 [(0, .ref am), (1, .int x), (2, .int y), (3, .int z)] := hl
  have hK := hC.1
  have hS : va_S A s.heap s.heap [] := va_S.rf
  obtain ⟨ra, pa, tx, hW⟩ := hW
  have hO := hW.obj
  have hAm := hW.1
  refine lv_aload_n hx hb dX4_join_0 rfl (lv_at hl 0 rfl) ?_
  refine lv_iload_n hx hb dX4_join_1 rfl (lv_at hl 1 rfl) ?_
  refine kS_i (A := A) (As := [.int x]) (rest := .ref am :: []) ⟨hx, hb, hml, hown, hts⟩ (mX4_isNone (A := A) ) (va_cwS 1 hts (gS tw_4_203 tw_4_204 tw_1_8 tw_4_205) rfl rfl rfl (by decide +kernel) ⟨Nat.le_of_ble_eq_true rfl, Nat.le_of_ble_eq_true rfl⟩) hC hS hA  trivial rfl rfl hl.1 (Nat.le_of_ble_eq_true rfl) ⟨Nat.zero_le _, Nat.zero_le _⟩ dX4_join_2 (fun r_44 hr_44 => ?_)
  obtain ⟨r_44v, hr_44v, rfl⟩ := hr_44
  refine f_ne (tgt := 22) hx hb dX4_join_5 (by decide) (fun c_45 => ?_) (fun c_45 => ?_)
  · refine lv_iconst (v := nI 1) hx hb dX4_join_22 (by decide) ?_
    refine lv_goto (tgt := 27) hx hb dX4_join_23 (by decide) ?_
    refine lv_iconst (v := nI 1) hx hb dX4_join_27 (by decide) ?_
    refine qI_V (A := A) (A1 := A) (b := am) (As := [.int (bI true), .int (nI 1)]) (rest := []) ⟨hx, hb, hml, hown, hts⟩ (mX4_start (A := A) (X := X) (P := P) (k := k) (xa := xa) (b := true) (w9 := 1) (by decide)) (cwV 2 hts (gV tw_4_206 tw_4_208 sel_X4_start tw_1_8 tw_4_209) rfl rfl rfl (by decide +kernel) ⟨Nat.le_of_ble_eq_true rfl, Nat.le_of_ble_eq_true rfl⟩) hC hS (fun _ h => h) (fun q h => hA q (Nat.le_trans hS.1 h)) (hW.recv hK) ⟨ra, pa, tx, hW⟩ rfl rfl hl.1 (Nat.le_of_ble_eq_true rfl) ⟨Nat.zero_le _, Nat.zero_le _⟩ dX4_join_28 (fun rv46 H46 L46 hP46 hk46 hS => ?_)
    have hZ46 := hS.1
    obtain ⟨hr46, hM46⟩ := hP46
    subst hr46
    obtain ⟨ra, pa, tx, hW⟩ := hM46
    have hW : MWx G A am xa ra pa tx X P k (nI 1) H46 := hW
    have hO := hW.obj
    have hAm := hW.1
    refine f_ne (tgt := 67) hx hb dX4_join_31 (by decide) (fun c_47 => ?_) (fun c_47 => ?_)
    · refine lv_iconst (v := nI 0) hx hb dX4_join_67 (by decide) ?_
      exact q_i hx hb hr hlocks dX4_join_68 hS (by omega) (by omega) (Or.inl ⟨(Or.inl (hr_44v.mp c_45)), rfl, ra, pa, tx, hW⟩)
    · exact absurd c_47 (by decide)
  · obtain ⟨i, hi, rfl⟩ : ∃ i : Nat, i < 4 ∧ x = nI i := Classical.byContradiction (fun q => absurd (hr_44v.mpr q) (by rw [c_45]; decide))
    refine lv_iload_n hx hb dX4_join_8 rfl (lv_at hl 2 rfl) ?_
    refine kS_i (A := A) (As := [.int y]) (rest := .ref am :: []) ⟨hx, hb, hml, hown, hts⟩ (mX4_isNone (A := A) ) (va_cwS 1 hts (gS tw_4_203 tw_4_204 tw_1_8 tw_4_205) rfl rfl rfl (by decide +kernel) ⟨Nat.le_of_ble_eq_true rfl, Nat.le_of_ble_eq_true rfl⟩) hC hS hA  trivial rfl rfl hl.1 (Nat.le_of_ble_eq_true rfl) ⟨Nat.zero_le _, Nat.zero_le _⟩ dX4_join_9 (fun r_48 hr_48 => ?_)
    obtain ⟨r_48v, hr_48v, rfl⟩ := hr_48
    refine f_ne (tgt := 22) hx hb dX4_join_12 (by decide) (fun c_49 => ?_) (fun c_49 => ?_)
    · refine lv_iconst (v := nI 1) hx hb dX4_join_22 (by decide) ?_
      refine lv_goto (tgt := 27) hx hb dX4_join_23 (by decide) ?_
      refine lv_iconst (v := nI 1) hx hb dX4_join_27 (by decide) ?_
      refine qI_V (A := A) (A1 := A) (b := am) (As := [.int (bI true), .int (nI 1)]) (rest := []) ⟨hx, hb, hml, hown, hts⟩ (mX4_start (A := A) (X := X) (P := P) (k := k) (xa := xa) (b := true) (w9 := 1) (by decide)) (cwV 2 hts (gV tw_4_206 tw_4_208 sel_X4_start tw_1_8 tw_4_209) rfl rfl rfl (by decide +kernel) ⟨Nat.le_of_ble_eq_true rfl, Nat.le_of_ble_eq_true rfl⟩) hC hS (fun _ h => h) (fun q h => hA q (Nat.le_trans hS.1 h)) (hW.recv hK) ⟨ra, pa, tx, hW⟩ rfl rfl hl.1 (Nat.le_of_ble_eq_true rfl) ⟨Nat.zero_le _, Nat.zero_le _⟩ dX4_join_28 (fun rv50 H50 L50 hP50 hk50 hS => ?_)
      have hZ50 := hS.1
      obtain ⟨hr50, hM50⟩ := hP50
      subst hr50
      obtain ⟨ra, pa, tx, hW⟩ := hM50
      have hW : MWx G A am xa ra pa tx X P k (nI 1) H50 := hW
      have hO := hW.obj
      have hAm := hW.1
      refine f_ne (tgt := 67) hx hb dX4_join_31 (by decide) (fun c_51 => ?_) (fun c_51 => ?_)
      · refine lv_iconst (v := nI 0) hx hb dX4_join_67 (by decide) ?_
        exact q_i hx hb hr hlocks dX4_join_68 hS (by omega) (by omega) (Or.inl ⟨(Or.inr (Or.inl (hr_48v.mp c_49))), rfl, ra, pa, tx, hW⟩)
      · exact absurd c_51 (by decide)
    · obtain ⟨j, hj, rfl⟩ : ∃ j : Nat, j < 4 ∧ y = nI j := Classical.byContradiction (fun q => absurd (hr_48v.mpr q) (by rw [c_49]; decide))
      refine lv_iload_n hx hb dX4_join_15 rfl (lv_at hl 3 rfl) ?_
      refine kS_i (A := A) (As := [.int z]) (rest := .ref am :: []) ⟨hx, hb, hml, hown, hts⟩ (mX4_isNone (A := A) ) (va_cwS 1 hts (gS tw_4_203 tw_4_204 tw_1_8 tw_4_205) rfl rfl rfl (by decide +kernel) ⟨Nat.le_of_ble_eq_true rfl, Nat.le_of_ble_eq_true rfl⟩) hC hS hA  trivial rfl rfl hl.1 (Nat.le_of_ble_eq_true rfl) ⟨Nat.zero_le _, Nat.zero_le _⟩ dX4_join_16 (fun r_52 hr_52 => ?_)
      obtain ⟨r_52v, hr_52v, rfl⟩ := hr_52
      refine f_eq (tgt := 26) hx hb dX4_join_19 (by decide) (fun c_53 => ?_) (fun c_53 => ?_)
      · obtain ⟨q, hq, rfl⟩ : ∃ q : Nat, q < 4 ∧ z = nI q := Classical.byContradiction (fun q => absurd (hr_52v.mpr q) (by rw [c_53]; decide))
        refine lv_iconst (v := nI 0) hx hb dX4_join_26 (by decide) ?_
        refine lv_iconst (v := nI 1) hx hb dX4_join_27 (by decide) ?_
        refine qI_V (A := A) (A1 := A) (b := am) (As := [.int (bI false), .int (nI 1)]) (rest := []) ⟨hx, hb, hml, hown, hts⟩ (mX4_start (A := A) (X := X) (P := P) (k := k) (xa := xa) (b := false) (w9 := 1) (by decide)) (cwV 2 hts (gV tw_4_206 tw_4_208 sel_X4_start tw_1_8 tw_4_209) rfl rfl rfl (by decide +kernel) ⟨Nat.le_of_ble_eq_true rfl, Nat.le_of_ble_eq_true rfl⟩) hC hS (fun _ h => h) (fun q h => hA q (Nat.le_trans hS.1 h)) (hW.recv hK) ⟨ra, pa, tx, hW⟩ rfl rfl hl.1 (Nat.le_of_ble_eq_true rfl) ⟨Nat.zero_le _, Nat.zero_le _⟩ dX4_join_28 (fun rv54 H54 L54 hP54 hk54 hS => ?_)
        have hZ54 := hS.1
        obtain ⟨hr54, hM54⟩ := hP54
        subst hr54
        obtain ⟨ra, pa, tx, hW⟩ := hM54
        have hW : MWx G A am xa ra pa tx X P k (nI 0) H54 := hW
        have hO := hW.obj
        have hAm := hW.1
        refine f_ne (tgt := 67) hx hb dX4_join_31 (by decide) (fun c_55 => ?_) (fun c_55 => ?_)
        · exact absurd c_55 (by decide)
        · refine lv_aload_n hx hb dX4_join_34 rfl (lv_at hl 0 rfl) ?_
          refine lv_aload_n hx hb dX4_join_35 rfl (lv_at hl 0 rfl) ?_
          refine va_get (D := G.1) (ci := 8) (C := RX4) (T := TX4) (N := 5) hx hb hts inX4 hown hK (at_P hO) 0 rfl rfl 1 (by decide) (hts _ tw_4_173) (fun _ h9 => h9) rfl dX4_join_36 ?_
          refine lv_iload_n hx hb dX4_join_39 rfl (lv_at hl 1 rfl) ?_
          refine h_aaldI (D := G.1) hx hb hK 4 hW.txs rfl (vp_in_nI (n := i) (N := 4) (by omega) (by omega)) dX4_join_40 ?_
          refine v_cv (show va_rf _ = .ref (tx i) from by rw [nI_clamp (n := i) (by omega)]; rfl) ?_
          have hTi := (hW.tx (j := i) (by omega)).ia hC.2.1.2
          have x60i := hW.2.2.1 i (Or.inl (by omega))
          refine h_ilen hx hb hC.2.1 hTi dX4_join_41 ?_
          refine lv_aload_n hx hb dX4_join_42 rfl (lv_at hl 0 rfl) ?_
          refine va_get (D := G.1) (ci := 8) (C := RX4) (T := TX4) (N := 5) hx hb hts inX4 hown hK (at_P hO) 0 rfl rfl 1 (by decide) (hts _ tw_4_173) (fun _ h9 => h9) rfl dX4_join_43 ?_
          refine lv_iload_n hx hb dX4_join_46 rfl (lv_at hl 2 rfl) ?_
          refine h_aaldI (D := G.1) hx hb hK 4 hW.txs rfl (vp_in_nI (n := j) (N := 4) (by omega) (by omega)) dX4_join_47 ?_
          refine v_cv (show va_rf _ = .ref (tx j) from by rw [nI_clamp (n := j) (by omega)]; rfl) ?_
          have hTj := (hW.tx (j := j) (by omega)).ia hC.2.1.2
          have x60j := hW.2.2.1 j (Or.inl (by omega))
          have i60 := x60i.2
          have j60 := x60j.2
          have la := List.length_append (as := X i) (bs := X j)
          refine h_ilen hx hb hC.2.1 hTj dX4_join_48 ?_
          refine lv_iadd hx hb dX4_join_49 ?_
          refine lv_cv (nI_add ((X i).length) ((X j).length)) ?_
          refine lv_bipush (v := nI 60) hx hb dX4_join_50 (by decide) ?_
          refine b_le (tgt := 59) hx hb dX4_join_52 (by decide) (by omega) (by omega) (fun c_56 => ?_) (fun c_56 => ?_)
          · refine lv_iconst (v := nI 0) hx hb dX4_join_59 (by decide) ?_
            refine lv_iconst (v := nI 2) hx hb dX4_join_60 (by decide) ?_
            refine qI_V (A := A) (A1 := A) (b := am) (As := [.int (bI false), .int (nI 2)]) (rest := []) ⟨hx, hb, hml, hown, hts⟩ (mX4_refuse (A := A) (X := X) (P := P) (k := k) (xa := xa) (b := false) (th := 0) (w9 := 2) (by decide) (by decide)) (cwV 2 hts (gV tw_4_210 tw_4_212 sel_X4_refuse tw_1_8 tw_4_213) rfl rfl rfl (by decide +kernel) ⟨Nat.le_of_ble_eq_true rfl, Nat.le_of_ble_eq_true rfl⟩) hC hS (fun _ h => h) (fun q h => hA q (Nat.le_trans hS.1 h)) (hW.recv hK) ⟨ra, pa, tx, hW⟩ rfl rfl hl.1 (Nat.le_of_ble_eq_true rfl) ⟨Nat.zero_le _, Nat.zero_le _⟩ dX4_join_61 (fun rv57 H57 L57 hP57 hk57 hS => ?_)
            have hZ57 := hS.1
            obtain ⟨hr57, hM57⟩ := hP57
            subst hr57
            obtain ⟨ra, pa, tx, hW⟩ := hM57
            have hW : MWx G A am xa ra pa tx X P k (nI 0) H57 := hW
            have hO := hW.obj
            have hAm := hW.1
            refine f_eq (tgt := 69) hx hb dX4_join_64 (by decide) (fun c_58 => ?_) (fun c_58 => ?_)
            · refine lv_aload_n hx hb dX4_join_69 rfl (lv_at hl 0 rfl) ?_
              refine lv_iload_n hx hb dX4_join_70 rfl (lv_at hl 3 rfl) ?_
              refine lv_aload_n hx hb dX4_join_71 rfl (lv_at hl 0 rfl) ?_
              refine va_get (D := G.1) (ci := 8) (C := RX4) (T := TX4) (N := 5) hx hb hts inX4 hown hK (at_P hO) 0 rfl rfl 1 (by decide) (hts _ tw_4_173) (fun _ h9 => h9) rfl dX4_join_72 ?_
              refine lv_iload_n hx hb dX4_join_75 rfl (lv_at hl 1 rfl) ?_
              refine h_aaldI (D := G.1) hx hb hK 4 hW.txs rfl (vp_in_nI (n := i) (N := 4) (by omega) (by omega)) dX4_join_76 ?_
              refine v_cv (show va_rf _ = .ref (tx i) from by rw [nI_clamp (n := i) (by omega)]; rfl) ?_
              have hTi := (hW.tx (j := i) (by omega)).ia hC.2.1.2
              have x60i := hW.2.2.1 i (Or.inl (by omega))
              refine lv_aload_n hx hb dX4_join_77 rfl (lv_at hl 0 rfl) ?_
              refine va_get (D := G.1) (ci := 8) (C := RX4) (T := TX4) (N := 5) hx hb hts inX4 hown hK (at_P hO) 0 rfl rfl 1 (by decide) (hts _ tw_4_173) (fun _ h9 => h9) rfl dX4_join_78 ?_
              refine lv_iload_n hx hb dX4_join_81 rfl (lv_at hl 2 rfl) ?_
              refine h_aaldI (D := G.1) hx hb hK 4 hW.txs rfl (vp_in_nI (n := j) (N := 4) (by omega) (by omega)) dX4_join_82 ?_
              refine v_cv (show va_rf _ = .ref (tx j) from by rw [nI_clamp (n := j) (by omega)]; rfl) ?_
              have hTj := (hW.tx (j := j) (by omega)).ia hC.2.1.2
              have x60j := hW.2.2.1 j (Or.inl (by omega))
              have hra := hW.row.lt
              refine qR_S (A := A) (A1 := nw H57.size)  (As := [.ref (tx i), .ref (tx j)]) (rest := .int (nI q) :: .ref am :: []) ⟨hx, hb, hml, hown, hts⟩ (mX4_joined (A := nw H57.size) (sz := H57.size) (t := X i) (u := X j) (by omega)) (va_cwS 2 hts (gS tw_4_200 tw_4_201 tw_1_8 tw_4_202) rfl rfl rfl (by decide +kernel) ⟨Nat.le_of_ble_eq_true rfl, Nat.le_of_ble_eq_true rfl⟩) hC hS (nw_in hA hS.1) nw_n  ⟨rfl, hTi, hTj⟩ rfl rfl hl.1 (Nat.le_of_ble_eq_true rfl) ⟨Nat.le_trans (show 0 + 1 ≤ 1 by omega) (Nat.le_of_ble_eq_true rfl), Nat.le_trans (show 0 + 61 ≤ 61 by omega) (Nat.le_of_ble_eq_true rfl)⟩ dX4_join_83 (fun rv59 H59 L59 hP59 hk59 hS => ?_)
              have hZ59 := hS.1
              have hW := hW.nw hk59
              refine qI_V (A := A) (A1 := A) (b := am) (As := [.int (nI q), .ref rv59]) (rest := []) ⟨hx, hb, hml, hown, hts⟩ (mX4_become (A := A) (X := X) (P := P) (k := k) (xa := xa) (t := X i ++ X j) hq ⟨okc_app x60i.1 x60j.1, by omega⟩) (cwV 2 hts (gV tw_4_214 tw_4_216 sel_X4_become tw_1_8 tw_4_217) rfl rfl rfl (by decide +kernel) ⟨Nat.le_of_ble_eq_true rfl, Nat.le_of_ble_eq_true rfl⟩) hC hS (fun _ h => h) (fun q h => hA q (Nat.le_trans hS.1 h)) (hW.recv hK) ⟨ra, pa, tx, hW, hP59.2, (by have := hP59.1; omega)⟩ rfl rfl hl.1 (Nat.le_of_ble_eq_true rfl) ⟨Nat.le_trans (show (0 + 1) ≤ 1 by omega) (Nat.le_of_ble_eq_true rfl), Nat.le_trans (show (0 + 61) ≤ 61 by omega) (Nat.le_of_ble_eq_true rfl)⟩ dX4_join_86 (fun rv60 H60 L60 hP60 hk60 hS => ?_)
              have hZ60 := hS.1
              exact q_i hx hb hr hlocks dX4_join_89 hS (by omega) (by omega) (Or.inr (Or.inr (⟨i, j, q, hi, rfl, hj, rfl, hq, rfl, by omega, hP60.1, hP60.2⟩)))
            · exact absurd c_58 (by decide)
          · refine lv_iconst (v := nI 1) hx hb dX4_join_55 (by decide) ?_
            refine lv_goto (tgt := 60) hx hb dX4_join_56 (by decide) ?_
            refine lv_iconst (v := nI 2) hx hb dX4_join_60 (by decide) ?_
            refine qI_V (A := A) (A1 := A) (b := am) (As := [.int (bI true), .int (nI 2)]) (rest := []) ⟨hx, hb, hml, hown, hts⟩ (mX4_refuse (A := A) (X := X) (P := P) (k := k) (xa := xa) (b := true) (th := 0) (w9 := 2) (by decide) (by decide)) (cwV 2 hts (gV tw_4_210 tw_4_212 sel_X4_refuse tw_1_8 tw_4_213) rfl rfl rfl (by decide +kernel) ⟨Nat.le_of_ble_eq_true rfl, Nat.le_of_ble_eq_true rfl⟩) hC hS (fun _ h => h) (fun q h => hA q (Nat.le_trans hS.1 h)) (hW.recv hK) ⟨ra, pa, tx, hW⟩ rfl rfl hl.1 (Nat.le_of_ble_eq_true rfl) ⟨Nat.zero_le _, Nat.zero_le _⟩ dX4_join_61 (fun rv61 H61 L61 hP61 hk61 hS => ?_)
            have hZ61 := hS.1
            obtain ⟨hr61, hM61⟩ := hP61
            subst hr61
            obtain ⟨ra, pa, tx, hW⟩ := hM61
            have hW : MWx G A am xa ra pa tx X P k (nI 2) H61 := hW
            have hO := hW.obj
            have hAm := hW.1
            refine f_eq (tgt := 69) hx hb dX4_join_64 (by decide) (fun c_62 => ?_) (fun c_62 => ?_)
            · exact absurd c_62 (by decide)
            · refine lv_iconst (v := nI 0) hx hb dX4_join_67 (by decide) ?_
              exact q_i hx hb hr hlocks dX4_join_68 hS (by omega) (by omega) (Or.inr (Or.inl ⟨⟨i, j, q, hi, rfl, hj, rfl, hq, rfl, by omega⟩, rfl, ra, pa, tx, hW⟩))
      · refine lv_iconst (v := nI 1) hx hb dX4_join_22 (by decide) ?_
        refine lv_goto (tgt := 27) hx hb dX4_join_23 (by decide) ?_
        refine lv_iconst (v := nI 1) hx hb dX4_join_27 (by decide) ?_
        refine qI_V (A := A) (A1 := A) (b := am) (As := [.int (bI true), .int (nI 1)]) (rest := []) ⟨hx, hb, hml, hown, hts⟩ (mX4_start (A := A) (X := X) (P := P) (k := k) (xa := xa) (b := true) (w9 := 1) (by decide)) (cwV 2 hts (gV tw_4_206 tw_4_208 sel_X4_start tw_1_8 tw_4_209) rfl rfl rfl (by decide +kernel) ⟨Nat.le_of_ble_eq_true rfl, Nat.le_of_ble_eq_true rfl⟩) hC hS (fun _ h => h) (fun q h => hA q (Nat.le_trans hS.1 h)) (hW.recv hK) ⟨ra, pa, tx, hW⟩ rfl rfl hl.1 (Nat.le_of_ble_eq_true rfl) ⟨Nat.zero_le _, Nat.zero_le _⟩ dX4_join_28 (fun rv63 H63 L63 hP63 hk63 hS => ?_)
        have hZ63 := hS.1
        obtain ⟨hr63, hM63⟩ := hP63
        subst hr63
        obtain ⟨ra, pa, tx, hW⟩ := hM63
        have hW : MWx G A am xa ra pa tx X P k (nI 1) H63 := hW
        have hO := hW.obj
        have hAm := hW.1
        refine f_ne (tgt := 67) hx hb dX4_join_31 (by decide) (fun c_64 => ?_) (fun c_64 => ?_)
        · refine lv_iconst (v := nI 0) hx hb dX4_join_67 (by decide) ?_
          exact q_i hx hb hr hlocks dX4_join_68 hS (by omega) (by omega) (Or.inl ⟨(Or.inr (Or.inr (hr_52v.mp c_53))), rfl, ra, pa, tx, hW⟩)
        · exact absurd c_64 (by decide)

abbrev rmX4_lay : Room := { frames := 3, cells := 1, slots := 61, locals := 64 }
theorem mX4_lay {l : Launch} {G : Cx} {A : Nat → Prop} {am xa : Nat} {X : Nat → List Nat} {P : List (List Nat)} {k : Int32} {x th : Int32} : Met l yX4_lay (.code yX4_lay cX4_lay 2 (some .int) :: GW) rmX4_lay (PC G A [.ref am, .int x] (MW G A am xa X P k th)) (qI A (fun r H => ((NT x) ∧ r = 0 ∧ MW G A am xa X P k 1 H) ∨ ∃ i : Nat, i < 4 ∧ x = nI i ∧ r = nI (X i).length ∧ MW G A am xa (updT X 11 (X i)) P k 0 H)) 1 61 (A) := by
  refine mstart "SigntextModel" (by decide +kernel) rfl (Nat.le_of_ble_eq_true rfl) ?_
  intro p e s m below meth c ls hx hb hr hts hown hml hlocks hname hC hA hW hl
  have hl : lv_has ls 2 [(0, .ref am), (1, .int x)] := hl
  have hK := hC.1
  have hS : va_S A s.heap s.heap [] := va_S.rf
  obtain ⟨ra, pa, tx, hW⟩ := hW
  have hO := hW.obj
  have hAm := hW.1
  refine lv_aload_n hx hb dX4_lay_0 rfl (lv_at hl 0 rfl) ?_
  refine lv_iload_n hx hb dX4_lay_1 rfl (lv_at hl 1 rfl) ?_
  refine kS_i (A := A) (As := [.int x]) (rest := .ref am :: []) ⟨hx, hb, hml, hown, hts⟩ (mX4_isNone (A := A) ) (va_cwS 1 hts (gS tw_4_203 tw_4_204 tw_1_8 tw_4_205) rfl rfl rfl (by decide +kernel) ⟨Nat.le_of_ble_eq_true rfl, Nat.le_of_ble_eq_true rfl⟩) hC hS hA  trivial rfl rfl hl.1 (Nat.le_of_ble_eq_true rfl) ⟨Nat.zero_le _, Nat.zero_le _⟩ dX4_lay_2 (fun r_65 hr_65 => ?_)
  obtain ⟨r_65v, hr_65v, rfl⟩ := hr_65
  refine lv_iconst (v := nI 1) hx hb dX4_lay_5 (by decide) ?_
  cases r_65v
  · obtain ⟨i, hi, rfl⟩ : ∃ i : Nat, i < 4 ∧ x = nI i := Classical.byContradiction (fun q => Bool.noConfusion (hr_65v.mpr q))
    refine qI_V (A := A) (A1 := A) (b := am) (As := [.int (bI false), .int (nI 1)]) (rest := []) ⟨hx, hb, hml, hown, hts⟩ (mX4_start (A := A) (X := X) (P := P) (k := k) (xa := xa) (b := false) (w9 := 1) (by decide)) (cwV 2 hts (gV tw_4_206 tw_4_208 sel_X4_start tw_1_8 tw_4_209) rfl rfl rfl (by decide +kernel) ⟨Nat.le_of_ble_eq_true rfl, Nat.le_of_ble_eq_true rfl⟩) hC hS (fun _ h => h) (fun q h => hA q (Nat.le_trans hS.1 h)) (hW.recv hK) ⟨ra, pa, tx, hW⟩ rfl rfl hl.1 (Nat.le_of_ble_eq_true rfl) ⟨Nat.zero_le _, Nat.zero_le _⟩ dX4_lay_6 (fun rv66 H66 L66 hP66 hk66 hS => ?_)
    have hZ66 := hS.1
    obtain ⟨hr66, hM66⟩ := hP66
    subst hr66
    obtain ⟨ra, pa, tx, hW⟩ := hM66
    have hW : MWx G A am xa ra pa tx X P k (nI 0) H66 := hW
    have hO := hW.obj
    have hAm := hW.1
    refine f_eq (tgt := 14) hx hb dX4_lay_9 (by decide) (fun c_67 => ?_) (fun c_67 => ?_)
    · refine lv_aload_n hx hb dX4_lay_14 rfl (lv_at hl 0 rfl) ?_
      refine lv_aload_n hx hb dX4_lay_15 rfl (lv_at hl 0 rfl) ?_
      refine va_get (D := G.1) (ci := 8) (C := RX4) (T := TX4) (N := 5) hx hb hts inX4 hown hK (at_P hO) 0 rfl rfl 1 (by decide) (hts _ tw_4_173) (fun _ h9 => h9) rfl dX4_lay_16 ?_
      refine lv_iload_n hx hb dX4_lay_19 rfl (lv_at hl 1 rfl) ?_
      refine h_aaldI (D := G.1) hx hb hK 4 hW.txs rfl (vp_in_nI (n := i) (N := 4) (by omega) (by omega)) dX4_lay_20 ?_
      refine v_cv (show va_rf _ = .ref (tx i) from by rw [nI_clamp (n := i) (by omega)]; rfl) ?_
      have hTi := (hW.tx (j := i) (by omega)).ia hC.2.1.2
      have x60i := hW.2.2.1 i (Or.inl (by omega))
      refine lv_iconst (v := nI 0) hx hb dX4_lay_21 (by decide) ?_
      refine lv_aload_n hx hb dX4_lay_22 rfl (lv_at hl 0 rfl) ?_
      refine va_get (D := G.1) (ci := 8) (C := RX4) (T := TX4) (N := 5) hx hb hts inX4 hown hK (at_P hO) 0 rfl rfl 1 (by decide) (hts _ tw_4_173) (fun _ h9 => h9) rfl dX4_lay_23 ?_
      refine lv_iload_n hx hb dX4_lay_26 rfl (lv_at hl 1 rfl) ?_
      refine h_aaldI (D := G.1) hx hb hK 4 hW.txs rfl (vp_in_nI (n := i) (N := 4) (by omega) (by omega)) dX4_lay_27 ?_
      refine v_cv (show va_rf _ = .ref (tx i) from by rw [nI_clamp (n := i) (by omega)]; rfl) ?_
      refine h_ilen hx hb hC.2.1 hTi dX4_lay_28 ?_
      have hW0 := hW
      have hra := hW.row.lt
      refine qR_S (A := A) (A1 := nw H66.size)  (As := [.ref (tx i), .int (nI 0), .int (nI ((X i).length))]) (rest := .ref am :: []) ⟨hx, hb, hml, hown, hts⟩ (mX4_cut (A := nw H66.size) (sz := H66.size) (t := X i) (i := 0) (i2 := (X i).length) (Nat.zero_le _) (Nat.le_refl _) (by have := x60i.2; omega)) (va_cwS 3 hts (gS tw_4_226 tw_4_227 tw_1_8 tw_4_228) rfl rfl rfl (by decide +kernel) ⟨Nat.le_of_ble_eq_true rfl, Nat.le_of_ble_eq_true rfl⟩) hC hS (nw_in hA hS.1) nw_n  ⟨rfl, hTi⟩ rfl rfl hl.1 (Nat.le_of_ble_eq_true rfl) ⟨Nat.le_trans (show 0 + 1 ≤ 1 by omega) (Nat.le_of_ble_eq_true rfl), Nat.le_trans (show 0 + 61 ≤ 61 by omega) (Nat.le_of_ble_eq_true rfl)⟩ dX4_lay_29 (fun rv68 H68 L68 hP68 hk68 hS => ?_)
      have hZ68 := hS.1
      have hW := hW.nw hk68
      rw [cutL_all] at hP68
      have hO := hW.obj
      have hAm := hW.1
      refine h_put (D := G.1) (ci := 8) (C := RX4) (T := TX4) (N := 5) hx hb hts inX4 tyX4 tyX4_ok nmX4 hown hK hO hS hAm rfl 2 (by decide) (hts _ tw_4_174) (fun _ h9 => h9) rfl (tyX4_ok 2 (by decide)) rfl rfl (Nat.le_of_ble_eq_true rfl) dX4_lay_32 (fun H69 L69 hO z69 o69 hS => ?_)
      have hO : va_at G.1 vwCl (am, .inr (8, [.int (nI 0), .ref xa, .ref rv68, .ref pa, .int k])) H69 := hO
      have hZ69 := hS.1
      have hW := MWx_lay hK hW0 hk68 hP68.1 hP68.2 hO o69 (hA _ (by have := hP68.1; omega)) x60i
      have hO := hW.obj
      have hR1 := hW.row.ia hC.2.1.2
      rw [updT_s] at hR1
      refine lv_aload_n hx hb dX4_lay_35 rfl (lv_at hl 0 rfl) ?_
      refine va_get (D := G.1) (ci := 8) (C := RX4) (T := TX4) (N := 5) hx hb hts inX4 hown hK (at_P hO) 0 rfl rfl 2 (by decide) (hts _ tw_4_174) (fun _ h9 => h9) rfl dX4_lay_36 ?_
      refine h_ilen hx hb hC.2.1 hR1 dX4_lay_39 ?_
      exact q_i hx hb hr hlocks dX4_lay_40 hS (by omega) (by omega) (Or.inr (⟨i, hi, rfl, rfl, _, pa, tx, hW⟩))
    · exact absurd c_67 (by decide)
  · refine qI_V (A := A) (A1 := A) (b := am) (As := [.int (bI true), .int (nI 1)]) (rest := []) ⟨hx, hb, hml, hown, hts⟩ (mX4_start (A := A) (X := X) (P := P) (k := k) (xa := xa) (b := true) (w9 := 1) (by decide)) (cwV 2 hts (gV tw_4_206 tw_4_208 sel_X4_start tw_1_8 tw_4_209) rfl rfl rfl (by decide +kernel) ⟨Nat.le_of_ble_eq_true rfl, Nat.le_of_ble_eq_true rfl⟩) hC hS (fun _ h => h) (fun q h => hA q (Nat.le_trans hS.1 h)) (hW.recv hK) ⟨ra, pa, tx, hW⟩ rfl rfl hl.1 (Nat.le_of_ble_eq_true rfl) ⟨Nat.zero_le _, Nat.zero_le _⟩ dX4_lay_6 (fun rv70 H70 L70 hP70 hk70 hS => ?_)
    have hZ70 := hS.1
    obtain ⟨hr70, hM70⟩ := hP70
    subst hr70
    obtain ⟨ra, pa, tx, hW⟩ := hM70
    have hW : MWx G A am xa ra pa tx X P k (nI 1) H70 := hW
    have hO := hW.obj
    have hAm := hW.1
    refine f_eq (tgt := 14) hx hb dX4_lay_9 (by decide) (fun c_71 => ?_) (fun c_71 => ?_)
    · exact absurd c_71 (by decide)
    · refine lv_iconst (v := nI 0) hx hb dX4_lay_12 (by decide) ?_
      exact q_i hx hb hr hlocks dX4_lay_13 hS (by omega) (by omega) (Or.inl ⟨(hr_65v.mp rfl), rfl, ra, pa, tx, hW⟩)

abbrev rmX4_isNoPlace : Room := { frames := 1, cells := 0, slots := 0, locals := 22 }
theorem mX4_isNoPlace {l : Launch} {G : Cx} {A : Nat → Prop} {am xa : Nat} {X : Nat → List Nat} {P : List (List Nat)} {k : Int32} {x th : Int32} : Met l yX4_isNoPlace (.code yX4_isNoPlace cX4_isNoPlace 2 (some .boolean) :: GW) rmX4_isNoPlace (PC G A [.ref am, .int x] (MW G A am xa X P k th)) (vp_Si (fun r => ∃ v : Bool, (v = true ↔ ¬ ∃ a9 : Nat, a9 < (X 11).length ∧ x = nI a9) ∧ r = bI v)) 0 0 (fun _ => False) := by
  refine mstart "SigntextModel" (by decide +kernel) rfl (Nat.le_of_ble_eq_true rfl) ?_
  intro p e s m below meth c ls hx hb hr hts hown hml hlocks hname hC hA hW hl
  have hl : lv_has ls 2 [(0, .ref am), (1, .int x)] := hl
  have hK := hC.1
  have hS : va_S A s.heap s.heap [] := va_S.rf
  obtain ⟨ra, pa, tx, hW⟩ := hW
  have hO := hW.obj
  have hAm := hW.1
  have hR1 := hW.row.ia hC.2.1.2
  have x11 := hW.2.2.1 11 (Or.inr rfl)
  have r60 := x11.2
  refine lv_iload_n hx hb dX4_isNoPlace_0 rfl (lv_at hl 1 rfl) ?_
  refine lv_iconst (v := nI 0) hx hb dX4_isNoPlace_1 (by decide) ?_
  refine lv_aload_n hx hb dX4_isNoPlace_2 rfl (lv_at hl 0 rfl) ?_
  refine va_get (D := G.1) (ci := 8) (C := RX4) (T := TX4) (N := 5) hx hb hts inX4 hown hK (at_P hO) 0 rfl rfl 2 (by decide) (hts _ tw_4_174) (fun _ h9 => h9) rfl dX4_isNoPlace_3 ?_
  refine h_ilen hx hb hC.2.1 hR1 dX4_isNoPlace_6 ?_
  refine lv_iconst (v := nI 1) hx hb dX4_isNoPlace_7 (by decide) ?_
  refine lv_isub hx hb dX4_isNoPlace_8 ?_
  refine kS_i (A := A) (As := [.int x, .int (nI 0), .int (nI (X 11).length - nI 1)]) (rest := []) ⟨hx, hb, hml, hown, hts⟩ (mX4_isIn (A := A) ) (va_cwS 3 hts (gS tw_4_197 tw_4_198 tw_1_8 tw_4_199) rfl rfl rfl (by decide +kernel) ⟨Nat.le_of_ble_eq_true rfl, Nat.le_of_ble_eq_true rfl⟩) hC hS hA  trivial rfl rfl hl.1 (Nat.le_of_ble_eq_true rfl) ⟨Nat.zero_le _, Nat.zero_le _⟩ dX4_isNoPlace_9 (fun r9 h9 => lv_cv h9 ?_)
  refine f_ne (tgt := 19) hx hb dX4_isNoPlace_12 (by decide) (fun c_72 => ?_) (fun c_72 => ?_)
  · refine lv_iconst (v := nI 0) hx hb dX4_isNoPlace_19 (by decide) ?_
    exact p_z (b := false) hx hb hr hlocks dX4_isNoPlace_20 ⟨false, ⟨fun q => Bool.noConfusion q, fun q => absurd ((rngL (by omega)).mp (of_decide_eq_true c_72)) q⟩, rfl⟩
  · refine lv_iconst (v := nI 1) hx hb dX4_isNoPlace_15 (by decide) ?_
    refine lv_goto (tgt := 20) hx hb dX4_isNoPlace_16 (by decide) ?_
    exact p_z (b := true) hx hb hr hlocks dX4_isNoPlace_20 ⟨true, ⟨fun _ q => absurd ((rngL (by omega)).mpr q) (of_decide_eq_false c_72), fun _ => rfl⟩, rfl⟩
end
