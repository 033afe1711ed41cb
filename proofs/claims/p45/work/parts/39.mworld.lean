/-! THE MODEL'S WORLD: the object am, the row of its texts xa; X its texts (0 to 3) and its row (11), P its pieces, k the knocks, th what is thrown -/
def ML (G : Cx) (A : Nat → Prop) (pa : Nat) (P : List (List Nat)) (ra : Nat) (H : Heap) : Prop := P.length ≤ 61 ∧ ((P = [] ∧ ∃ md : Int32, va_at G.1 vwCl (pa, .inr (3, [.int md, .ref (G.2.2 10), .int 0])) H) ∨
  ∃ (md : Int32) (ed cap : Nat) (f : Nat → Option Nat) (pe : Nat → Nat), va_at G.1 vwCl (pa, .inr (3, [.int md, .ref ed, .int (nI P.length)])) H ∧ va_at G.1 vwCl (ed, .inl (G.2.1 5, cap, .inr (.inr (.inr (.inr f))))) H ∧ A ed ∧ P.length ≤ cap ∧ cap < 2 ^ 20 ∧ ∀ i : Nat, i < P.length → f i = some (pe i) ∧ IA0 G (pe i) (P.getD i []) H ∧ pe i ≠ ra)
def MWx (G : Cx) (A : Nat → Prop) (am xa ra pa : Nat) (tx : Nat → Nat) (X : Nat → List Nat) (P : List (List Nat)) (k th : Int32) (H : Heap) : Prop :=
  A am ∧ A xa ∧ (∀ i : Nat, i < 4 ∨ i = 11 → okc (X i) ∧ (X i).length ≤ 60) ∧ (∀ i : Nat, okc (P.getD i []) ∧ (P.getD i []).length ≤ 60) ∧ A ra ∧ A pa ∧ pa ≠ am ∧
  va_at G.1 vwCl (am, .inr (8, [.int th, .ref xa, .ref ra, .ref pa, .int k])) H ∧ va_at G.1 vwCl (xa, .inl (G.2.1 4, 4, .inr (.inr (.inr (.inr (fun j => some (tx j))))))) H ∧
  (∀ j : Nat, j < 4 → IA0 G (tx j) (X j) H ∧ tx j ≠ ra) ∧ IA0 G ra (X 11) H ∧ ML G A pa P ra H
def MW (G : Cx) (A : Nat → Prop) (am xa : Nat) (X : Nat → List Nat) (P : List (List Nat)) (k th : Int32) (H : Heap) : Prop := ∃ (ra pa : Nat) (tx : Nat → Nat), MWx G A am xa ra pa tx X P k th H
section MWS
variable {G : Cx} {A : Nat → Prop} {am xa : Nat} {X : Nat → List Nat} {P : List (List Nat)} {k th : Int32} {H H1 : Heap} {s : State}
theorem ML.tr {pa ra : Nat} (h : ML G A pa P ra H) (hq : ∀ q : Nat, q < H.size → q = pa ∨ (∃ fs, va_at G.1 vwCl (q, .inl fs) H) → H1[q]? = H[q]?) : ML G A pa P ra H1 := by
  obtain ⟨h0, h | ⟨md, ed, cap, f, pe, h1, h2, h3, h4, h5, h6⟩⟩ := h
  · obtain ⟨e, md, h⟩ := h
    exact ⟨h0, Or.inl ⟨e, md, h.kept (hq _ h.lt (Or.inl rfl))⟩⟩
  · refine ⟨h0, Or.inr ⟨md, ed, cap, f, pe, h1.kept (hq _ h1.lt (Or.inl rfl)), h2.kept (hq _ h2.lt (Or.inr ⟨_, h2⟩)), h3, h4, h5, fun i hi => ?_⟩⟩
    obtain ⟨q1, ⟨g, q2, q3⟩, q4⟩ := h6 i hi
    exact ⟨q1, ⟨g, q2.kept (hq _ q2.lt (Or.inr ⟨_, q2⟩)), q3⟩, q4⟩
theorem MWx.nw {ra pa : Nat} {tx : Nat → Nat} (h : MWx G A am xa ra pa tx X P k th H) (hk : kp (nw H.size) H H1) : MWx G A am xa ra pa tx X P k th H1 := by
  obtain ⟨a1, a2, a3, a4, b1, b2, b3, b4, b5, b6, b7, b8⟩ := h
  have hn : ∀ q : Nat, q < H.size → H1[q]? = H[q]? := fun q hq => hk.2 q hq (Nat.not_le_of_lt hq)
  exact ⟨a1, a2, a3, a4, b1, b2, b3, at_n b4 hn, at_n b5 hn, fun j hj => ⟨(b6 j hj).1.n hn, (b6 j hj).2⟩, b7.n hn, b8.tr (fun q hq _ => hn q hq)⟩
theorem MWx.n {ra pa : Nat} {tx : Nat → Nat} (h : MWx G A am xa ra pa tx X P k th H) (hn : ∀ q : Nat, q < H.size → H1[q]? = H[q]?) : MWx G A am xa ra pa tx X P k th H1 := by
  obtain ⟨a1, a2, a3, a4, b1, b2, b3, b4, b5, b6, b7, b8⟩ := h
  exact ⟨a1, a2, a3, a4, b1, b2, b3, at_n b4 hn, at_n b5 hn, fun j hj => ⟨(b6 j hj).1.n hn, (b6 j hj).2⟩, b7.n hn, b8.tr (fun q hq _ => hn q hq)⟩
theorem MWx.obj {ra pa : Nat} {tx : Nat → Nat} (h : MWx G A am xa ra pa tx X P k th H) : va_at G.1 vwCl (am, .inr (8, [.int th, .ref xa, .ref ra, .ref pa, .int k])) H := h.2.2.2.2.2.2.2.1
theorem MWx.txs {ra pa : Nat} {tx : Nat → Nat} (h : MWx G A am xa ra pa tx X P k th H) : va_at G.1 vwCl (xa, .inl (G.2.1 4, 4, .inr (.inr (.inr (.inr (fun j => some (tx j))))))) H := h.2.2.2.2.2.2.2.2.1
theorem MWx.tx {ra pa : Nat} {tx : Nat → Nat} (h : MWx G A am xa ra pa tx X P k th H) {j : Nat} (hj : j < 4) : IA0 G (tx j) (X j) H := (h.2.2.2.2.2.2.2.2.2.1 j hj).1
theorem MWx.row {ra pa : Nat} {tx : Nat → Nat} (h : MWx G A am xa ra pa tx X P k th H) : IA0 G ra (X 11) H := h.2.2.2.2.2.2.2.2.2.2.1
theorem MWx.recv {ra pa : Nat} {tx : Nat → Nat} (h : MWx G A am xa ra pa tx X P k th H) (hK : va_K G.1 vwCl (tyL G.2.1) s) : ∃ cell : Cell, H[am]? = some cell ∧ cell.vm.isStatics = false ∧ s.vm.findClass "SigntextModel" = some cell.cls := at_recv hK h.obj (q := (RX4, TX4, 5)) rfl
theorem MW.recv (h : MW G A am xa X P k th H) (hK : va_K G.1 vwCl (tyL G.2.1) s) : ∃ cell : Cell, H[am]? = some cell ∧ cell.vm.isStatics = false ∧ s.vm.findClass "SigntextModel" = some cell.cls := by
  obtain ⟨ra, pa, tx, h⟩ := h; exact h.recv hK
/-- the object's own numbers change -/
theorem MWx.nums {ra pa : Nat} {tx : Nat → Nat} (hK : va_K G.1 vwCl (tyL G.2.1) s) (h : MWx G A am xa ra pa tx X P k th H) {k2 th2 : Int32} (hO : va_at G.1 vwCl (am, .inr (8, [.int th2, .ref xa, .ref ra, .ref pa, .int k2])) H1) (oq : ∀ q : Nat, q ≠ am → H1[q]? = H[q]?) : MWx G A am xa ra pa tx X P k2 th2 H1 := by
  have hO0 := h.obj
  obtain ⟨a1, a2, a3, a4, b1, b2, b3, b4, b5, b6, b7, b8⟩ := h
  have hne : ∀ (q : Nat) (fs : ClassId × vp_A) (t0 : Nat) (ty : FieldType), va_at G.1 vwCl (q, .inl fs) H → (tyL G.2.1)[t0]? = some (fs.1, ty) → q ≠ am := fun q fs t0 ty hq ht => Ne.symm (at_ne_oa hK hO0 (r := (RX4, TX4, 5)) rfl hq t0 ht)
  have hI : ∀ {q : Nat} {t : List Nat}, IA0 G q t H → IA0 G q t H1 := fun {q t} hq => by
    obtain ⟨f, q1, q2⟩ := hq
    exact ⟨f, at_o q1 oq (hne q _ 0 _ q1 rfl), q2⟩
  refine ⟨a1, a2, a3, a4, b1, b2, b3, hO, at_o b5 oq (hne xa _ 4 _ b5 rfl), fun j hj => ⟨hI (b6 j hj).1, (b6 j hj).2⟩, hI b7, ?_⟩
  obtain ⟨h0, h | ⟨md, ed, cap, f, pe, h1, h2, h3, h4, h5, h6⟩⟩ := b8
  · obtain ⟨e, md, h⟩ := h
    exact ⟨h0, Or.inl ⟨e, md, at_o h oq b3⟩⟩
  · exact ⟨h0, Or.inr ⟨md, ed, cap, f, pe, at_o h1 oq b3, at_o h2 oq (hne ed _ 5 _ h2 rfl), h3, h4, h5, fun i hi => ⟨(h6 i hi).1, hI (h6 i hi).2.1, (h6 i hi).2.2⟩⟩⟩
/-- a fresh row becomes text q -/
theorem MWx.put {ra pa : Nat} {tx : Nat → Nat} (hK : va_K G.1 vwCl (tyL G.2.1) s) (h : MWx G A am xa ra pa tx X P k th H) {q r : Nat} {t : List Nat} (hq : q < 4) (hX : va_at G.1 vwCl (xa, .inl (G.2.1 4, 4, .inr (.inr (.inr (.inr (va_up (fun j => some (tx j)) q (some r))))))) H1) (oq : ∀ z : Nat, z ≠ xa → H1[z]? = H[z]?) (hr : IA0 G r t H) (hrr : r ≠ ra) (ht : okc t ∧ t.length ≤ 60) : MWx G A am xa ra pa (fun j => if j = q then r else tx j) (updT X q t) P k th H1 := by
  have hX0 := h.txs
  obtain ⟨a1, a2, a3, a4, b1, b2, b3, b4, b5, b6, b7, b8⟩ := h
  have hne : ∀ (z : Nat) (fs : ClassId × vp_A) (t0 : Nat) (ty : FieldType), va_at G.1 vwCl (z, .inl fs) H → (tyL G.2.1)[t0]? = some (fs.1, ty) → ty ≠ .array .int → z ≠ xa := fun z fs t0 ty hz ht hty => at_ne_aa hK hz hX0 t0 4 ht rfl hty
  have hI : ∀ {z : Nat} {t : List Nat}, IA0 G z t H → IA0 G z t H1 := fun {z t} hz => by
    obtain ⟨f, q1, q2⟩ := hz
    exact ⟨f, at_o q1 oq (hne z _ 0 _ q1 rfl (by decide)), q2⟩
  refine ⟨a1, a2, fun i hi => ?_, a4, b1, b2, b3, at_o b4 oq (at_ne_oa hK b4 (r := (RX4, TX4, 5)) rfl hX0 4 rfl), at_fun hX (fun j hj => ?_), fun j hj => ?_, ?_, ?_⟩
  · unfold updT; split
    · exact ht
    · exact a3 i hi
  · unfold va_up; split
    · next e => show some r = some (if j = q then r else tx j); rw [if_pos e]
    · next e => show some (tx j) = some (if j = q then r else tx j); rw [if_neg e]
  · by_cases e : j = q
    · show IA0 G (if j = q then r else tx j) _ H1 ∧ (if j = q then r else tx j) ≠ ra
      rw [if_pos e, e, updT_s]; exact ⟨hI hr, hrr⟩
    · show IA0 G (if j = q then r else tx j) _ H1 ∧ (if j = q then r else tx j) ≠ ra
      rw [if_neg e, updT_n e]; exact ⟨hI (b6 j hj).1, (b6 j hj).2⟩
  · rw [updT_n (by omega)]; exact hI b7
  · obtain ⟨h0, h | ⟨md, ed, cap, f, pe, h1, h2, h3, h4, h5, h6⟩⟩ := b8
    · obtain ⟨e, md, h⟩ := h
      exact ⟨h0, Or.inl ⟨e, md, at_o h oq (at_ne_oa hK h (r := (RJx4a65c, TJx4a65c, 3)) rfl hX0 4 rfl)⟩⟩
    · exact ⟨h0, Or.inr ⟨md, ed, cap, f, pe, at_o h1 oq (at_ne_oa hK h1 (r := (RJx4a65c, TJx4a65c, 3)) rfl hX0 4 rfl), at_o h2 oq (hne ed _ 5 _ h2 rfl (by decide)), h3, h4, h5, fun i hi => ⟨(h6 i hi).1, hI (h6 i hi).2.1, (h6 i hi).2.2⟩⟩⟩
end MWS
