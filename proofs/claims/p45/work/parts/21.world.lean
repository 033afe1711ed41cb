/-! THE CLASS'S WORLD: 39 cells SA: 0 the object, 1 its texts, 2 its known ones, 3 4 pieces and their ends, 5 6 the tried ones, 7 + 2 i and 8 + 2 i line i (0 to 3 texts, 4 to 10 known, 11 row, 12 made, 13 draft, 14 of pieces, 15 of tried) -/
def SJ (SA : Nat → Nat) : Prop := ∀ i j : Nat, i < 39 → j < 39 → SA i = SA j → i = j
def SW (G : Cx) (SA : Nat → Nat) (T : Nat → List Nat) (es es2 : List Nat) (k : Int32) (H : Heap) : Prop :=
  SJ SA ∧
  va_at G.1 vwCl (SA 0, .inr (6, [.ref (SA 1), .ref (SA 2), .ref (SA 29), .ref (SA 3), .int k, .ref (SA 31), .ref (SA 33), .ref (SA 5)])) H ∧
  va_at G.1 vwCl (SA 1, .inl (G.2.1 3, 4, .inr (.inr (.inr (.inr (fun j => some (SA (7 + 2 * j)))))))) H ∧
  va_at G.1 vwCl (SA 2, .inl (G.2.1 3, 7, .inr (.inr (.inr (.inr (fun j => some (SA (15 + 2 * j)))))))) H ∧
  (∀ i : Nat, i < 16 → LA G (SA (7 + 2 * i)) (SA (8 + 2 * i)) (T i) H) ∧
  PB G (SA 3) (SA 35) (SA 4) es H ∧ okE (T 14) es ∧
  PB G (SA 5) (SA 37) (SA 6) es2 H ∧ okE (T 15) es2 ∧
  (∀ i : Nat, i < 7 → T (4 + i) = knT i)
section WORLD
variable {G : Cx} {SA : Nat → Nat} {T : Nat → List Nat} {es es2 : List Nat} {k : Int32} {H H1 : Heap}
theorem SW.ne (h : SW G SA T es es2 k H) {i j : Nat} (hi : i < 39) (hj : j < 39) (hn : i ≠ j) : SA i ≠ SA j := fun q => hn (h.1 i j hi hj q)
theorem SW.line (h : SW G SA T es es2 k H) {i : Nat} (hi : i < 16) : LA G (SA (7 + 2 * i)) (SA (8 + 2 * i)) (T i) H := h.2.2.2.2.1 i hi
theorem SW.pcs (h : SW G SA T es es2 k H) : PA G (SA 3) (SA 35) (SA 36) (SA 4) (T 14) es H := ⟨h.2.2.2.2.2.1, h.line (i := 14) (by decide), h.2.2.2.2.2.2.1, h.ne (by decide) (by decide) (by decide), h.ne (by decide) (by decide) (by decide), h.ne (by decide) (by decide) (by decide), h.ne (by decide) (by decide) (by decide), h.ne (by decide) (by decide) (by decide)⟩
theorem SW.trd (h : SW G SA T es es2 k H) : PA G (SA 5) (SA 37) (SA 38) (SA 6) (T 15) es2 H := ⟨h.2.2.2.2.2.2.2.1, h.line (i := 15) (by decide), h.2.2.2.2.2.2.2.2.1, h.ne (by decide) (by decide) (by decide), h.ne (by decide) (by decide) (by decide), h.ne (by decide) (by decide) (by decide), h.ne (by decide) (by decide) (by decide), h.ne (by decide) (by decide) (by decide)⟩
theorem SW.lt (h : SW G SA T es es2 k H) : ∀ i : Nat, i < 39 → SA i < H.size := fun i hi => by
  rcases Nat.lt_or_ge i 7 with q | q
  · match i, q with
    | 0, _ => exact h.2.1.lt
    | 1, _ => exact h.2.2.1.lt
    | 2, _ => exact h.2.2.2.1.lt
    | 3, _ => exact h.pcs.1.lt.1
    | 4, _ => exact h.pcs.1.lt.2
    | 5, _ => exact h.trd.1.lt.1
    | 6, _ => exact h.trd.1.lt.2
  · have e : i = 7 + 2 * ((i - 7) / 2) ∨ i = 8 + 2 * ((i - 7) / 2) := by omega
    have hl := (h.line (i := (i - 7) / 2) (by omega)).lt
    rcases e with e | e
    · rw [e]; exact hl.1
    · rw [e]; exact hl.2
theorem SW.kp {X : Nat → Prop} (h : SW G SA T es es2 k H) (hk : kp X H H1) (hX : ∀ i : Nat, i < 39 → ¬ X (SA i)) : SW G SA T es es2 k H1 :=
  ⟨h.1, at_kp h.2.1 hk (hX 0 (by decide)), at_kp h.2.2.1 hk (hX 1 (by decide)), at_kp h.2.2.2.1 hk (hX 2 (by decide)), fun i hi => (h.line hi).kp hk (hX _ (by omega)) (hX _ (by omega)), h.pcs.1.kp hk (hX 3 (by decide)) (hX 4 (by decide)), h.pcs.2.2.1, h.trd.1.kp hk (hX 5 (by decide)) (hX 6 (by decide)), h.trd.2.2.1, h.2.2.2.2.2.2.2.2.2⟩
theorem SW.nw (h : SW G SA T es es2 k H) (hk : Pilot.CSigntextLaw_law_r7290_016d97.kp (nw H.size) H H1) : SW G SA T es es2 k H1 := h.kp hk (fun i hi => Nat.not_le_of_lt (h.lt i hi))
theorem SW.recv {s : State} (h : SW G SA T es es2 k H) (hK : va_K G.1 vwCl (tyL G.2.1) s) : ∃ cell : Cell, H[SA 0]? = some cell ∧ cell.vm.isStatics = false ∧ s.vm.findClass "Signtext" = some cell.cls := at_recv hK h.2.1 (q := (RX2, TX2, 8)) rfl
/-- one text for another -/
def updT (T : Nat → List Nat) (q : Nat) (t : List Nat) : Nat → List Nat := fun i => if i = q then t else T i
theorem updT_s {T : Nat → List Nat} {q : Nat} {t : List Nat} : updT T q t q = t := if_pos rfl
theorem updT_n {T : Nat → List Nat} {q i : Nat} {t : List Nat} (h : i ≠ q) : updT T q t i = T i := if_neg h
theorem SW.put (h : SW G SA T es es2 k H) {q : Nat} {t : List Nat} (hq : q < 4 ∨ 11 ≤ q ∧ q < 14) (hk : Pilot.CSigntextLaw_law_r7290_016d97.kp (ow (SA (7 + 2 * q)) (SA (8 + 2 * q)) H.size) H H1) (hL : LA G (SA (7 + 2 * q)) (SA (8 + 2 * q)) t H1) : SW G SA (updT T q t) es es2 k H1 := by
  have hX : ∀ i : Nat, i < 39 → i ≠ 7 + 2 * q → i ≠ 8 + 2 * q → ¬ ow (SA (7 + 2 * q)) (SA (8 + 2 * q)) H.size (SA i) := fun i hi h1 h2 => ow_no (h.ne hi (by omega) h1) (h.ne hi (by omega) h2) (h.lt i hi)
  have u14 : updT T q t 14 = T 14 := updT_n (by omega)
  have u15 : updT T q t 15 = T 15 := updT_n (by omega)
  refine ⟨h.1, at_kp h.2.1 hk (hX 0 (by decide) (by omega) (by omega)), at_kp h.2.2.1 hk (hX 1 (by decide) (by omega) (by omega)), at_kp h.2.2.2.1 hk (hX 2 (by decide) (by omega) (by omega)), fun i hi => ?_, h.pcs.1.kp hk (hX 3 (by decide) (by omega) (by omega)) (hX 4 (by decide) (by omega) (by omega)), by rw [u14]; exact h.pcs.2.2.1, h.trd.1.kp hk (hX 5 (by decide) (by omega) (by omega)) (hX 6 (by decide) (by omega) (by omega)), by rw [u15]; exact h.trd.2.2.1, fun i hi => ?_⟩
  · by_cases e : i = q
    · subst e; rw [updT_s]; exact hL
    · rw [updT_n e]; exact (h.line hi).kp hk (hX _ (by omega) (by omega) (by omega)) (hX _ (by omega) (by omega) (by omega))
  · rw [updT_n (by omega)]; exact h.2.2.2.2.2.2.2.2.2 i hi
/-- what a call sees: the four texts, the row, the text of the pieces and their ends, the knocks -/
def SS (G : Cx) (SA : Nat → Nat) (X : Nat → List Nat) (es : List Nat) (k : Int32) (H : Heap) : Prop := ∃ (T : Nat → List Nat) (es2 : List Nat), SW G SA T es es2 k H ∧ ∀ i : Nat, i < 4 ∨ i = 11 ∨ i = 14 → T i = X i
end WORLD
