/-! WHAT A CALL ANSWERS AND LEAVES, as one relation for class and reference; each is a function -/
theorem nI_uq {a b : Nat} (h : nI a = nI b) (ha : a < 2 ^ 31) (hb : b < 2 ^ 31) : a = b := (nI_eq ha hb).mp h
theorem addS_uq {t : List Nat} {x : Int32} {w w2 : List Nat} (h : addS t x w) (g : addS t x w2) : w = w2 := by
  rcases h with ⟨h1, h2⟩ | ⟨i, hi, h1, h2⟩
  · rcases g with ⟨g1, g2⟩ | ⟨j, hj, g1, g2⟩
    · rw [h2, g2]
    · exact absurd (g1.symm.trans h1) (nI_nm1 (by omega))
  · rcases g with ⟨g1, g2⟩ | ⟨j, hj, g1, g2⟩
    · exact absurd (h1.symm.trans g1) (nI_nm1 (by omega))
    · have e : i = j := nI_uq (h1.symm.trans g1) (by omega) (by omega)
      subst e
      rw [h2, g2]
theorem comeS_uq {a b c d e : Int32} {w w2 : List Nat} (h : comeS a b c d e w) (g : comeS a b c d e w2) : w = w2 := by
  obtain ⟨u1, u2, u3, u4, h1, h2, h3, h4, h5⟩ := h
  obtain ⟨t1, t2, t3, t4, g1, g2, g3, g4, g5⟩ := g
  have e1 := addS_uq h1 g1
  subst e1
  have e2 := addS_uq h2 g2
  subst e2
  have e3 := addS_uq h3 g3
  subst e3
  have e4 := addS_uq h4 g4
  subst e4
  exact addS_uq h5 g5
theorem addS_ok {t : List Nat} {x : Int32} {w : List Nat} (h : addS t x w) (g : badS x) : False := by
  rcases h with ⟨h1, -⟩ | ⟨i, hi, h1, -⟩
  · exact g.1 h1
  · exact g.2 ⟨i, hi, h1⟩
theorem comeS_ok {a b c d e : Int32} {w : List Nat} (h : comeS a b c d e w) (g : badS a ∨ badS b ∨ badS c ∨ badS d ∨ badS e) : False := by
  obtain ⟨u1, u2, u3, u4, h1, h2, h3, h4, h5⟩ := h
  rcases g with g | g | g | g | g
  · exact addS_ok h1 g
  · exact addS_ok h2 g
  · exact addS_ok h3 g
  · exact addS_ok h4 g
  · exact addS_ok h5 g
theorem isCut_uq {u e1 e2 : List Nat} (h : isCut u e1) (g : isCut u e2) : e1 = e2 := by
  obtain ⟨n, hn, rfl, h⟩ := h
  obtain ⟨m, hm, rfl, g⟩ := g
  have key : ∀ n m : Nat, m ≤ (comE u 0).length → (∀ k : Nat, n ≤ k → k < (comE u 0).length → bgE (comE u 0) k = (comE u 0).getD k 0) → (0 < m → bgE (comE u 0) (m - 1) ≠ (comE u 0).getD (m - 1) 0) → ¬ n < m := fun n m hm h1 h2 hlt => h2 (by omega) (h1 (m - 1) (by omega) (by omega))
  have e : n = m := by
    rcases h with ⟨h1, h2⟩ | ⟨h1, h2, h3⟩
    · rcases g with ⟨g1, g2⟩ | ⟨g1, g2, g3⟩ <;> omega
    · rcases g with ⟨g1, g2⟩ | ⟨g1, g2, g3⟩
      · omega
      · have a := key n m hm h2 g3
        have b := key m n hn g2 h3
        omega
  rw [e]
theorem ordR_uq {b : Bool} {t u : List Nat} {x y : Int32} (h : ordR b t u x) (g : ordR b t u y) : x = y := by
  rcases h with ⟨k, h1, h2, h3, h4, h5⟩ | ⟨h1, h2⟩
  · rcases g with ⟨j, g1, g2, g3, g4, g5⟩ | ⟨g1, g2⟩
    · have e : k = j := by
        rcases Nat.lt_trichotomy k j with q | q | q
        · exact absurd (g3 k q) h4
        · exact q
        · exact absurd (h3 j q) g4
      subst e
      rw [h5, g5]
    · exact absurd (g1 k h1 h2) h4
  · rcases g with ⟨j, g1, g2, g3, g4, g5⟩ | ⟨g1, g2⟩
    · exact absurd (h1 j g1 g2) g4
    · rw [h2, g2]
theorem bI_uq {v w : Bool} {F : Prop} (h : v = true ↔ F) (g : w = true ↔ F) : v = w := by
  by_cases hF : F
  · rw [h.mpr hF, g.mpr hF]
  · rw [Bool.eq_false_iff.mpr (fun q => hF (h.mp q)), Bool.eq_false_iff.mpr (fun q => hF (g.mp q))]
theorem exB_uq {x y : Int32} {F : Prop} (h : ∃ v : Bool, (v = true ↔ F) ∧ x = bI v) (g : ∃ v : Bool, (v = true ↔ F) ∧ y = bI v) : x = y := by
  obtain ⟨v, h1, h2⟩ := h
  obtain ⟨w, g1, g2⟩ := g
  rw [h2, g2, bI_uq h1 g1]
theorem sg_uq {x y : Int32} {b : Bool} {t u : List Nat} (h : ∃ o, ordR b t u o ∧ x = sgI o) (g : ∃ o, ordR b t u o ∧ y = sgI o) : x = y := by
  obtain ⟨v, h1, h2⟩ := h
  obtain ⟨w, g1, g2⟩ := g
  rw [h2, g2, ordR_uq h1 g1]

def RP_put (X : Nat → List Nat) (es : List Nat) (x : Int32) (a9 : Int32) (b9 : Int32) (c9 : Int32) (d9 : Int32) (e9 : Int32) (cd : Int32) (v9r : Int32) (X1 : Nat → List Nat) (es1 : List Nat) : Prop := (cd = 0 ∧ ∃ (i : Nat) (w : List Nat), i < 4 ∧ x = nI i ∧ comeS a9 b9 c9 d9 e9 w ∧ (X i ++ w).length ≤ 60 ∧ v9r = nI (X i ++ w).length ∧ X1 = (updT X i (X i ++ w)) ∧ es1 = es) ∨ (cd = 1 ∧ (NT x) ∧ X1 = X ∧ es1 = es) ∨ (cd = 2 ∧ ((∃ i : Nat, i < 4 ∧ x = nI i) ∧ (badS a9 ∨ badS b9 ∨ badS c9 ∨ badS d9 ∨ badS e9)) ∧ X1 = X ∧ es1 = es) ∨ (cd = 3 ∧ (∃ (i : Nat) (w : List Nat), i < 4 ∧ x = nI i ∧ comeS a9 b9 c9 d9 e9 w ∧ 60 < (X i ++ w).length) ∧ X1 = X ∧ es1 = es)
theorem ag_put {X X1 X2 : Nat → List Nat} {es es1 es2 : List Nat} {x : Int32} {a9 : Int32} {b9 : Int32} {c9 : Int32} {d9 : Int32} {e9 : Int32} {c1 c2 : Int32} {v1 v2 : Int32} (h60 : ∀ i : Nat, i < 4 ∨ i = 11 → (X i).length ≤ 60) (he : es.length ≤ 61) (h : RP_put X es x a9 b9 c9 d9 e9 c1 v1 X1 es1) (g : RP_put X es x a9 b9 c9 d9 e9 c2 v2 X2 es2) : c1 = c2 ∧ X1 = X2 ∧ es1 = es2 ∧ (c1 = 0 → v1 = v2) := by
  rcases h with ⟨rfl, ih, wh, h0, h1, h2, h3, h4, hX, hE⟩ | ⟨rfl, h0, hX, hE⟩ | ⟨rfl, ⟨h0, h1⟩, hX, hE⟩ | ⟨rfl, ⟨ih, wh, h0, h1, h2, h3⟩, hX, hE⟩
  · rcases g with ⟨rfl, ig, wg, g0, g1, g2, g3, g4, gX, gE⟩ | ⟨rfl, g0, gX, gE⟩ | ⟨rfl, ⟨g0, g1⟩, gX, gE⟩ | ⟨rfl, ⟨ig, wg, g0, g1, g2, g3⟩, gX, gE⟩
    · have h11 := h60 11 (Or.inr rfl)
      have := h60 ih (Or.inl h0)
      have := h60 ig (Or.inl g0)
      have ei : ih = ig := nI_uq (h1.symm.trans g1) (by omega) (by omega)
      subst ei
      have ew : wh = wg := comeS_uq h2 g2
      subst ew
      exact ⟨rfl, hX.trans gX.symm, hE.trans gE.symm, fun _ => h4.trans g4.symm⟩
    · exact (g0 ⟨ih, h0, h1⟩).elim
    · exact (comeS_ok h2 g1).elim
    · have h11 := h60 11 (Or.inr rfl)
      have := h60 ih (Or.inl h0)
      have := h60 ig (Or.inl g0)
      have ei : ih = ig := nI_uq (h1.symm.trans g1) (by omega) (by omega)
      subst ei
      have ew : wh = wg := comeS_uq h2 g2
      subst ew
      omega
  · rcases g with ⟨rfl, ig, wg, g0, g1, g2, g3, g4, gX, gE⟩ | ⟨rfl, g0, gX, gE⟩ | ⟨rfl, ⟨g0, g1⟩, gX, gE⟩ | ⟨rfl, ⟨ig, wg, g0, g1, g2, g3⟩, gX, gE⟩
    · exact (h0 ⟨ig, g0, g1⟩).elim
    · exact ⟨rfl, hX.trans gX.symm, hE.trans gE.symm, fun e => absurd e (by decide)⟩
    · exact (h0 g0).elim
    · exact (h0 ⟨ig, g0, g1⟩).elim
  · rcases g with ⟨rfl, ig, wg, g0, g1, g2, g3, g4, gX, gE⟩ | ⟨rfl, g0, gX, gE⟩ | ⟨rfl, ⟨g0, g1⟩, gX, gE⟩ | ⟨rfl, ⟨ig, wg, g0, g1, g2, g3⟩, gX, gE⟩
    · exact (comeS_ok g2 h1).elim
    · exact (g0 h0).elim
    · exact ⟨rfl, hX.trans gX.symm, hE.trans gE.symm, fun e => absurd e (by decide)⟩
    · exact (comeS_ok g2 h1).elim
  · rcases g with ⟨rfl, ig, wg, g0, g1, g2, g3, g4, gX, gE⟩ | ⟨rfl, g0, gX, gE⟩ | ⟨rfl, ⟨g0, g1⟩, gX, gE⟩ | ⟨rfl, ⟨ig, wg, g0, g1, g2, g3⟩, gX, gE⟩
    · have h11 := h60 11 (Or.inr rfl)
      have := h60 ih (Or.inl h0)
      have := h60 ig (Or.inl g0)
      have ei : ih = ig := nI_uq (h1.symm.trans g1) (by omega) (by omega)
      subst ei
      have ew : wh = wg := comeS_uq h2 g2
      subst ew
      omega
    · exact (g0 ⟨ih, h0, h1⟩).elim
    · exact (comeS_ok h2 g1).elim
    · exact ⟨rfl, hX.trans gX.symm, hE.trans gE.symm, fun e => absurd e (by decide)⟩
def RP_clear (X : Nat → List Nat) (es : List Nat) (x : Int32) (cd : Int32) (v9r : Int32) (X1 : Nat → List Nat) (es1 : List Nat) : Prop := (cd = 0 ∧ ∃ (i : Nat), i < 4 ∧ x = nI i ∧ v9r = nI (X i).length ∧ X1 = (updT X i []) ∧ es1 = es) ∨ (cd = 1 ∧ (NT x) ∧ X1 = X ∧ es1 = es)
theorem ag_clear {X X1 X2 : Nat → List Nat} {es es1 es2 : List Nat} {x : Int32} {c1 c2 : Int32} {v1 v2 : Int32} (h60 : ∀ i : Nat, i < 4 ∨ i = 11 → (X i).length ≤ 60) (he : es.length ≤ 61) (h : RP_clear X es x c1 v1 X1 es1) (g : RP_clear X es x c2 v2 X2 es2) : c1 = c2 ∧ X1 = X2 ∧ es1 = es2 ∧ (c1 = 0 → v1 = v2) := by
  rcases h with ⟨rfl, ih, h0, h1, h2, hX, hE⟩ | ⟨rfl, h0, hX, hE⟩
  · rcases g with ⟨rfl, ig, g0, g1, g2, gX, gE⟩ | ⟨rfl, g0, gX, gE⟩
    · have h11 := h60 11 (Or.inr rfl)
      have := h60 ih (Or.inl h0)
      have := h60 ig (Or.inl g0)
      have ei : ih = ig := nI_uq (h1.symm.trans g1) (by omega) (by omega)
      subst ei
      exact ⟨rfl, hX.trans gX.symm, hE.trans gE.symm, fun _ => h2.trans g2.symm⟩
    · exact (g0 ⟨ih, h0, h1⟩).elim
  · rcases g with ⟨rfl, ig, g0, g1, g2, gX, gE⟩ | ⟨rfl, g0, gX, gE⟩
    · exact (h0 ⟨ig, g0, g1⟩).elim
    · exact ⟨rfl, hX.trans gX.symm, hE.trans gE.symm, fun e => absurd e (by decide)⟩
def RP_copy (X : Nat → List Nat) (es : List Nat) (x : Int32) (y : Int32) (cd : Int32) (v9r : Int32) (X1 : Nat → List Nat) (es1 : List Nat) : Prop := (cd = 0 ∧ ∃ (i : Nat) (j : Nat), i < 4 ∧ x = nI i ∧ j < 4 ∧ y = nI j ∧ v9r = nI (X i).length ∧ X1 = (updT X j (X i)) ∧ es1 = es) ∨ (cd = 1 ∧ (NT x ∨ NT y) ∧ X1 = X ∧ es1 = es)
theorem ag_copy {X X1 X2 : Nat → List Nat} {es es1 es2 : List Nat} {x : Int32} {y : Int32} {c1 c2 : Int32} {v1 v2 : Int32} (h60 : ∀ i : Nat, i < 4 ∨ i = 11 → (X i).length ≤ 60) (he : es.length ≤ 61) (h : RP_copy X es x y c1 v1 X1 es1) (g : RP_copy X es x y c2 v2 X2 es2) : c1 = c2 ∧ X1 = X2 ∧ es1 = es2 ∧ (c1 = 0 → v1 = v2) := by
  rcases h with ⟨rfl, ih, jh, h0, h1, h2, h3, h4, hX, hE⟩ | ⟨rfl, h0, hX, hE⟩
  · rcases g with ⟨rfl, ig, jg, g0, g1, g2, g3, g4, gX, gE⟩ | ⟨rfl, g0, gX, gE⟩
    · have h11 := h60 11 (Or.inr rfl)
      have := h60 ih (Or.inl h0)
      have := h60 jh (Or.inl h2)
      have := h60 ig (Or.inl g0)
      have := h60 jg (Or.inl g2)
      have ei : ih = ig := nI_uq (h1.symm.trans g1) (by omega) (by omega)
      subst ei
      have ej : jh = jg := nI_uq (h3.symm.trans g3) (by omega) (by omega)
      subst ej
      exact ⟨rfl, hX.trans gX.symm, hE.trans gE.symm, fun _ => h4.trans g4.symm⟩
    · rcases g0 with l0 | l1
      · exact (l0 ⟨ih, h0, h1⟩).elim
      · exact (l1 ⟨jh, h2, h3⟩).elim
  · rcases g with ⟨rfl, ig, jg, g0, g1, g2, g3, g4, gX, gE⟩ | ⟨rfl, g0, gX, gE⟩
    · rcases h0 with l0 | l1
      · exact (l0 ⟨ig, g0, g1⟩).elim
      · exact (l1 ⟨jg, g2, g3⟩).elim
    · exact ⟨rfl, hX.trans gX.symm, hE.trans gE.symm, fun e => absurd e (by decide)⟩
def RP_part (X : Nat → List Nat) (es : List Nat) (x : Int32) (f9 : Int32) (t9 : Int32) (y : Int32) (cd : Int32) (v9r : Int32) (X1 : Nat → List Nat) (es1 : List Nat) : Prop := (cd = 0 ∧ ∃ (i : Nat) (j : Nat) (a9 : Nat) (b9 : Nat), i < 4 ∧ x = nI i ∧ j < 4 ∧ y = nI j ∧ f9 = nI a9 ∧ t9 = nI b9 ∧ a9 ≤ b9 ∧ b9 ≤ (X i).length ∧ v9r = nI (cutL (X i) a9 b9).length ∧ X1 = (updT X j (cutL (X i) a9 b9)) ∧ es1 = es) ∨ (cd = 1 ∧ (NT x ∨ NT y ∨ ¬ (∃ i a9 b9 : Nat, i < 4 ∧ x = nI i ∧ f9 = nI a9 ∧ t9 = nI b9 ∧ a9 ≤ b9 ∧ b9 ≤ (X i).length)) ∧ X1 = X ∧ es1 = es)
theorem ag_part {X X1 X2 : Nat → List Nat} {es es1 es2 : List Nat} {x : Int32} {f9 : Int32} {t9 : Int32} {y : Int32} {c1 c2 : Int32} {v1 v2 : Int32} (h60 : ∀ i : Nat, i < 4 ∨ i = 11 → (X i).length ≤ 60) (he : es.length ≤ 61) (h : RP_part X es x f9 t9 y c1 v1 X1 es1) (g : RP_part X es x f9 t9 y c2 v2 X2 es2) : c1 = c2 ∧ X1 = X2 ∧ es1 = es2 ∧ (c1 = 0 → v1 = v2) := by
  rcases h with ⟨rfl, ih, jh, a9h, b9h, h0, h1, h2, h3, h4, h5, h6, h7, h8, hX, hE⟩ | ⟨rfl, h0, hX, hE⟩
  · rcases g with ⟨rfl, ig, jg, a9g, b9g, g0, g1, g2, g3, g4, g5, g6, g7, g8, gX, gE⟩ | ⟨rfl, g0, gX, gE⟩
    · have h11 := h60 11 (Or.inr rfl)
      have := h60 ih (Or.inl h0)
      have := h60 jh (Or.inl h2)
      have := h60 ig (Or.inl g0)
      have := h60 jg (Or.inl g2)
      have ei : ih = ig := nI_uq (h1.symm.trans g1) (by omega) (by omega)
      subst ei
      have ej : jh = jg := nI_uq (h3.symm.trans g3) (by omega) (by omega)
      subst ej
      have ea9 : a9h = a9g := nI_uq (h4.symm.trans g4) (by omega) (by omega)
      subst ea9
      have eb9 : b9h = b9g := nI_uq (h5.symm.trans g5) (by omega) (by omega)
      subst eb9
      exact ⟨rfl, hX.trans gX.symm, hE.trans gE.symm, fun _ => h8.trans g8.symm⟩
    · rcases g0 with l0 | l1 | l2
      · exact (l0 ⟨ih, h0, h1⟩).elim
      · exact (l1 ⟨jh, h2, h3⟩).elim
      · exact (l2 ⟨ih, a9h, b9h, by first | assumption | omega, by first | assumption | omega, by first | assumption | omega, by first | assumption | omega, by first | assumption | omega, by first | assumption | omega⟩).elim
  · rcases g with ⟨rfl, ig, jg, a9g, b9g, g0, g1, g2, g3, g4, g5, g6, g7, g8, gX, gE⟩ | ⟨rfl, g0, gX, gE⟩
    · rcases h0 with l0 | l1 | l2
      · exact (l0 ⟨ig, g0, g1⟩).elim
      · exact (l1 ⟨jg, g2, g3⟩).elim
      · exact (l2 ⟨ig, a9g, b9g, by first | assumption | omega, by first | assumption | omega, by first | assumption | omega, by first | assumption | omega, by first | assumption | omega, by first | assumption | omega⟩).elim
    · exact ⟨rfl, hX.trans gX.symm, hE.trans gE.symm, fun e => absurd e (by decide)⟩
def RP_tail (X : Nat → List Nat) (es : List Nat) (x : Int32) (f9 : Int32) (y : Int32) (cd : Int32) (v9r : Int32) (X1 : Nat → List Nat) (es1 : List Nat) : Prop := (cd = 0 ∧ ∃ (i : Nat) (j : Nat) (a9 : Nat), i < 4 ∧ x = nI i ∧ j < 4 ∧ y = nI j ∧ f9 = nI a9 ∧ a9 ≤ (X i).length ∧ v9r = nI (cutL (X i) a9 (X i).length).length ∧ X1 = (updT X j (cutL (X i) a9 (X i).length)) ∧ es1 = es) ∨ (cd = 1 ∧ (NT x ∨ NT y ∨ ¬ ∃ i a9 : Nat, i < 4 ∧ x = nI i ∧ f9 = nI a9 ∧ a9 ≤ (X i).length) ∧ X1 = X ∧ es1 = es)
theorem ag_tail {X X1 X2 : Nat → List Nat} {es es1 es2 : List Nat} {x : Int32} {f9 : Int32} {y : Int32} {c1 c2 : Int32} {v1 v2 : Int32} (h60 : ∀ i : Nat, i < 4 ∨ i = 11 → (X i).length ≤ 60) (he : es.length ≤ 61) (h : RP_tail X es x f9 y c1 v1 X1 es1) (g : RP_tail X es x f9 y c2 v2 X2 es2) : c1 = c2 ∧ X1 = X2 ∧ es1 = es2 ∧ (c1 = 0 → v1 = v2) := by
  rcases h with ⟨rfl, ih, jh, a9h, h0, h1, h2, h3, h4, h5, h6, hX, hE⟩ | ⟨rfl, h0, hX, hE⟩
  · rcases g with ⟨rfl, ig, jg, a9g, g0, g1, g2, g3, g4, g5, g6, gX, gE⟩ | ⟨rfl, g0, gX, gE⟩
    · have h11 := h60 11 (Or.inr rfl)
      have := h60 ih (Or.inl h0)
      have := h60 jh (Or.inl h2)
      have := h60 ig (Or.inl g0)
      have := h60 jg (Or.inl g2)
      have ei : ih = ig := nI_uq (h1.symm.trans g1) (by omega) (by omega)
      subst ei
      have ej : jh = jg := nI_uq (h3.symm.trans g3) (by omega) (by omega)
      subst ej
      have ea9 : a9h = a9g := nI_uq (h4.symm.trans g4) (by omega) (by omega)
      subst ea9
      exact ⟨rfl, hX.trans gX.symm, hE.trans gE.symm, fun _ => h6.trans g6.symm⟩
    · rcases g0 with l0 | l1 | l2
      · exact (l0 ⟨ih, h0, h1⟩).elim
      · exact (l1 ⟨jh, h2, h3⟩).elim
      · exact (l2 ⟨ih, a9h, by first | assumption | omega, by first | assumption | omega, by first | assumption | omega, by first | assumption | omega⟩).elim
  · rcases g with ⟨rfl, ig, jg, a9g, g0, g1, g2, g3, g4, g5, g6, gX, gE⟩ | ⟨rfl, g0, gX, gE⟩
    · rcases h0 with l0 | l1 | l2
      · exact (l0 ⟨ig, g0, g1⟩).elim
      · exact (l1 ⟨jg, g2, g3⟩).elim
      · exact (l2 ⟨ig, a9g, by first | assumption | omega, by first | assumption | omega, by first | assumption | omega, by first | assumption | omega⟩).elim
    · exact ⟨rfl, hX.trans gX.symm, hE.trans gE.symm, fun e => absurd e (by decide)⟩
def RP_join (X : Nat → List Nat) (es : List Nat) (x : Int32) (y : Int32) (z : Int32) (cd : Int32) (v9r : Int32) (X1 : Nat → List Nat) (es1 : List Nat) : Prop := (cd = 0 ∧ ∃ (i : Nat) (j : Nat) (q : Nat), i < 4 ∧ x = nI i ∧ j < 4 ∧ y = nI j ∧ q < 4 ∧ z = nI q ∧ (X i ++ X j).length ≤ 60 ∧ v9r = nI (X i ++ X j).length ∧ X1 = (updT X q (X i ++ X j)) ∧ es1 = es) ∨ (cd = 1 ∧ (NT x ∨ NT y ∨ NT z) ∧ X1 = X ∧ es1 = es) ∨ (cd = 2 ∧ (∃ i j q : Nat, i < 4 ∧ x = nI i ∧ j < 4 ∧ y = nI j ∧ q < 4 ∧ z = nI q ∧ 60 < (X i ++ X j).length) ∧ X1 = X ∧ es1 = es)
theorem ag_join {X X1 X2 : Nat → List Nat} {es es1 es2 : List Nat} {x : Int32} {y : Int32} {z : Int32} {c1 c2 : Int32} {v1 v2 : Int32} (h60 : ∀ i : Nat, i < 4 ∨ i = 11 → (X i).length ≤ 60) (he : es.length ≤ 61) (h : RP_join X es x y z c1 v1 X1 es1) (g : RP_join X es x y z c2 v2 X2 es2) : c1 = c2 ∧ X1 = X2 ∧ es1 = es2 ∧ (c1 = 0 → v1 = v2) := by
  rcases h with ⟨rfl, ih, jh, qh, h0, h1, h2, h3, h4, h5, h6, h7, hX, hE⟩ | ⟨rfl, h0, hX, hE⟩ | ⟨rfl, ⟨ih, jh, qh, h0, h1, h2, h3, h4, h5, h6⟩, hX, hE⟩
  · rcases g with ⟨rfl, ig, jg, qg, g0, g1, g2, g3, g4, g5, g6, g7, gX, gE⟩ | ⟨rfl, g0, gX, gE⟩ | ⟨rfl, ⟨ig, jg, qg, g0, g1, g2, g3, g4, g5, g6⟩, gX, gE⟩
    · have h11 := h60 11 (Or.inr rfl)
      have := h60 ih (Or.inl h0)
      have := h60 jh (Or.inl h2)
      have := h60 qh (Or.inl h4)
      have := h60 ig (Or.inl g0)
      have := h60 jg (Or.inl g2)
      have := h60 qg (Or.inl g4)
      have ei : ih = ig := nI_uq (h1.symm.trans g1) (by omega) (by omega)
      subst ei
      have ej : jh = jg := nI_uq (h3.symm.trans g3) (by omega) (by omega)
      subst ej
      have eq : qh = qg := nI_uq (h5.symm.trans g5) (by omega) (by omega)
      subst eq
      exact ⟨rfl, hX.trans gX.symm, hE.trans gE.symm, fun _ => h7.trans g7.symm⟩
    · rcases g0 with l0 | l1 | l2
      · exact (l0 ⟨ih, h0, h1⟩).elim
      · exact (l1 ⟨jh, h2, h3⟩).elim
      · exact (l2 ⟨qh, h4, h5⟩).elim
    · have h11 := h60 11 (Or.inr rfl)
      have := h60 ih (Or.inl h0)
      have := h60 jh (Or.inl h2)
      have := h60 qh (Or.inl h4)
      have := h60 ig (Or.inl g0)
      have := h60 jg (Or.inl g2)
      have := h60 qg (Or.inl g4)
      have ei : ih = ig := nI_uq (h1.symm.trans g1) (by omega) (by omega)
      subst ei
      have ej : jh = jg := nI_uq (h3.symm.trans g3) (by omega) (by omega)
      subst ej
      have eq : qh = qg := nI_uq (h5.symm.trans g5) (by omega) (by omega)
      subst eq
      omega
  · rcases g with ⟨rfl, ig, jg, qg, g0, g1, g2, g3, g4, g5, g6, g7, gX, gE⟩ | ⟨rfl, g0, gX, gE⟩ | ⟨rfl, ⟨ig, jg, qg, g0, g1, g2, g3, g4, g5, g6⟩, gX, gE⟩
    · rcases h0 with l0 | l1 | l2
      · exact (l0 ⟨ig, g0, g1⟩).elim
      · exact (l1 ⟨jg, g2, g3⟩).elim
      · exact (l2 ⟨qg, g4, g5⟩).elim
    · exact ⟨rfl, hX.trans gX.symm, hE.trans gE.symm, fun e => absurd e (by decide)⟩
    · rcases h0 with l0 | l1 | l2
      · exact (l0 ⟨ig, g0, g1⟩).elim
      · exact (l1 ⟨jg, g2, g3⟩).elim
      · exact (l2 ⟨qg, g4, g5⟩).elim
  · rcases g with ⟨rfl, ig, jg, qg, g0, g1, g2, g3, g4, g5, g6, g7, gX, gE⟩ | ⟨rfl, g0, gX, gE⟩ | ⟨rfl, ⟨ig, jg, qg, g0, g1, g2, g3, g4, g5, g6⟩, gX, gE⟩
    · have h11 := h60 11 (Or.inr rfl)
      have := h60 ih (Or.inl h0)
      have := h60 jh (Or.inl h2)
      have := h60 qh (Or.inl h4)
      have := h60 ig (Or.inl g0)
      have := h60 jg (Or.inl g2)
      have := h60 qg (Or.inl g4)
      have ei : ih = ig := nI_uq (h1.symm.trans g1) (by omega) (by omega)
      subst ei
      have ej : jh = jg := nI_uq (h3.symm.trans g3) (by omega) (by omega)
      subst ej
      have eq : qh = qg := nI_uq (h5.symm.trans g5) (by omega) (by omega)
      subst eq
      omega
    · rcases g0 with l0 | l1 | l2
      · exact (l0 ⟨ih, h0, h1⟩).elim
      · exact (l1 ⟨jh, h2, h3⟩).elim
      · exact (l2 ⟨qh, h4, h5⟩).elim
    · exact ⟨rfl, hX.trans gX.symm, hE.trans gE.symm, fun e => absurd e (by decide)⟩
def RP_times (X : Nat → List Nat) (es : List Nat) (x : Int32) (m9 : Int32) (y : Int32) (cd : Int32) (v9r : Int32) (X1 : Nat → List Nat) (es1 : List Nat) : Prop := (cd = 0 ∧ ∃ (i : Nat) (j : Nat) (b8 : Nat), i < 4 ∧ x = nI i ∧ j < 4 ∧ y = nI j ∧ b8 ≤ 60 ∧ m9 = nI b8 ∧ (repL (X i) b8).length ≤ 60 ∧ v9r = nI (repL (X i) b8).length ∧ X1 = (updT X j (repL (X i) b8)) ∧ es1 = es) ∨ (cd = 1 ∧ (NT x ∨ NT y) ∧ X1 = X ∧ es1 = es) ∨ (cd = 2 ∧ ((∃ i : Nat, i < 4 ∧ x = nI i) ∧ (∃ j : Nat, j < 4 ∧ y = nI j) ∧ ¬ ∃ b8 : Nat, b8 ≤ 60 ∧ m9 = nI b8) ∧ X1 = X ∧ es1 = es) ∨ (cd = 3 ∧ (∃ i j b8 : Nat, i < 4 ∧ x = nI i ∧ j < 4 ∧ y = nI j ∧ b8 ≤ 60 ∧ m9 = nI b8 ∧ 60 < (repL (X i) b8).length) ∧ X1 = X ∧ es1 = es)
theorem ag_times {X X1 X2 : Nat → List Nat} {es es1 es2 : List Nat} {x : Int32} {m9 : Int32} {y : Int32} {c1 c2 : Int32} {v1 v2 : Int32} (h60 : ∀ i : Nat, i < 4 ∨ i = 11 → (X i).length ≤ 60) (he : es.length ≤ 61) (h : RP_times X es x m9 y c1 v1 X1 es1) (g : RP_times X es x m9 y c2 v2 X2 es2) : c1 = c2 ∧ X1 = X2 ∧ es1 = es2 ∧ (c1 = 0 → v1 = v2) := by
  rcases h with ⟨rfl, ih, jh, b8h, h0, h1, h2, h3, h4, h5, h6, h7, hX, hE⟩ | ⟨rfl, h0, hX, hE⟩ | ⟨rfl, ⟨h0, h1, h2⟩, hX, hE⟩ | ⟨rfl, ⟨ih, jh, b8h, h0, h1, h2, h3, h4, h5, h6⟩, hX, hE⟩
  · rcases g with ⟨rfl, ig, jg, b8g, g0, g1, g2, g3, g4, g5, g6, g7, gX, gE⟩ | ⟨rfl, g0, gX, gE⟩ | ⟨rfl, ⟨g0, g1, g2⟩, gX, gE⟩ | ⟨rfl, ⟨ig, jg, b8g, g0, g1, g2, g3, g4, g5, g6⟩, gX, gE⟩
    · have h11 := h60 11 (Or.inr rfl)
      have := h60 ih (Or.inl h0)
      have := h60 jh (Or.inl h2)
      have := h60 ig (Or.inl g0)
      have := h60 jg (Or.inl g2)
      have ei : ih = ig := nI_uq (h1.symm.trans g1) (by omega) (by omega)
      subst ei
      have ej : jh = jg := nI_uq (h3.symm.trans g3) (by omega) (by omega)
      subst ej
      have eb8 : b8h = b8g := nI_uq (h5.symm.trans g5) (by omega) (by omega)
      subst eb8
      exact ⟨rfl, hX.trans gX.symm, hE.trans gE.symm, fun _ => h7.trans g7.symm⟩
    · rcases g0 with l0 | l1
      · exact (l0 ⟨ih, h0, h1⟩).elim
      · exact (l1 ⟨jh, h2, h3⟩).elim
    · exact (g2 ⟨b8h, by first | assumption | omega, by first | assumption | omega⟩).elim
    · have h11 := h60 11 (Or.inr rfl)
      have := h60 ih (Or.inl h0)
      have := h60 jh (Or.inl h2)
      have := h60 ig (Or.inl g0)
      have := h60 jg (Or.inl g2)
      have ei : ih = ig := nI_uq (h1.symm.trans g1) (by omega) (by omega)
      subst ei
      have ej : jh = jg := nI_uq (h3.symm.trans g3) (by omega) (by omega)
      subst ej
      have eb8 : b8h = b8g := nI_uq (h5.symm.trans g5) (by omega) (by omega)
      subst eb8
      omega
  · rcases g with ⟨rfl, ig, jg, b8g, g0, g1, g2, g3, g4, g5, g6, g7, gX, gE⟩ | ⟨rfl, g0, gX, gE⟩ | ⟨rfl, ⟨g0, g1, g2⟩, gX, gE⟩ | ⟨rfl, ⟨ig, jg, b8g, g0, g1, g2, g3, g4, g5, g6⟩, gX, gE⟩
    · rcases h0 with l0 | l1
      · exact (l0 ⟨ig, g0, g1⟩).elim
      · exact (l1 ⟨jg, g2, g3⟩).elim
    · exact ⟨rfl, hX.trans gX.symm, hE.trans gE.symm, fun e => absurd e (by decide)⟩
    · rcases h0 with l0 | l1
      · exact (l0 g0).elim
      · exact (l1 g1).elim
    · rcases h0 with l0 | l1
      · exact (l0 ⟨ig, g0, g1⟩).elim
      · exact (l1 ⟨jg, g2, g3⟩).elim
  · rcases g with ⟨rfl, ig, jg, b8g, g0, g1, g2, g3, g4, g5, g6, g7, gX, gE⟩ | ⟨rfl, g0, gX, gE⟩ | ⟨rfl, ⟨g0, g1, g2⟩, gX, gE⟩ | ⟨rfl, ⟨ig, jg, b8g, g0, g1, g2, g3, g4, g5, g6⟩, gX, gE⟩
    · exact (h2 ⟨b8g, by first | assumption | omega, by first | assumption | omega⟩).elim
    · rcases g0 with l0 | l1
      · exact (l0 h0).elim
      · exact (l1 h1).elim
    · exact ⟨rfl, hX.trans gX.symm, hE.trans gE.symm, fun e => absurd e (by decide)⟩
    · exact (h2 ⟨b8g, by first | assumption | omega, by first | assumption | omega⟩).elim
  · rcases g with ⟨rfl, ig, jg, b8g, g0, g1, g2, g3, g4, g5, g6, g7, gX, gE⟩ | ⟨rfl, g0, gX, gE⟩ | ⟨rfl, ⟨g0, g1, g2⟩, gX, gE⟩ | ⟨rfl, ⟨ig, jg, b8g, g0, g1, g2, g3, g4, g5, g6⟩, gX, gE⟩
    · have h11 := h60 11 (Or.inr rfl)
      have := h60 ih (Or.inl h0)
      have := h60 jh (Or.inl h2)
      have := h60 ig (Or.inl g0)
      have := h60 jg (Or.inl g2)
      have ei : ih = ig := nI_uq (h1.symm.trans g1) (by omega) (by omega)
      subst ei
      have ej : jh = jg := nI_uq (h3.symm.trans g3) (by omega) (by omega)
      subst ej
      have eb8 : b8h = b8g := nI_uq (h5.symm.trans g5) (by omega) (by omega)
      subst eb8
      omega
    · rcases g0 with l0 | l1
      · exact (l0 ⟨ih, h0, h1⟩).elim
      · exact (l1 ⟨jh, h2, h3⟩).elim
    · exact (g2 ⟨b8h, by first | assumption | omega, by first | assumption | omega⟩).elim
    · exact ⟨rfl, hX.trans gX.symm, hE.trans gE.symm, fun e => absurd e (by decide)⟩
def RP_trim (X : Nat → List Nat) (es : List Nat) (x : Int32) (b : Bool) (y : Int32) (cd : Int32) (v9r : Int32) (X1 : Nat → List Nat) (es1 : List Nat) : Prop := (cd = 0 ∧ ∃ (i : Nat) (j : Nat) (e9 : Nat), i < 4 ∧ x = nI i ∧ j < 4 ∧ y = nI j ∧ isTe b (X i) e9 ∧ v9r = nI (cutL (X i) (tbL b (X i)) e9).length ∧ X1 = (updT X j (cutL (X i) (tbL b (X i)) e9)) ∧ es1 = es) ∨ (cd = 1 ∧ (NT x ∨ NT y) ∧ X1 = X ∧ es1 = es)
theorem ag_trim {X X1 X2 : Nat → List Nat} {es es1 es2 : List Nat} {x : Int32} {b : Bool} {y : Int32} {c1 c2 : Int32} {v1 v2 : Int32} (h60 : ∀ i : Nat, i < 4 ∨ i = 11 → (X i).length ≤ 60) (he : es.length ≤ 61) (h : RP_trim X es x b y c1 v1 X1 es1) (g : RP_trim X es x b y c2 v2 X2 es2) : c1 = c2 ∧ X1 = X2 ∧ es1 = es2 ∧ (c1 = 0 → v1 = v2) := by
  rcases h with ⟨rfl, ih, jh, e9h, h0, h1, h2, h3, h4, h5, hX, hE⟩ | ⟨rfl, h0, hX, hE⟩
  · rcases g with ⟨rfl, ig, jg, e9g, g0, g1, g2, g3, g4, g5, gX, gE⟩ | ⟨rfl, g0, gX, gE⟩
    · have h11 := h60 11 (Or.inr rfl)
      have := h60 ih (Or.inl h0)
      have := h60 jh (Or.inl h2)
      have := h60 ig (Or.inl g0)
      have := h60 jg (Or.inl g2)
      have ei : ih = ig := nI_uq (h1.symm.trans g1) (by omega) (by omega)
      subst ei
      have ej : jh = jg := nI_uq (h3.symm.trans g3) (by omega) (by omega)
      subst ej
      have ee9 : e9h = e9g := isTe.eq h4 g4
      subst ee9
      exact ⟨rfl, hX.trans gX.symm, hE.trans gE.symm, fun _ => h5.trans g5.symm⟩
    · rcases g0 with l0 | l1
      · exact (l0 ⟨ih, h0, h1⟩).elim
      · exact (l1 ⟨jh, h2, h3⟩).elim
  · rcases g with ⟨rfl, ig, jg, e9g, g0, g1, g2, g3, g4, g5, gX, gE⟩ | ⟨rfl, g0, gX, gE⟩
    · rcases h0 with l0 | l1
      · exact (l0 ⟨ig, g0, g1⟩).elim
      · exact (l1 ⟨jg, g2, g3⟩).elim
    · exact ⟨rfl, hX.trans gX.symm, hE.trans gE.symm, fun e => absurd e (by decide)⟩
def RP_number (X : Nat → List Nat) (es : List Nat) (x : Int32) (n9 : Int32) (b : Bool) (cd : Int32) (v9r : Int32) (X1 : Nat → List Nat) (es1 : List Nat) : Prop := (cd = 0 ∧ ∃ (i : Nat), i < 4 ∧ x = nI i ∧ (if b then (numL (n9.toInt64)).take 60 ++ X i else X i ++ (numL (n9.toInt64)).take 60).length ≤ 60 ∧ v9r = nI (if b then (numL (n9.toInt64)).take 60 ++ X i else X i ++ (numL (n9.toInt64)).take 60).length ∧ X1 = (updT X i (if b then (numL (n9.toInt64)).take 60 ++ X i else X i ++ (numL (n9.toInt64)).take 60)) ∧ es1 = es) ∨ (cd = 1 ∧ (NT x) ∧ X1 = X ∧ es1 = es) ∨ (cd = 2 ∧ (∃ i : Nat, i < 4 ∧ x = nI i ∧ 60 < (if b then (numL (n9.toInt64)).take 60 ++ X i else X i ++ (numL (n9.toInt64)).take 60).length) ∧ X1 = X ∧ es1 = es)
theorem ag_number {X X1 X2 : Nat → List Nat} {es es1 es2 : List Nat} {x : Int32} {n9 : Int32} {b : Bool} {c1 c2 : Int32} {v1 v2 : Int32} (h60 : ∀ i : Nat, i < 4 ∨ i = 11 → (X i).length ≤ 60) (he : es.length ≤ 61) (h : RP_number X es x n9 b c1 v1 X1 es1) (g : RP_number X es x n9 b c2 v2 X2 es2) : c1 = c2 ∧ X1 = X2 ∧ es1 = es2 ∧ (c1 = 0 → v1 = v2) := by
  rcases h with ⟨rfl, ih, h0, h1, h2, h3, hX, hE⟩ | ⟨rfl, h0, hX, hE⟩ | ⟨rfl, ⟨ih, h0, h1, h2⟩, hX, hE⟩
  · rcases g with ⟨rfl, ig, g0, g1, g2, g3, gX, gE⟩ | ⟨rfl, g0, gX, gE⟩ | ⟨rfl, ⟨ig, g0, g1, g2⟩, gX, gE⟩
    · have h11 := h60 11 (Or.inr rfl)
      have := h60 ih (Or.inl h0)
      have := h60 ig (Or.inl g0)
      have ei : ih = ig := nI_uq (h1.symm.trans g1) (by omega) (by omega)
      subst ei
      exact ⟨rfl, hX.trans gX.symm, hE.trans gE.symm, fun _ => h3.trans g3.symm⟩
    · exact (g0 ⟨ih, h0, h1⟩).elim
    · have h11 := h60 11 (Or.inr rfl)
      have := h60 ih (Or.inl h0)
      have := h60 ig (Or.inl g0)
      have ei : ih = ig := nI_uq (h1.symm.trans g1) (by omega) (by omega)
      subst ei
      omega
  · rcases g with ⟨rfl, ig, g0, g1, g2, g3, gX, gE⟩ | ⟨rfl, g0, gX, gE⟩ | ⟨rfl, ⟨ig, g0, g1, g2⟩, gX, gE⟩
    · exact (h0 ⟨ig, g0, g1⟩).elim
    · exact ⟨rfl, hX.trans gX.symm, hE.trans gE.symm, fun e => absurd e (by decide)⟩
    · exact (h0 ⟨ig, g0, g1⟩).elim
  · rcases g with ⟨rfl, ig, g0, g1, g2, g3, gX, gE⟩ | ⟨rfl, g0, gX, gE⟩ | ⟨rfl, ⟨ig, g0, g1, g2⟩, gX, gE⟩
    · have h11 := h60 11 (Or.inr rfl)
      have := h60 ih (Or.inl h0)
      have := h60 ig (Or.inl g0)
      have ei : ih = ig := nI_uq (h1.symm.trans g1) (by omega) (by omega)
      subst ei
      omega
    · exact (g0 ⟨ih, h0, h1⟩).elim
    · exact ⟨rfl, hX.trans gX.symm, hE.trans gE.symm, fun e => absurd e (by decide)⟩
def RP_great (X : Nat → List Nat) (es : List Nat) (x : Int32) (h9 : Int32) (l9 : Int32) (cd : Int32) (v9r : Int32) (X1 : Nat → List Nat) (es1 : List Nat) : Prop := (cd = 0 ∧ ∃ (i : Nat), i < 4 ∧ x = nI i ∧ (if false then (numL ((h9.toInt64 <<< ((nI 32).toInt64 &&& 63)) ||| (l9.toInt64 &&& 4294967295))).take 60 ++ X i else X i ++ (numL ((h9.toInt64 <<< ((nI 32).toInt64 &&& 63)) ||| (l9.toInt64 &&& 4294967295))).take 60).length ≤ 60 ∧ v9r = nI (if false then (numL ((h9.toInt64 <<< ((nI 32).toInt64 &&& 63)) ||| (l9.toInt64 &&& 4294967295))).take 60 ++ X i else X i ++ (numL ((h9.toInt64 <<< ((nI 32).toInt64 &&& 63)) ||| (l9.toInt64 &&& 4294967295))).take 60).length ∧ X1 = (updT X i (if false then (numL ((h9.toInt64 <<< ((nI 32).toInt64 &&& 63)) ||| (l9.toInt64 &&& 4294967295))).take 60 ++ X i else X i ++ (numL ((h9.toInt64 <<< ((nI 32).toInt64 &&& 63)) ||| (l9.toInt64 &&& 4294967295))).take 60)) ∧ es1 = es) ∨ (cd = 1 ∧ (NT x) ∧ X1 = X ∧ es1 = es) ∨ (cd = 2 ∧ (∃ i : Nat, i < 4 ∧ x = nI i ∧ 60 < (if false then (numL ((h9.toInt64 <<< ((nI 32).toInt64 &&& 63)) ||| (l9.toInt64 &&& 4294967295))).take 60 ++ X i else X i ++ (numL ((h9.toInt64 <<< ((nI 32).toInt64 &&& 63)) ||| (l9.toInt64 &&& 4294967295))).take 60).length) ∧ X1 = X ∧ es1 = es)
theorem ag_great {X X1 X2 : Nat → List Nat} {es es1 es2 : List Nat} {x : Int32} {h9 : Int32} {l9 : Int32} {c1 c2 : Int32} {v1 v2 : Int32} (h60 : ∀ i : Nat, i < 4 ∨ i = 11 → (X i).length ≤ 60) (he : es.length ≤ 61) (h : RP_great X es x h9 l9 c1 v1 X1 es1) (g : RP_great X es x h9 l9 c2 v2 X2 es2) : c1 = c2 ∧ X1 = X2 ∧ es1 = es2 ∧ (c1 = 0 → v1 = v2) := by
  rcases h with ⟨rfl, ih, h0, h1, h2, h3, hX, hE⟩ | ⟨rfl, h0, hX, hE⟩ | ⟨rfl, ⟨ih, h0, h1, h2⟩, hX, hE⟩
  · rcases g with ⟨rfl, ig, g0, g1, g2, g3, gX, gE⟩ | ⟨rfl, g0, gX, gE⟩ | ⟨rfl, ⟨ig, g0, g1, g2⟩, gX, gE⟩
    · have h11 := h60 11 (Or.inr rfl)
      have := h60 ih (Or.inl h0)
      have := h60 ig (Or.inl g0)
      have ei : ih = ig := nI_uq (h1.symm.trans g1) (by omega) (by omega)
      subst ei
      exact ⟨rfl, hX.trans gX.symm, hE.trans gE.symm, fun _ => h3.trans g3.symm⟩
    · exact (g0 ⟨ih, h0, h1⟩).elim
    · have h11 := h60 11 (Or.inr rfl)
      have := h60 ih (Or.inl h0)
      have := h60 ig (Or.inl g0)
      have ei : ih = ig := nI_uq (h1.symm.trans g1) (by omega) (by omega)
      subst ei
      omega
  · rcases g with ⟨rfl, ig, g0, g1, g2, g3, gX, gE⟩ | ⟨rfl, g0, gX, gE⟩ | ⟨rfl, ⟨ig, g0, g1, g2⟩, gX, gE⟩
    · exact (h0 ⟨ig, g0, g1⟩).elim
    · exact ⟨rfl, hX.trans gX.symm, hE.trans gE.symm, fun e => absurd e (by decide)⟩
    · exact (h0 ⟨ig, g0, g1⟩).elim
  · rcases g with ⟨rfl, ig, g0, g1, g2, g3, gX, gE⟩ | ⟨rfl, g0, gX, gE⟩ | ⟨rfl, ⟨ig, g0, g1, g2⟩, gX, gE⟩
    · have h11 := h60 11 (Or.inr rfl)
      have := h60 ih (Or.inl h0)
      have := h60 ig (Or.inl g0)
      have ei : ih = ig := nI_uq (h1.symm.trans g1) (by omega) (by omega)
      subst ei
      omega
    · exact (g0 ⟨ih, h0, h1⟩).elim
    · exact ⟨rfl, hX.trans gX.symm, hE.trans gE.symm, fun e => absurd e (by decide)⟩
def RP_truth (X : Nat → List Nat) (es : List Nat) (x : Int32) (b : Bool) (b2 : Bool) (cd : Int32) (v9r : Int32) (X1 : Nat → List Nat) (es1 : List Nat) : Prop := (cd = 0 ∧ ∃ (i : Nat), i < 4 ∧ x = nI i ∧ (if b2 then stx (if b then 7 else 8) ++ X i else X i ++ stx (if b then 7 else 8)).length ≤ 60 ∧ v9r = nI (if b2 then stx (if b then 7 else 8) ++ X i else X i ++ stx (if b then 7 else 8)).length ∧ X1 = (updT X i (if b2 then stx (if b then 7 else 8) ++ X i else X i ++ stx (if b then 7 else 8))) ∧ es1 = es) ∨ (cd = 1 ∧ (NT x) ∧ X1 = X ∧ es1 = es) ∨ (cd = 2 ∧ (∃ i : Nat, i < 4 ∧ x = nI i ∧ 60 < (if b2 then stx (if b then 7 else 8) ++ X i else X i ++ stx (if b then 7 else 8)).length) ∧ X1 = X ∧ es1 = es)
theorem ag_truth {X X1 X2 : Nat → List Nat} {es es1 es2 : List Nat} {x : Int32} {b : Bool} {b2 : Bool} {c1 c2 : Int32} {v1 v2 : Int32} (h60 : ∀ i : Nat, i < 4 ∨ i = 11 → (X i).length ≤ 60) (he : es.length ≤ 61) (h : RP_truth X es x b b2 c1 v1 X1 es1) (g : RP_truth X es x b b2 c2 v2 X2 es2) : c1 = c2 ∧ X1 = X2 ∧ es1 = es2 ∧ (c1 = 0 → v1 = v2) := by
  rcases h with ⟨rfl, ih, h0, h1, h2, h3, hX, hE⟩ | ⟨rfl, h0, hX, hE⟩ | ⟨rfl, ⟨ih, h0, h1, h2⟩, hX, hE⟩
  · rcases g with ⟨rfl, ig, g0, g1, g2, g3, gX, gE⟩ | ⟨rfl, g0, gX, gE⟩ | ⟨rfl, ⟨ig, g0, g1, g2⟩, gX, gE⟩
    · have h11 := h60 11 (Or.inr rfl)
      have := h60 ih (Or.inl h0)
      have := h60 ig (Or.inl g0)
      have ei : ih = ig := nI_uq (h1.symm.trans g1) (by omega) (by omega)
      subst ei
      exact ⟨rfl, hX.trans gX.symm, hE.trans gE.symm, fun _ => h3.trans g3.symm⟩
    · exact (g0 ⟨ih, h0, h1⟩).elim
    · have h11 := h60 11 (Or.inr rfl)
      have := h60 ih (Or.inl h0)
      have := h60 ig (Or.inl g0)
      have ei : ih = ig := nI_uq (h1.symm.trans g1) (by omega) (by omega)
      subst ei
      omega
  · rcases g with ⟨rfl, ig, g0, g1, g2, g3, gX, gE⟩ | ⟨rfl, g0, gX, gE⟩ | ⟨rfl, ⟨ig, g0, g1, g2⟩, gX, gE⟩
    · exact (h0 ⟨ig, g0, g1⟩).elim
    · exact ⟨rfl, hX.trans gX.symm, hE.trans gE.symm, fun e => absurd e (by decide)⟩
    · exact (h0 ⟨ig, g0, g1⟩).elim
  · rcases g with ⟨rfl, ig, g0, g1, g2, g3, gX, gE⟩ | ⟨rfl, g0, gX, gE⟩ | ⟨rfl, ⟨ig, g0, g1, g2⟩, gX, gE⟩
    · have h11 := h60 11 (Or.inr rfl)
      have := h60 ih (Or.inl h0)
      have := h60 ig (Or.inl g0)
      have ei : ih = ig := nI_uq (h1.symm.trans g1) (by omega) (by omega)
      subst ei
      omega
    · exact (g0 ⟨ih, h0, h1⟩).elim
    · exact ⟨rfl, hX.trans gX.symm, hE.trans gE.symm, fun e => absurd e (by decide)⟩
def RP_ahead (X : Nat → List Nat) (es : List Nat) (x : Int32) (y : Int32) (cd : Int32) (v9r : Int32) (X1 : Nat → List Nat) (es1 : List Nat) : Prop := (cd = 0 ∧ ∃ (i : Nat) (j : Nat), i < 4 ∧ x = nI i ∧ j < 24 ∧ y = nI j ∧ ([codeT.getD j 0] ++ X i).length ≤ 60 ∧ v9r = nI ([codeT.getD j 0] ++ X i).length ∧ X1 = (updT X i ([codeT.getD j 0] ++ X i)) ∧ es1 = es) ∨ (cd = 1 ∧ (NT x) ∧ X1 = X ∧ es1 = es) ∨ (cd = 2 ∧ ((∃ i : Nat, i < 4 ∧ x = nI i) ∧ NS y) ∧ X1 = X ∧ es1 = es) ∨ (cd = 3 ∧ (∃ i j : Nat, i < 4 ∧ x = nI i ∧ j < 24 ∧ y = nI j ∧ 60 < ([codeT.getD j 0] ++ X i).length) ∧ X1 = X ∧ es1 = es)
theorem ag_ahead {X X1 X2 : Nat → List Nat} {es es1 es2 : List Nat} {x : Int32} {y : Int32} {c1 c2 : Int32} {v1 v2 : Int32} (h60 : ∀ i : Nat, i < 4 ∨ i = 11 → (X i).length ≤ 60) (he : es.length ≤ 61) (h : RP_ahead X es x y c1 v1 X1 es1) (g : RP_ahead X es x y c2 v2 X2 es2) : c1 = c2 ∧ X1 = X2 ∧ es1 = es2 ∧ (c1 = 0 → v1 = v2) := by
  rcases h with ⟨rfl, ih, jh, h0, h1, h2, h3, h4, h5, hX, hE⟩ | ⟨rfl, h0, hX, hE⟩ | ⟨rfl, ⟨h0, h1⟩, hX, hE⟩ | ⟨rfl, ⟨ih, jh, h0, h1, h2, h3, h4⟩, hX, hE⟩
  · rcases g with ⟨rfl, ig, jg, g0, g1, g2, g3, g4, g5, gX, gE⟩ | ⟨rfl, g0, gX, gE⟩ | ⟨rfl, ⟨g0, g1⟩, gX, gE⟩ | ⟨rfl, ⟨ig, jg, g0, g1, g2, g3, g4⟩, gX, gE⟩
    · have h11 := h60 11 (Or.inr rfl)
      have := h60 ih (Or.inl h0)
      have := h60 ig (Or.inl g0)
      have ei : ih = ig := nI_uq (h1.symm.trans g1) (by omega) (by omega)
      subst ei
      have ej : jh = jg := nI_uq (h3.symm.trans g3) (by omega) (by omega)
      subst ej
      exact ⟨rfl, hX.trans gX.symm, hE.trans gE.symm, fun _ => h5.trans g5.symm⟩
    · exact (g0 ⟨ih, h0, h1⟩).elim
    · exact (g1 ⟨jh, h2, h3⟩).elim
    · have h11 := h60 11 (Or.inr rfl)
      have := h60 ih (Or.inl h0)
      have := h60 ig (Or.inl g0)
      have ei : ih = ig := nI_uq (h1.symm.trans g1) (by omega) (by omega)
      subst ei
      have ej : jh = jg := nI_uq (h3.symm.trans g3) (by omega) (by omega)
      subst ej
      omega
  · rcases g with ⟨rfl, ig, jg, g0, g1, g2, g3, g4, g5, gX, gE⟩ | ⟨rfl, g0, gX, gE⟩ | ⟨rfl, ⟨g0, g1⟩, gX, gE⟩ | ⟨rfl, ⟨ig, jg, g0, g1, g2, g3, g4⟩, gX, gE⟩
    · exact (h0 ⟨ig, g0, g1⟩).elim
    · exact ⟨rfl, hX.trans gX.symm, hE.trans gE.symm, fun e => absurd e (by decide)⟩
    · exact (h0 g0).elim
    · exact (h0 ⟨ig, g0, g1⟩).elim
  · rcases g with ⟨rfl, ig, jg, g0, g1, g2, g3, g4, g5, gX, gE⟩ | ⟨rfl, g0, gX, gE⟩ | ⟨rfl, ⟨g0, g1⟩, gX, gE⟩ | ⟨rfl, ⟨ig, jg, g0, g1, g2, g3, g4⟩, gX, gE⟩
    · exact (h1 ⟨jg, g2, g3⟩).elim
    · exact (g0 h0).elim
    · exact ⟨rfl, hX.trans gX.symm, hE.trans gE.symm, fun e => absurd e (by decide)⟩
    · exact (h1 ⟨jg, g2, g3⟩).elim
  · rcases g with ⟨rfl, ig, jg, g0, g1, g2, g3, g4, g5, gX, gE⟩ | ⟨rfl, g0, gX, gE⟩ | ⟨rfl, ⟨g0, g1⟩, gX, gE⟩ | ⟨rfl, ⟨ig, jg, g0, g1, g2, g3, g4⟩, gX, gE⟩
    · have h11 := h60 11 (Or.inr rfl)
      have := h60 ih (Or.inl h0)
      have := h60 ig (Or.inl g0)
      have ei : ih = ig := nI_uq (h1.symm.trans g1) (by omega) (by omega)
      subst ei
      have ej : jh = jg := nI_uq (h3.symm.trans g3) (by omega) (by omega)
      subst ej
      omega
    · exact (g0 ⟨ih, h0, h1⟩).elim
    · exact (g1 ⟨jh, h2, h3⟩).elim
    · exact ⟨rfl, hX.trans gX.symm, hE.trans gE.symm, fun e => absurd e (by decide)⟩
def RP_known (X : Nat → List Nat) (es : List Nat) (x : Int32) (y : Int32) (cd : Int32) (v9r : Int32) (X1 : Nat → List Nat) (es1 : List Nat) : Prop := (cd = 0 ∧ ∃ (i : Nat) (j : Nat), i < 4 ∧ x = nI i ∧ j < 7 ∧ y = nI j ∧ (X i ++ knT j).length ≤ 60 ∧ v9r = nI (X i ++ knT j).length ∧ X1 = (updT X i (X i ++ knT j)) ∧ es1 = es) ∨ (cd = 1 ∧ (NT x) ∧ X1 = X ∧ es1 = es) ∨ (cd = 2 ∧ ((∃ i : Nat, i < 4 ∧ x = nI i) ∧ NK y) ∧ X1 = X ∧ es1 = es) ∨ (cd = 3 ∧ (∃ i j : Nat, i < 4 ∧ x = nI i ∧ j < 7 ∧ y = nI j ∧ 60 < (X i ++ knT j).length) ∧ X1 = X ∧ es1 = es)
theorem ag_known {X X1 X2 : Nat → List Nat} {es es1 es2 : List Nat} {x : Int32} {y : Int32} {c1 c2 : Int32} {v1 v2 : Int32} (h60 : ∀ i : Nat, i < 4 ∨ i = 11 → (X i).length ≤ 60) (he : es.length ≤ 61) (h : RP_known X es x y c1 v1 X1 es1) (g : RP_known X es x y c2 v2 X2 es2) : c1 = c2 ∧ X1 = X2 ∧ es1 = es2 ∧ (c1 = 0 → v1 = v2) := by
  rcases h with ⟨rfl, ih, jh, h0, h1, h2, h3, h4, h5, hX, hE⟩ | ⟨rfl, h0, hX, hE⟩ | ⟨rfl, ⟨h0, h1⟩, hX, hE⟩ | ⟨rfl, ⟨ih, jh, h0, h1, h2, h3, h4⟩, hX, hE⟩
  · rcases g with ⟨rfl, ig, jg, g0, g1, g2, g3, g4, g5, gX, gE⟩ | ⟨rfl, g0, gX, gE⟩ | ⟨rfl, ⟨g0, g1⟩, gX, gE⟩ | ⟨rfl, ⟨ig, jg, g0, g1, g2, g3, g4⟩, gX, gE⟩
    · have h11 := h60 11 (Or.inr rfl)
      have := h60 ih (Or.inl h0)
      have := h60 ig (Or.inl g0)
      have ei : ih = ig := nI_uq (h1.symm.trans g1) (by omega) (by omega)
      subst ei
      have ej : jh = jg := nI_uq (h3.symm.trans g3) (by omega) (by omega)
      subst ej
      exact ⟨rfl, hX.trans gX.symm, hE.trans gE.symm, fun _ => h5.trans g5.symm⟩
    · exact (g0 ⟨ih, h0, h1⟩).elim
    · exact (g1 ⟨jh, h2, h3⟩).elim
    · have h11 := h60 11 (Or.inr rfl)
      have := h60 ih (Or.inl h0)
      have := h60 ig (Or.inl g0)
      have ei : ih = ig := nI_uq (h1.symm.trans g1) (by omega) (by omega)
      subst ei
      have ej : jh = jg := nI_uq (h3.symm.trans g3) (by omega) (by omega)
      subst ej
      omega
  · rcases g with ⟨rfl, ig, jg, g0, g1, g2, g3, g4, g5, gX, gE⟩ | ⟨rfl, g0, gX, gE⟩ | ⟨rfl, ⟨g0, g1⟩, gX, gE⟩ | ⟨rfl, ⟨ig, jg, g0, g1, g2, g3, g4⟩, gX, gE⟩
    · exact (h0 ⟨ig, g0, g1⟩).elim
    · exact ⟨rfl, hX.trans gX.symm, hE.trans gE.symm, fun e => absurd e (by decide)⟩
    · exact (h0 g0).elim
    · exact (h0 ⟨ig, g0, g1⟩).elim
  · rcases g with ⟨rfl, ig, jg, g0, g1, g2, g3, g4, g5, gX, gE⟩ | ⟨rfl, g0, gX, gE⟩ | ⟨rfl, ⟨g0, g1⟩, gX, gE⟩ | ⟨rfl, ⟨ig, jg, g0, g1, g2, g3, g4⟩, gX, gE⟩
    · exact (h1 ⟨jg, g2, g3⟩).elim
    · exact (g0 h0).elim
    · exact ⟨rfl, hX.trans gX.symm, hE.trans gE.symm, fun e => absurd e (by decide)⟩
    · exact (h1 ⟨jg, g2, g3⟩).elim
  · rcases g with ⟨rfl, ig, jg, g0, g1, g2, g3, g4, g5, gX, gE⟩ | ⟨rfl, g0, gX, gE⟩ | ⟨rfl, ⟨g0, g1⟩, gX, gE⟩ | ⟨rfl, ⟨ig, jg, g0, g1, g2, g3, g4⟩, gX, gE⟩
    · have h11 := h60 11 (Or.inr rfl)
      have := h60 ih (Or.inl h0)
      have := h60 ig (Or.inl g0)
      have ei : ih = ig := nI_uq (h1.symm.trans g1) (by omega) (by omega)
      subst ei
      have ej : jh = jg := nI_uq (h3.symm.trans g3) (by omega) (by omega)
      subst ej
      omega
    · exact (g0 ⟨ih, h0, h1⟩).elim
    · exact (g1 ⟨jh, h2, h3⟩).elim
    · exact ⟨rfl, hX.trans gX.symm, hE.trans gE.symm, fun e => absurd e (by decide)⟩
def RP_lay (X : Nat → List Nat) (es : List Nat) (x : Int32) (cd : Int32) (v9r : Int32) (X1 : Nat → List Nat) (es1 : List Nat) : Prop := (cd = 0 ∧ ∃ (i : Nat), i < 4 ∧ x = nI i ∧ v9r = nI (X i).length ∧ X1 = (updT X 11 (X i)) ∧ es1 = es) ∨ (cd = 1 ∧ (NT x) ∧ X1 = X ∧ es1 = es)
theorem ag_lay {X X1 X2 : Nat → List Nat} {es es1 es2 : List Nat} {x : Int32} {c1 c2 : Int32} {v1 v2 : Int32} (h60 : ∀ i : Nat, i < 4 ∨ i = 11 → (X i).length ≤ 60) (he : es.length ≤ 61) (h : RP_lay X es x c1 v1 X1 es1) (g : RP_lay X es x c2 v2 X2 es2) : c1 = c2 ∧ X1 = X2 ∧ es1 = es2 ∧ (c1 = 0 → v1 = v2) := by
  rcases h with ⟨rfl, ih, h0, h1, h2, hX, hE⟩ | ⟨rfl, h0, hX, hE⟩
  · rcases g with ⟨rfl, ig, g0, g1, g2, gX, gE⟩ | ⟨rfl, g0, gX, gE⟩
    · have h11 := h60 11 (Or.inr rfl)
      have := h60 ih (Or.inl h0)
      have := h60 ig (Or.inl g0)
      have ei : ih = ig := nI_uq (h1.symm.trans g1) (by omega) (by omega)
      subst ei
      exact ⟨rfl, hX.trans gX.symm, hE.trans gE.symm, fun _ => h2.trans g2.symm⟩
    · exact (g0 ⟨ih, h0, h1⟩).elim
  · rcases g with ⟨rfl, ig, g0, g1, g2, gX, gE⟩ | ⟨rfl, g0, gX, gE⟩
    · exact (h0 ⟨ig, g0, g1⟩).elim
    · exact ⟨rfl, hX.trans gX.symm, hE.trans gE.symm, fun e => absurd e (by decide)⟩
def RP_set (X : Nat → List Nat) (es : List Nat) (x : Int32) (y : Int32) (cd : Int32) (v9r : Int32) (X1 : Nat → List Nat) (es1 : List Nat) : Prop := (cd = 0 ∧ ∃ (a9 : Nat) (j : Nat), a9 < (X 11).length ∧ x = nI a9 ∧ j < 24 ∧ y = nI j ∧ v9r = nI ((X 11).getD a9 0) ∧ X1 = (updT X 11 ((X 11).set a9 (codeT.getD j 0))) ∧ es1 = es) ∨ (cd = 1 ∧ (¬ ∃ a9 : Nat, a9 < (X 11).length ∧ x = nI a9) ∧ X1 = X ∧ es1 = es) ∨ (cd = 2 ∧ ((∃ a9 : Nat, a9 < (X 11).length ∧ x = nI a9) ∧ NS y) ∧ X1 = X ∧ es1 = es)
theorem ag_set {X X1 X2 : Nat → List Nat} {es es1 es2 : List Nat} {x : Int32} {y : Int32} {c1 c2 : Int32} {v1 v2 : Int32} (h60 : ∀ i : Nat, i < 4 ∨ i = 11 → (X i).length ≤ 60) (he : es.length ≤ 61) (h : RP_set X es x y c1 v1 X1 es1) (g : RP_set X es x y c2 v2 X2 es2) : c1 = c2 ∧ X1 = X2 ∧ es1 = es2 ∧ (c1 = 0 → v1 = v2) := by
  rcases h with ⟨rfl, a9h, jh, h0, h1, h2, h3, h4, hX, hE⟩ | ⟨rfl, h0, hX, hE⟩ | ⟨rfl, ⟨h0, h1⟩, hX, hE⟩
  · rcases g with ⟨rfl, a9g, jg, g0, g1, g2, g3, g4, gX, gE⟩ | ⟨rfl, g0, gX, gE⟩ | ⟨rfl, ⟨g0, g1⟩, gX, gE⟩
    · have h11 := h60 11 (Or.inr rfl)
      have ea9 : a9h = a9g := nI_uq (h1.symm.trans g1) (by omega) (by omega)
      subst ea9
      have ej : jh = jg := nI_uq (h3.symm.trans g3) (by omega) (by omega)
      subst ej
      exact ⟨rfl, hX.trans gX.symm, hE.trans gE.symm, fun _ => h4.trans g4.symm⟩
    · exact (g0 ⟨a9h, by first | assumption | omega, by first | assumption | omega⟩).elim
    · exact (g1 ⟨jh, h2, h3⟩).elim
  · rcases g with ⟨rfl, a9g, jg, g0, g1, g2, g3, g4, gX, gE⟩ | ⟨rfl, g0, gX, gE⟩ | ⟨rfl, ⟨g0, g1⟩, gX, gE⟩
    · exact (h0 ⟨a9g, by first | assumption | omega, by first | assumption | omega⟩).elim
    · exact ⟨rfl, hX.trans gX.symm, hE.trans gE.symm, fun e => absurd e (by decide)⟩
    · exact (h0 g0).elim
  · rcases g with ⟨rfl, a9g, jg, g0, g1, g2, g3, g4, gX, gE⟩ | ⟨rfl, g0, gX, gE⟩ | ⟨rfl, ⟨g0, g1⟩, gX, gE⟩
    · exact (h1 ⟨jg, g2, g3⟩).elim
    · exact (g0 h0).elim
    · exact ⟨rfl, hX.trans gX.symm, hE.trans gE.symm, fun e => absurd e (by decide)⟩
def RP_take (X : Nat → List Nat) (es : List Nat) (x : Int32) (cd : Int32) (v9r : Int32) (X1 : Nat → List Nat) (es1 : List Nat) : Prop := (cd = 0 ∧ ∃ (i : Nat), i < 4 ∧ x = nI i ∧ v9r = nI (X 11).length ∧ X1 = (updT X i (X 11)) ∧ es1 = es) ∨ (cd = 1 ∧ (NT x) ∧ X1 = X ∧ es1 = es)
theorem ag_take {X X1 X2 : Nat → List Nat} {es es1 es2 : List Nat} {x : Int32} {c1 c2 : Int32} {v1 v2 : Int32} (h60 : ∀ i : Nat, i < 4 ∨ i = 11 → (X i).length ≤ 60) (he : es.length ≤ 61) (h : RP_take X es x c1 v1 X1 es1) (g : RP_take X es x c2 v2 X2 es2) : c1 = c2 ∧ X1 = X2 ∧ es1 = es2 ∧ (c1 = 0 → v1 = v2) := by
  rcases h with ⟨rfl, ih, h0, h1, h2, hX, hE⟩ | ⟨rfl, h0, hX, hE⟩
  · rcases g with ⟨rfl, ig, g0, g1, g2, gX, gE⟩ | ⟨rfl, g0, gX, gE⟩
    · have h11 := h60 11 (Or.inr rfl)
      have := h60 ih (Or.inl h0)
      have := h60 ig (Or.inl g0)
      have ei : ih = ig := nI_uq (h1.symm.trans g1) (by omega) (by omega)
      subst ei
      exact ⟨rfl, hX.trans gX.symm, hE.trans gE.symm, fun _ => h2.trans g2.symm⟩
    · exact (g0 ⟨ih, h0, h1⟩).elim
  · rcases g with ⟨rfl, ig, g0, g1, g2, gX, gE⟩ | ⟨rfl, g0, gX, gE⟩
    · exact (h0 ⟨ig, g0, g1⟩).elim
    · exact ⟨rfl, hX.trans gX.symm, hE.trans gE.symm, fun e => absurd e (by decide)⟩
def RP_takePart (X : Nat → List Nat) (es : List Nat) (x : Int32) (f9 : Int32) (m9 : Int32) (cd : Int32) (v9r : Int32) (X1 : Nat → List Nat) (es1 : List Nat) : Prop := (cd = 0 ∧ ∃ (i : Nat) (a9 : Nat) (b9 : Nat), i < 4 ∧ x = nI i ∧ f9 = nI a9 ∧ m9 = nI b9 ∧ a9 + b9 ≤ (X 11).length ∧ v9r = nI (cutL (X 11) a9 (a9 + b9)).length ∧ X1 = (updT X i (cutL (X 11) a9 (a9 + b9))) ∧ es1 = es) ∨ (cd = 1 ∧ (NT x ∨ ¬ ∃ a9 b9 : Nat, f9 = nI a9 ∧ m9 = nI b9 ∧ a9 + b9 ≤ (X 11).length) ∧ X1 = X ∧ es1 = es)
theorem ag_takePart {X X1 X2 : Nat → List Nat} {es es1 es2 : List Nat} {x : Int32} {f9 : Int32} {m9 : Int32} {c1 c2 : Int32} {v1 v2 : Int32} (h60 : ∀ i : Nat, i < 4 ∨ i = 11 → (X i).length ≤ 60) (he : es.length ≤ 61) (h : RP_takePart X es x f9 m9 c1 v1 X1 es1) (g : RP_takePart X es x f9 m9 c2 v2 X2 es2) : c1 = c2 ∧ X1 = X2 ∧ es1 = es2 ∧ (c1 = 0 → v1 = v2) := by
  rcases h with ⟨rfl, ih, a9h, b9h, h0, h1, h2, h3, h4, h5, hX, hE⟩ | ⟨rfl, h0, hX, hE⟩
  · rcases g with ⟨rfl, ig, a9g, b9g, g0, g1, g2, g3, g4, g5, gX, gE⟩ | ⟨rfl, g0, gX, gE⟩
    · have h11 := h60 11 (Or.inr rfl)
      have := h60 ih (Or.inl h0)
      have := h60 ig (Or.inl g0)
      have ei : ih = ig := nI_uq (h1.symm.trans g1) (by omega) (by omega)
      subst ei
      have ea9 : a9h = a9g := nI_uq (h2.symm.trans g2) (by omega) (by omega)
      subst ea9
      have eb9 : b9h = b9g := nI_uq (h3.symm.trans g3) (by omega) (by omega)
      subst eb9
      exact ⟨rfl, hX.trans gX.symm, hE.trans gE.symm, fun _ => h5.trans g5.symm⟩
    · rcases g0 with l0 | l1
      · exact (l0 ⟨ih, h0, h1⟩).elim
      · exact (l1 ⟨a9h, b9h, by first | assumption | omega, by first | assumption | omega, by first | assumption | omega⟩).elim
  · rcases g with ⟨rfl, ig, a9g, b9g, g0, g1, g2, g3, g4, g5, gX, gE⟩ | ⟨rfl, g0, gX, gE⟩
    · rcases h0 with l0 | l1
      · exact (l0 ⟨ig, g0, g1⟩).elim
      · exact (l1 ⟨a9g, b9g, by first | assumption | omega, by first | assumption | omega, by first | assumption | omega⟩).elim
    · exact ⟨rfl, hX.trans gX.symm, hE.trans gE.symm, fun e => absurd e (by decide)⟩
def RP_cut (X : Nat → List Nat) (es : List Nat) (x : Int32) (cd : Int32) (v9r : Int32) (X1 : Nat → List Nat) (es1 : List Nat) : Prop := (cd = 0 ∧ ∃ (i : Nat) (e7 : List Nat), i < 4 ∧ x = nI i ∧ isCut (X i) e7 ∧ v9r = nI e7.length ∧ X1 = (updT X 14 (X i)) ∧ es1 = e7) ∨ (cd = 1 ∧ (NT x) ∧ X1 = X ∧ es1 = es)
theorem ag_cut {X X1 X2 : Nat → List Nat} {es es1 es2 : List Nat} {x : Int32} {c1 c2 : Int32} {v1 v2 : Int32} (h60 : ∀ i : Nat, i < 4 ∨ i = 11 → (X i).length ≤ 60) (he : es.length ≤ 61) (h : RP_cut X es x c1 v1 X1 es1) (g : RP_cut X es x c2 v2 X2 es2) : c1 = c2 ∧ X1 = X2 ∧ es1 = es2 ∧ (c1 = 0 → v1 = v2) := by
  rcases h with ⟨rfl, ih, e7h, h0, h1, h2, h3, hX, hE⟩ | ⟨rfl, h0, hX, hE⟩
  · rcases g with ⟨rfl, ig, e7g, g0, g1, g2, g3, gX, gE⟩ | ⟨rfl, g0, gX, gE⟩
    · have h11 := h60 11 (Or.inr rfl)
      have := h60 ih (Or.inl h0)
      have := h60 ig (Or.inl g0)
      have ei : ih = ig := nI_uq (h1.symm.trans g1) (by omega) (by omega)
      subst ei
      have ee7 : e7h = e7g := isCut_uq h2 g2
      subst ee7
      exact ⟨rfl, hX.trans gX.symm, hE.trans gE.symm, fun _ => h3.trans g3.symm⟩
    · exact (g0 ⟨ih, h0, h1⟩).elim
  · rcases g with ⟨rfl, ig, e7g, g0, g1, g2, g3, gX, gE⟩ | ⟨rfl, g0, gX, gE⟩
    · exact (h0 ⟨ig, g0, g1⟩).elim
    · exact ⟨rfl, hX.trans gX.symm, hE.trans gE.symm, fun e => absurd e (by decide)⟩
def RP_takePiece (X : Nat → List Nat) (es : List Nat) (x : Int32) (y : Int32) (cd : Int32) (v9r : Int32) (X1 : Nat → List Nat) (es1 : List Nat) : Prop := (cd = 0 ∧ ∃ (j : Nat) (i : Nat), j < es.length ∧ x = nI j ∧ i < 4 ∧ y = nI i ∧ v9r = nI (cutL (X 14) (bgE es j) (es.getD j 0)).length ∧ X1 = (updT X i (cutL (X 14) (bgE es j) (es.getD j 0))) ∧ es1 = es) ∨ (cd = 1 ∧ ((¬ ∃ j : Nat, j < es.length ∧ x = nI j) ∨ NT y) ∧ X1 = X ∧ es1 = es)
theorem ag_takePiece {X X1 X2 : Nat → List Nat} {es es1 es2 : List Nat} {x : Int32} {y : Int32} {c1 c2 : Int32} {v1 v2 : Int32} (h60 : ∀ i : Nat, i < 4 ∨ i = 11 → (X i).length ≤ 60) (he : es.length ≤ 61) (h : RP_takePiece X es x y c1 v1 X1 es1) (g : RP_takePiece X es x y c2 v2 X2 es2) : c1 = c2 ∧ X1 = X2 ∧ es1 = es2 ∧ (c1 = 0 → v1 = v2) := by
  rcases h with ⟨rfl, jh, ih, h0, h1, h2, h3, h4, hX, hE⟩ | ⟨rfl, h0, hX, hE⟩
  · rcases g with ⟨rfl, jg, ig, g0, g1, g2, g3, g4, gX, gE⟩ | ⟨rfl, g0, gX, gE⟩
    · have h11 := h60 11 (Or.inr rfl)
      have := h60 ih (Or.inl h2)
      have := h60 ig (Or.inl g2)
      have ej : jh = jg := nI_uq (h1.symm.trans g1) (by omega) (by omega)
      subst ej
      have ei : ih = ig := nI_uq (h3.symm.trans g3) (by omega) (by omega)
      subst ei
      exact ⟨rfl, hX.trans gX.symm, hE.trans gE.symm, fun _ => h4.trans g4.symm⟩
    · rcases g0 with l0 | l1
      · exact (l0 ⟨jh, by first | assumption | omega, by first | assumption | omega⟩).elim
      · exact (l1 ⟨ih, h2, h3⟩).elim
  · rcases g with ⟨rfl, jg, ig, g0, g1, g2, g3, g4, gX, gE⟩ | ⟨rfl, g0, gX, gE⟩
    · rcases h0 with l0 | l1
      · exact (l0 ⟨jg, by first | assumption | omega, by first | assumption | omega⟩).elim
      · exact (l1 ⟨ig, g2, g3⟩).elim
    · exact ⟨rfl, hX.trans gX.symm, hE.trans gE.symm, fun e => absurd e (by decide)⟩
def RP_orderLike (X : Nat → List Nat) (es : List Nat) (x : Int32) (y : Int32) (cd : Int32) (v9r : Int32) (X1 : Nat → List Nat) (es1 : List Nat) : Prop := (cd = 0 ∧ ∃ (i : Nat) (j : Nat), i < 4 ∧ x = nI i ∧ j < 4 ∧ y = nI j ∧ (∃ o9, ordR true (X i) (X j) o9 ∧ v9r = sgI o9) ∧ X1 = X ∧ es1 = es) ∨ (cd = 1 ∧ (NT x ∨ NT y) ∧ X1 = X ∧ es1 = es)
theorem ag_orderLike {X X1 X2 : Nat → List Nat} {es es1 es2 : List Nat} {x : Int32} {y : Int32} {c1 c2 : Int32} {v1 v2 : Int32} (h60 : ∀ i : Nat, i < 4 ∨ i = 11 → (X i).length ≤ 60) (he : es.length ≤ 61) (h : RP_orderLike X es x y c1 v1 X1 es1) (g : RP_orderLike X es x y c2 v2 X2 es2) : c1 = c2 ∧ X1 = X2 ∧ es1 = es2 ∧ (c1 = 0 → v1 = v2) := by
  rcases h with ⟨rfl, ih, jh, h0, h1, h2, h3, h4, hX, hE⟩ | ⟨rfl, h0, hX, hE⟩
  · rcases g with ⟨rfl, ig, jg, g0, g1, g2, g3, g4, gX, gE⟩ | ⟨rfl, g0, gX, gE⟩
    · have h11 := h60 11 (Or.inr rfl)
      have := h60 ih (Or.inl h0)
      have := h60 jh (Or.inl h2)
      have := h60 ig (Or.inl g0)
      have := h60 jg (Or.inl g2)
      have ei : ih = ig := nI_uq (h1.symm.trans g1) (by omega) (by omega)
      subst ei
      have ej : jh = jg := nI_uq (h3.symm.trans g3) (by omega) (by omega)
      subst ej
      exact ⟨rfl, hX.trans gX.symm, hE.trans gE.symm, fun _ => sg_uq h4 g4⟩
    · rcases g0 with l0 | l1
      · exact (l0 ⟨ih, h0, h1⟩).elim
      · exact (l1 ⟨jh, h2, h3⟩).elim
  · rcases g with ⟨rfl, ig, jg, g0, g1, g2, g3, g4, gX, gE⟩ | ⟨rfl, g0, gX, gE⟩
    · rcases h0 with l0 | l1
      · exact (l0 ⟨ig, g0, g1⟩).elim
      · exact (l1 ⟨jg, g2, g3⟩).elim
    · exact ⟨rfl, hX.trans gX.symm, hE.trans gE.symm, fun e => absurd e (by decide)⟩
