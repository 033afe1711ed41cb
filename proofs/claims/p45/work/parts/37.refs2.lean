/-! OWN LAYER, 9: arrays of arrays of ints -/
section REFS2
variable {p : Program} {l : Launch} {e : Env} {R : Room} {s : State} {m : MethodId} {args : Array Value} {below : List Frame} {meth : Method} {c : Code} {H : Heap} {locs : List Loc} {cells slots : Nat} {Q : State → Prop}
variable {cc : ByteArray} {pc : Nat} {ls : Array Slot} {rest : List Value} {D : va_G} {cl : List vw_C} {A : Nat → Prop} {a : Nat} {tys : List (ClassId × FieldType)} {H0 : Heap}
theorem h_aaldI (hexec : p.tables.exec = Jvm.exec) (hb : c.code = cc) (hK : va_K D cl tys s) (t0 : Nat) {cA : ClassId} {n : Nat} {f : Nat → Option Nat} (h : va_at D cl (a, .inl (cA, n, .inr (.inr (.inr (.inr f))))) H) (ht : tys[t0]? = some (cA, .array .int)) {i : Int32} (hin : vp_in i n) (hdg : decode cc pc = .ok (.aaload, 1))
    (kk : W p l e R s m args below meth c H locs cells slots Q (F0 m (pc + 1) ls (va_rf (f i.toNatClampNeg) :: rest))) : W p l e R s m args below meth c H locs cells slots Q (F0 m pc ls (.int i :: .ref a :: rest)) := by
  have hlt : i.toNatClampNeg < n := Nat.not_le.mp fun q => hin (Or.inr q)
  exact W.aald (v := va_rf (f i.toNatClampNeg)) (ty := .array .int) hexec hb h ((hK.2 t0 _ ht).1 n (fun j => va_rf (f j))) rfl (fun q => by cases q) (by show ¬ (i < 0 ∨ (arrV _ _ _).slots.size ≤ _); rw [arrV_size]; exact hin) (by show (arrV _ _ _).slots[_]? = _; rw [arrV_read _ _ hlt]) rfl rfl hdg kk
theorem h_aastI (hexec : p.tables.exec = Jvm.exec) (hb : c.code = cc) {cA cI : ClassId} {n v : Nat} {f : Nat → Option Nat} (h : va_at D cl (a, .inl (cA, n, .inr (.inr (.inr (.inr f))))) H) (hk : ∃ kA : Class, s.vm.classes[cA]? = some kA ∧ kA.kind = .array cI (.array .int)) (hI : ∃ (kI : Class) (comp : ClassId), s.vm.classes[cI]? = some kI ∧ kI.kind = .array comp .int) (hv : ∃ cv : Cell, H[v]? = some cv ∧ cv.cls = cI ∧ ∀ q, cv.vm ≠ .statics q) (hS : va_S A H0 H locs) (ha : A a) {i : Int32} (hin : vp_in i n) (hdg : decode cc pc = .ok (.aastore, 1))
    (kk : ∀ (H1 : Heap) (locs1 : List Loc), va_at D cl (a, .inl (cA, n, .inr (.inr (.inr (.inr (va_up f i.toNatClampNeg (some v))))))) H1 → H1.size = H.size → (∀ q : Nat, q ≠ a → H1[q]? = H[q]?) → va_S A H0 H1 locs1 → W p l e R s m args below meth c H1 locs1 cells slots Q (F0 m (pc + 1) ls rest)) : W p l e R s m args below meth c H locs cells slots Q (F0 m pc ls (.ref v :: .int i :: .ref a :: rest)) := by
  have hlt : i.toNatClampNeg < n := Nat.not_le.mp fun q => hin (Or.inr q)
  have h0 : ¬ i < 0 := fun q => hin (Or.inl q)
  obtain ⟨kA, k1, k2⟩ := hk
  obtain ⟨kI, comp, k3, k4⟩ := hI
  obtain ⟨cv, g1, g2, g3⟩ := hv
  refine W.aast hexec hb h (fun q h => by cases h) (fun h => by cases h) k1 k2 rfl k3 ⟨h0, by show _ < (arrV _ _ _).slots.size; rw [arrV_size]; exact hlt⟩ g1 g3 (by rw [g2]; exact k3) (by rw [g2]; exact Vm.assignable_self _ _) rfl rfl hdg fun H1 e z oq => ?_
  refine kk H1 _ ?_ z oq (hS.put z oq ha)
  show H1[a]? = some (vp_cell _ _)
  rw [e]
  rw [vp_cell_q, vp_cell_q, arrV_store]
  congr 2
  funext q
  by_cases hq : q = i.toNatClampNeg
  · subst hq
    simp [updV, va_up, va_rf]
  · simp [updV, va_up, hq]
theorem kII {G : Cx} (hC : cx G A s) : ∃ kA : Class, s.vm.classes[G.2.1 4]? = some kA ∧ kA.kind = .array (G.2.1 0) (.array .int) := by
  have h1 := hC.2.2.2.2.2.2.2.2.2.2.1
  obtain ⟨comp, c9, k9, q1, q2, q3, q4⟩ := Cond.arrayOver_specA h1
  have g4 : s.vm.findClass ("[" ++ (FieldType.array .int).toString) = some (G.2.1 4) := (hC.1.2 4 _ rfl).2
  have g0 : s.vm.findClass ("[" ++ (FieldType.int).toString) = some (G.2.1 0) := (hC.1.2 0 _ rfl).2
  have e1 : c9 = G.2.1 4 := Option.some.inj (q4.symm.trans g4)
  have e2 : comp = G.2.1 0 := Option.some.inj (q1.symm.trans g0)
  subst e1 e2
  exact ⟨k9, q2, q3⟩
theorem kI0 {G : Cx} (hC : cx G A s) : ∃ (kI : Class) (comp : ClassId), s.vm.classes[G.2.1 0]? = some kI ∧ kI.kind = .array comp .int := by
  have h := hC.2.1.1 0
  rw [hC.2.1.2] at h
  exact h
end REFS2
