/-! OWN LAYER, 10: cells of different kinds are different cells -/
section NE
variable {s : State} {H : Heap} {D : va_G} {cl : List vw_C} {tys : List (ClassId × FieldType)} {a b : Nat}
theorem vp_cell_cls (cA : ClassId) (x : vp_A) : (vp_cell cA x).cls = cA := by
  obtain ⟨n, f⟩ := x
  rcases f with f | f | f | f | f <;> rfl
theorem arr_kind (hK : va_K D cl tys s) {t0 : Nat} {cA : ClassId} {ty : FieldType} (ht : tys[t0]? = some (cA, ty)) : ∃ (k : Class) (comp : ClassId), s.vm.classes[cA]? = some k ∧ k.kind = .array comp ty := by
  obtain ⟨-, k, h1, comp, h2⟩ := (hK.2 t0 _ ht).1 0 (fun _ => .null)
  exact ⟨k, comp, h1, h2⟩
theorem at_ne_oa (hK : va_K D cl tys s) {ci : Nat} {fs : List Value} {r : vw_C} {cA : ClassId} {x : vp_A} {ty : FieldType} (h1 : va_at D cl (a, .inr (ci, fs)) H) (hc : cl[ci]? = some r) (h2 : va_at D cl (b, .inl (cA, x)) H) (t0 : Nat) (ht : tys[t0]? = some (cA, ty)) : a ≠ b := by
  rintro rfl
  obtain ⟨r', hr', cell, q1, q2, q3, q4⟩ := h1
  have h5 : H[a]? = some (vp_cell cA x) := h2
  have e1 : cell = vp_cell cA x := Option.some.inj (q1.symm.trans h5)
  have e2 : D.1 ci = cA := by rw [← q2, e1, vp_cell_cls]
  obtain ⟨k, comp, k1, k2⟩ := arr_kind hK ht
  obtain ⟨-, kC, k3, k4⟩ := (hK.1 ci r hc).2
  rw [e2, k1] at k3
  cases k3
  rw [k2] at k4
  cases k4
theorem at_ne_aa (hK : va_K D cl tys s) {c1 c2 : ClassId} {x1 x2 : vp_A} {ty1 ty2 : FieldType} (h1 : va_at D cl (a, .inl (c1, x1)) H) (h2 : va_at D cl (b, .inl (c2, x2)) H) (t1 t2 : Nat) (ht1 : tys[t1]? = some (c1, ty1)) (ht2 : tys[t2]? = some (c2, ty2)) (hne : ty1 ≠ ty2) : a ≠ b := by
  rintro rfl
  have h3 : H[a]? = some (vp_cell c1 x1) := h1
  have h4 : H[a]? = some (vp_cell c2 x2) := h2
  have e1 : vp_cell c1 x1 = vp_cell c2 x2 := Option.some.inj (h3.symm.trans h4)
  have e2 : c1 = c2 := by rw [← vp_cell_cls c1 x1, e1, vp_cell_cls]
  subst e2
  obtain ⟨k, comp, k1, k2⟩ := arr_kind hK ht1
  obtain ⟨k', comp', k3, k4⟩ := arr_kind hK ht2
  rw [k1] at k3
  cases k3
  rw [k2] at k4
  cases k4
  exact hne rfl
end NE
