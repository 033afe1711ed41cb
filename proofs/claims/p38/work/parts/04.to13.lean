/-! 04.base -/
section
/-! OWN LAYER. Heaps by single cells, what stays, calls, branches over small numbers -/
abbrev Cx : Type := va_G × (Nat → ClassId) × (Nat → Nat)
abbrev tyL (K : Nat → ClassId) : List (ClassId × FieldType) := [(K 0, .int), (K 1, .char), (K 2, .byte), (K 3, .object RX0), (K 4, .array .int), (K 5, .object "java/lang/Object")]
/-- nothing outside X has changed -/
def kp (X : Nat → Prop) (H H1 : Heap) : Prop := H.size ≤ H1.size ∧ ∀ q : Nat, q < H.size → ¬ X q → H1[q]? = H[q]?
theorem kp.rf {X : Nat → Prop} {H : Heap} : kp X H H := ⟨Nat.le_refl _, fun _ _ _ => rfl⟩
theorem kp.tr {X : Nat → Prop} {H H1 H2 : Heap} (h : kp X H H1) (h2 : kp X H1 H2) : kp X H H2 :=
  ⟨Nat.le_trans h.1 h2.1, fun q a b => (h2.2 q (Nat.lt_of_lt_of_le a h.1) b).trans (h.2 q a b)⟩
theorem kp.wk {X Y : Nat → Prop} {H H1 : Heap} (h : kp X H H1) (hXY : ∀ q : Nat, q < H.size → X q → Y q) : kp Y H H1 :=
  ⟨h.1, fun q a b => h.2 q a (fun z => b (hXY q a z))⟩
theorem kp.one {a : Nat} {H H1 : Heap} (z : H1.size = H.size) (oq : ∀ q : Nat, q ≠ a → H1[q]? = H[q]?) : kp (fun q => q = a) H H1 :=
  ⟨by rw [z]; exact Nat.le_refl _, fun q _ b => oq q b⟩
theorem kp.new {H H1 : Heap} {X : Nat → Prop} (z : H1.size = H.size + 1) (oq : ∀ q : Nat, q < H.size → H1[q]? = H[q]?) : kp X H H1 :=
  ⟨by rw [z]; exact Nat.le_succ _, fun q a _ => oq q a⟩
theorem at_P {D : va_G} {cl : List vw_C} {a : Nat} {e : va_E} {H : Heap} (h : va_at D cl (a, e) H) : va_P D cl [(a, e)] H := fun k q hk => by
  match k, hk with
  | 0, hk => cases hk; exact h
  | k + 1, hk => simp at hk
theorem at_kp {D : va_G} {cl : List vw_C} {a : Nat} {e : va_E} {X : Nat → Prop} {H H1 : Heap} (h : va_at D cl (a, e) H) (hk : kp X H H1) (hX : ¬ X a) : va_at D cl (a, e) H1 := h.kept (hk.2 a h.lt hX)
theorem at_o {D : va_G} {cl : List vw_C} {a b : Nat} {e : va_E} {H H1 : Heap} (h : va_at D cl (a, e) H) (oq : ∀ q : Nat, q ≠ b → H1[q]? = H[q]?) (n : a ≠ b) : va_at D cl (a, e) H1 := h.kept (oq a n)
theorem at_n {D : va_G} {cl : List vw_C} {a : Nat} {e : va_E} {H H1 : Heap} (h : va_at D cl (a, e) H) (oq : ∀ q : Nat, q < H.size → H1[q]? = H[q]?) : va_at D cl (a, e) H1 := h.kept (oq a h.lt)
/-- the cells a, b and the new ones -/
def ow (a b n : Nat) : Nat → Prop := fun q => q = a ∨ q = b ∨ n ≤ q
/-- the new cells alone -/
def nw (n : Nat) : Nat → Prop := fun q => n ≤ q
theorem ow_n {a b n : Nat} : ∀ q : Nat, n ≤ q → ow a b n q := fun _ h => Or.inr (Or.inr h)
theorem nw_n {n : Nat} : ∀ q : Nat, n ≤ q → nw n q := fun _ h => h
theorem kp.nw {H H1 : Heap} (h : kp (nw H.size) H H1) (X : Nat → Prop) : kp X H H1 := h.wk (fun q a b => absurd (show H.size ≤ q from b) (by omega))
/-- a boolean as an int -/
def bI (b : Bool) : Int32 := if b then 1 else 0
theorem bI_t : bI true = 1 := rfl
theorem bI_f : bI false = 0 := rfl
theorem bI_0 {b : Bool} : bI b = 0 ↔ b = false := by cases b <;> decide
theorem bI_01 (b : Bool) : bI b = 0 ∨ bI b = 1 := by cases b <;> decide
theorem nar_bI (b : Bool) : narrow .boolean (.int (bI b)) = .int (bI b) := by cases b <;> rfl
theorem nar_char {c : Nat} (h : c < 65536) : vp_nar .char (nI c) = nI c := by
  have k := (pk_charN h).1
  unfold vp_nar
  rw [k]
section OWN
variable {p : Program} {l : Launch} {e : Env} {R : Room} {s : State} {m : MethodId} {args : Array Value} {below : List Frame} {meth : Method} {c : Code} {H : Heap} {locs : List Loc} {cells slots : Nat} {Q : State → Prop}
variable {cc : ByteArray} {pc : Nat} {ls : Array Slot} {rest : List Value} {D : va_G} {cl : List vw_C} {A : Nat → Prop} {a : Nat} {tys : List (ClassId × FieldType)} {H0 : Heap}
theorem lv_cv {x y : Int32} (h : x = y) (k : W p l e R s m args below meth c H locs cells slots Q (F0 m pc ls (.int y :: rest))) : W p l e R s m args below meth c H locs cells slots Q (F0 m pc ls (.int x :: rest)) := h ▸ k
theorem lv_cvl {x y : Int64} (h : x = y) (k : W p l e R s m args below meth c H locs cells slots Q (F0 m pc ls (.long y :: rest))) : W p l e R s m args below meth c H locs cells slots Q (F0 m pc ls (.long x :: rest)) := h ▸ k
theorem h_put (hexec : p.tables.exec = Jvm.exec) (hb : c.code = cc) {own ref C : String} {T : u_T} {N ci index : Nat} {Ts : List Cond} (hts : ∀ w ∈ Ts, w.before args s = true) (hin : ∀ w ∈ u_ws C T N, w ∈ Ts) (ty0 : Nat → FieldType) (hty : ∀ k, k < N → parseFieldDescriptor (T k).2.2.1 = some (ty0 k)) (hnm : ∀ a, a < N → ∀ b, b < N → a ≠ b → (T a).2.1 ≠ (T b).2.1) (hown : s.vm.findClass own = some m.cls) (hK : va_K D cl tys s) {fs : List Value} (h : va_at D cl (a, .inr (ci, fs)) H) (hS : va_S A H0 H locs) (ha : A a) (hc : cl[ci]? = some (C, T, N)) (k : Nat) (hk : k < N) (hlink : (Cond.fieldLink own index ref (T k).2.1 (T k).2.2.1).before args s = true) (hsame : ∀ x, s.fieldFound? (T k).1 (T k).2.1 (T k).2.2.1 = some x → s.fieldFound? ref (T k).2.1 (T k).2.2.1 = some x) (hfin : (T k).2.2.2 = false) {ty : FieldType} {v : Value} (hd : parseFieldDescriptor (T k).2.2.1 = some ty) (hn : narrow ty v = v) (hfit : fits ty v = true) (hl : k < fs.length)
    (hdg : decode cc pc = .ok (.putfield index, 3)) (kk : ∀ (H1 : Heap) (locs1 : List Loc), va_at D cl (a, .inr (ci, fs.set k v)) H1 → H1.size = H.size → (∀ q : Nat, q ≠ a → H1[q]? = H[q]?) → va_S A H0 H1 locs1 → W p l e R s m args below meth c H1 locs1 cells slots Q (F0 m (pc + 3) ls rest)) : W p l e R s m args below meth c H locs cells slots Q (F0 m pc ls (v :: .ref a :: rest)) := by
  have hap := va_apart (own := own) hts hin ty0 hty hnm hK hc
  obtain ⟨r, h1, cell, q1, q2, q3, q4⟩ := h
  have hr : r = (C, T, N) := Option.some.inj (h1.symm.trans hc)
  subst hr
  obtain ⟨hSl, hfc, kC, hkC, hkind⟩ := hK.1 ci _ hc
  obtain ⟨cf, kf, fi, f, hi, hsl⟩ := hSl k hk
  have hlay := hts _ (hin _ (u_in_lay hk))
  unfold u_lay at hlay
  rw [if_neg (by rw [hfin]; decide)] at hlay
  have hst := (u_facts hfc hkC (u_lays hts hin hk) hi).1
  have h6 := u_store hfc hkC hkind hlay hi hd hn hfit
  refine W.putK hexec hb (f := f) ⟨hown, hlink, ⟨_, _, _, hsame _ hi⟩, hst⟩ (by rw [q2]; exact h6) q1 q3 (by rw [hsl]; exact k2_hasslot (q4 k hk)) rfl rfl hdg fun H' e1 e2 e3 => ?_
  rw [hsl] at e1 ⊢
  exact kk H' _ ⟨_, hc, t_OB.to (V := updV (vp_V fs) k v) ⟨_, e1, q2, q3, t_set q4 hap hk v⟩ (fun j _ => vp_updV_set hl v j)⟩ e2 e3 (hS.put e2 e3 ha)
theorem h_putF (hexec : p.tables.exec = Jvm.exec) (hb : c.code = cc) {own ref C : String} {T : u_T} {N ci index : Nat} {Ts : List Cond} (hts : ∀ w ∈ Ts, w.before args s = true) (hin : ∀ w ∈ u_ws C T N, w ∈ Ts) (ty0 : Nat → FieldType) (hty : ∀ k, k < N → parseFieldDescriptor (T k).2.2.1 = some (ty0 k)) (hnm : ∀ a, a < N → ∀ b, b < N → a ≠ b → (T a).2.1 ≠ (T b).2.1) (hown : s.vm.findClass own = some m.cls) (hK : va_K D cl tys s) {fs : List Value} (h : va_at D cl (a, .inr (ci, fs)) H) (hS : va_S A H0 H locs) (ha : A a) (hc : cl[ci]? = some (C, T, N)) (k : Nat) (hk : k < N) (hlink : (Cond.fieldLink own index ref (T k).2.1 (T k).2.2.1).before args s = true) (hsame : ∀ x, s.fieldFound? (T k).1 (T k).2.1 (T k).2.2.1 = some x → s.fieldFound? ref (T k).2.1 (T k).2.2.1 = some x) (hfin : (T k).2.2.2 = true) (hin2 : meth.name = "<init>") (hdecl : (T k).1 = own) {ty : FieldType} {v : Value} (hd : parseFieldDescriptor (T k).2.2.1 = some ty) (hn : narrow ty v = v) (hfit : fits ty v = true) (hl : k < fs.length)
    (hdg : decode cc pc = .ok (.putfield index, 3)) (kk : ∀ (H1 : Heap) (locs1 : List Loc), va_at D cl (a, .inr (ci, fs.set k v)) H1 → H1.size = H.size → (∀ q : Nat, q ≠ a → H1[q]? = H[q]?) → va_S A H0 H1 locs1 → W p l e R s m args below meth c H1 locs1 cells slots Q (F0 m (pc + 3) ls rest)) : W p l e R s m args below meth c H locs cells slots Q (F0 m pc ls (v :: .ref a :: rest)) := by
  have hap := va_apart (own := own) hts hin ty0 hty hnm hK hc
  obtain ⟨r, h1, cell, q1, q2, q3, q4⟩ := h
  have hr : r = (C, T, N) := Option.some.inj (h1.symm.trans hc)
  subst hr
  obtain ⟨hSl, hfc, kC, hkC, hkind⟩ := hK.1 ci _ hc
  obtain ⟨cf, kf, fi, f, hi, hsl⟩ := hSl k hk
  have hlay := hts _ (hin _ (u_in_lay hk))
  unfold u_lay at hlay
  rw [if_pos hfin] at hlay
  have hst := (u_facts hfc hkC (u_lays hts hin hk) hi).1
  have hcf : m.cls = cf := by
    obtain ⟨_, _, c', _, _, _, -, -, hf', -, -, -, hown2, -⟩ := Cond.laysFinal_spec hlay
    have e1 : c' = cf := by have := hi.symm.trans hf'; simp at this; exact this.1.symm
    rw [hdecl] at hown2
    rw [← e1]; exact Option.some.inj (hown.symm.trans hown2)
  have h6 := u_fits hfc hkC hkind (Or.inr hlay) hi hd hn hfit
  refine W.putFinK hexec hb hown hlink (hsame _ hi) hst hcf hin2 (by rw [q2]; exact h6) q1 q3 (by rw [hsl]; exact k2_hasslot (q4 k hk)) rfl rfl hdg fun H' e1 e2 e3 => ?_
  rw [hsl] at e1 ⊢
  exact kk H' _ ⟨_, hc, t_OB.to (V := updV (vp_V fs) k v) ⟨_, e1, q2, q3, t_set q4 hap hk v⟩ (fun j _ => vp_updV_set hl v j)⟩ e2 e3 (hS.put e2 e3 ha)
theorem h_cst (hexec : p.tables.exec = Jvm.exec) (hb : c.code = cc) (hK : va_K D cl tys s) (t0 : Nat) {cA : ClassId} {n : Nat} {f : Nat → Int32} (h : va_at D cl (a, .inl (cA, n, .inl f)) H) (ht : tys[t0]? = some (cA, .char)) (hS : va_S A H0 H locs) (ha : A a) {i x : Int32} (hin : vp_in i n) (hdg : decode cc pc = .ok (.castore, 1))
    (kk : ∀ (H1 : Heap) (locs1 : List Loc), va_at D cl (a, .inl (cA, n, .inl (upd f i.toNatClampNeg (vp_nar .char x)))) H1 → H1.size = H.size → (∀ q : Nat, q ≠ a → H1[q]? = H[q]?) → va_S A H0 H1 locs1 → W p l e R s m args below meth c H1 locs1 cells slots Q (F0 m (pc + 1) ls rest)) : W p l e R s m args below meth c H locs cells slots Q (F0 m pc ls (.int x :: .int i :: .ref a :: rest)) := by
  refine W.cast hexec hb h ((hK.2 t0 _ ht).1 n (fun j => .int (f j))) (fun q => by cases q) (by show ¬ (i < 0 ∨ (arrV _ _ _).slots.size ≤ _); rw [arrV_size]; exact hin) rfl rfl hdg fun H1 e z oq => ?_
  refine kk H1 _ ?_ z oq (hS.put z oq ha)
  show H1[a]? = some (vp_cell _ _)
  rw [e]
  rw [vp_cell_i, vp_cell_i, arrV_store]
  congr 2
  funext q
  by_cases hq : q = i.toNatClampNeg
  · subst hq
    simp [updV, upd, vp_nar]
    try rfl
  · simp [updV, upd, hq]
theorem h_ist (hexec : p.tables.exec = Jvm.exec) (hb : c.code = cc) (hK : va_K D cl tys s) (t0 : Nat) {cA : ClassId} {n : Nat} {f : Nat → Int32} (h : va_at D cl (a, .inl (cA, n, .inl f)) H) (ht : tys[t0]? = some (cA, .int)) (hS : va_S A H0 H locs) (ha : A a) {i x : Int32} (hin : vp_in i n) (hdg : decode cc pc = .ok (.iastore, 1))
    (kk : ∀ (H1 : Heap) (locs1 : List Loc), va_at D cl (a, .inl (cA, n, .inl (upd f i.toNatClampNeg x))) H1 → H1.size = H.size → (∀ q : Nat, q ≠ a → H1[q]? = H[q]?) → va_S A H0 H1 locs1 → W p l e R s m args below meth c H1 locs1 cells slots Q (F0 m (pc + 1) ls rest)) : W p l e R s m args below meth c H locs cells slots Q (F0 m pc ls (.int x :: .int i :: .ref a :: rest)) := by
  refine W.iast hexec hb h ((hK.2 t0 _ ht).1 n (fun j => .int (f j))) (fun q => by cases q) (by show ¬ (i < 0 ∨ (arrV _ _ _).slots.size ≤ _); rw [arrV_size]; exact hin) rfl rfl hdg fun H1 e z oq => ?_
  refine kk H1 _ ?_ z oq (hS.put z oq ha)
  show H1[a]? = some (vp_cell _ _)
  rw [e]
  rw [vp_cell_i, vp_cell_i, arrV_store]
  congr 2
  funext q
  by_cases hq : q = i.toNatClampNeg
  · subst hq
    simp [updV, upd]
  · simp [updV, upd, hq]
theorem h_bst (hexec : p.tables.exec = Jvm.exec) (hb : c.code = cc) (hK : va_K D cl tys s) (t0 : Nat) {cA : ClassId} {n : Nat} {f : Nat → Int32} (h : va_at D cl (a, .inl (cA, n, .inl f)) H) (ht : tys[t0]? = some (cA, .byte)) (hS : va_S A H0 H locs) (ha : A a) {i x : Int32} (hin : vp_in i n) (hdg : decode cc pc = .ok (.bastore, 1))
    (kk : ∀ (H1 : Heap) (locs1 : List Loc), va_at D cl (a, .inl (cA, n, .inl (upd f i.toNatClampNeg (vp_nar .byte x)))) H1 → H1.size = H.size → (∀ q : Nat, q ≠ a → H1[q]? = H[q]?) → va_S A H0 H1 locs1 → W p l e R s m args below meth c H1 locs1 cells slots Q (F0 m (pc + 1) ls rest)) : W p l e R s m args below meth c H locs cells slots Q (F0 m pc ls (.int x :: .int i :: .ref a :: rest)) := by
  refine W.bast hexec hb h ((hK.2 t0 _ ht).1 n (fun j => .int (f j))) (fun q => by cases q) (by show ¬ (i < 0 ∨ (arrV _ _ _).slots.size ≤ _); rw [arrV_size]; exact hin) rfl rfl hdg fun H1 e z oq => ?_
  refine kk H1 _ ?_ z oq (hS.put z oq ha)
  show H1[a]? = some (vp_cell _ _)
  rw [e]
  rw [vp_cell_i, vp_cell_i, arrV_store]
  congr 2
  funext q
  by_cases hq : q = i.toNatClampNeg
  · subst hq
    simp [updV, upd, vp_nar]
    try rfl
  · simp [updV, upd, hq]
theorem h_newa {atype : ArrayType} {ty : FieldType} {cK : ClassId} {z : vp_A} {N : Nat} {n : Int32} (hexec : p.tables.exec = Jvm.exec) (hb : c.code = cc) (harr : (Cond.arrayClass (newarray.typeOf atype)).before args s = true) (hty : newarray.typeOf atype = ty) (hnm : va_RA s cK ty → s.vm.findClass ("[" ++ ty.toString) = some cK) (hK : va_K D cl tys s) (t0 : Nat) (ht : tys[t0]? = some (cK, ty)) (hS : va_S A H0 H locs)
    (hz : vp_cell cK z = arrV cK N (fun _ => defaultValue ty)) (hn : ¬ n < 0) (hN : n.toNatClampNeg = N) (hbytes : N * componentBytes ty ≤ 536870912) (hcells : cells + 1 ≤ R.cells) (hslots : slots + N ≤ R.slots) (hdg : decode cc pc = .ok (.newarray atype, 2))
    (kk : ∀ (q : Nat) (H1 : Heap), q = H.size → va_at D cl (q, .inl (cK, z)) H1 → H1.size = H.size + 1 → (∀ q : Nat, q < H.size → H1[q]? = H[q]?) → va_S A H0 H1 locs → W p l e R s m args below meth c H1 locs (cells + 1) (slots + N) Q (F0 m (pc + 2) ls (.ref q :: rest))) : W p l e R s m args below meth c H locs cells slots Q (F0 m pc ls (.int n :: rest)) := by
  subst hty
  refine va_newaK hexec hb harr rfl hdg rfl hn hN hbytes hcells hslots rfl fun H1 cA e1 z1 o1 hAr hNm => ?_
  have hc : cA = cK := Option.some.inj (hNm.symm.trans (hnm (hK.2 t0 _ ht).2))
  subst hc
  refine kk H.size H1 rfl ?_ z1 o1 ⟨Nat.le_trans hS.1 (by omega), fun x h1 h2 => (o1 x (Nat.lt_of_lt_of_le h1 hS.1)).trans (hS.2.1 x h1 h2), hS.2.2⟩
  show H1[H.size]? = some (vp_cell _ _)
  rw [hz]
  exact e1
theorem h_new {own C : String} {T : u_T} {N ci index : Nat} {Ts : List Cond} (hexec : p.tables.exec = Jvm.exec) (hb : c.code = cc) (hts : ∀ w ∈ Ts, w.before args s = true) (hin : ∀ w ∈ u_ws C T N, w ∈ Ts) (ty : Nat → FieldType) (hty : ∀ k, k < N → parseFieldDescriptor (T k).2.2.1 = some (ty k)) (hown : s.vm.findClass own = some m.cls) (hcl : (Cond.classLink own index C).before args s = true) (hinst : (Cond.instantiable C N).before args s = true) (hini : (Cond.initialized C).before args s = true)
    (hK : va_K D cl tys s) (hS : va_S A H0 H locs) (hc : cl[ci]? = some (C, T, N)) {fs : List Value} (hfs : ∀ j, j < N → defaultValue (ty j) = vp_V fs j) (hcells : cells + 1 ≤ R.cells) (hslots : slots + N ≤ R.slots) (hdg : decode cc pc = .ok (.new index, 3))
    (kk : ∀ (q : Nat) (H1 : Heap), q = H.size → va_at D cl (q, .inr (ci, fs)) H1 → H1.size = H.size + 1 → (∀ q : Nat, q < H.size → H1[q]? = H[q]?) → va_S A H0 H1 locs → W p l e R s m args below meth c H1 locs (cells + 1) (slots + N) Q (F0 m (pc + 3) ls (.ref q :: rest))) : W p l e R s m args below meth c H locs cells slots Q (F0 m pc ls rest) := by
  have hKn := hK.1 ci _ hc
  refine W.newcK hexec hb hown hcl hinst hini rfl hdg hcells hslots hKn.2.1 rfl fun H1 kC hkC e1 z1 o1 => ?_
  exact kk H.size H1 rfl ⟨_, hc, (u_born ty hts hin hKn hkC e1 hty).to hfs⟩ z1 o1 ⟨Nat.le_trans hS.1 (by omega), fun x h1 h2 => (o1 x (Nat.lt_of_lt_of_le h1 hS.1)).trans (hS.2.1 x h1 h2), hS.2.2⟩
theorem at_recv {ci : Nat} {fs : List Value} {q : vw_C} (hK : va_K D cl tys s) (h : va_at D cl (a, .inr (ci, fs)) H) (hc : cl[ci]? = some q) : ∃ cell : Cell, H[a]? = some cell ∧ cell.vm.isStatics = false ∧ s.vm.findClass q.1 = some cell.cls := va_recv hK (at_P h) hc (q0 := 0) rfl
/-- branches over small numbers -/
theorem b_ge {x y : Nat} {off : Int} {tgt : Nat} (hexec : p.tables.exec = Jvm.exec) (hb : c.code = cc) (hdg : decode cc pc = .ok (.if_icmp .ge off, 3)) (ht : (pc : Int) + off = (tgt : Int)) (hx : x < 2 ^ 31) (hy : y < 2 ^ 31)
    (kt : y ≤ x → W p l e R s m args below meth c H locs cells slots Q (F0 m tgt ls rest)) (kf : x < y → W p l e R s m args below meth c H locs cells slots Q (F0 m (pc + 3) ls rest)) : W p l e R s m args below meth c H locs cells slots Q (F0 m pc ls (.int (nI y) :: .int (nI x) :: rest)) :=
  lv_icmp_ge hexec hb hdg ht (fun h => kt (Nat.le_of_not_lt fun q => nI_ge q hy h)) (fun h => kf (Nat.lt_of_not_le fun q => h (nI_le q hx)))
theorem b_lt {x y : Nat} {off : Int} {tgt : Nat} (hexec : p.tables.exec = Jvm.exec) (hb : c.code = cc) (hdg : decode cc pc = .ok (.if_icmp .lt off, 3)) (ht : (pc : Int) + off = (tgt : Int)) (hx : x < 2 ^ 31) (hy : y < 2 ^ 31)
    (kt : x < y → W p l e R s m args below meth c H locs cells slots Q (F0 m tgt ls rest)) (kf : y ≤ x → W p l e R s m args below meth c H locs cells slots Q (F0 m (pc + 3) ls rest)) : W p l e R s m args below meth c H locs cells slots Q (F0 m pc ls (.int (nI y) :: .int (nI x) :: rest)) :=
  lv_icmp_lt hexec hb hdg ht (fun h => kt ((nI_ltI hx hy).mp h)) (fun h => kf (Nat.le_of_not_lt fun q => h ((nI_ltI hx hy).mpr q)))
theorem b_gt {x y : Nat} {off : Int} {tgt : Nat} (hexec : p.tables.exec = Jvm.exec) (hb : c.code = cc) (hdg : decode cc pc = .ok (.if_icmp .gt off, 3)) (ht : (pc : Int) + off = (tgt : Int)) (hx : x < 2 ^ 31) (hy : y < 2 ^ 31)
    (kt : y < x → W p l e R s m args below meth c H locs cells slots Q (F0 m tgt ls rest)) (kf : x ≤ y → W p l e R s m args below meth c H locs cells slots Q (F0 m (pc + 3) ls rest)) : W p l e R s m args below meth c H locs cells slots Q (F0 m pc ls (.int (nI y) :: .int (nI x) :: rest)) :=
  lv_icmp_gt hexec hb hdg ht (fun h => kt ((nI_ltI hy hx).mp h)) (fun h => kf (Nat.le_of_not_lt fun q => h ((nI_ltI hy hx).mpr q)))
theorem b_le {x y : Nat} {off : Int} {tgt : Nat} (hexec : p.tables.exec = Jvm.exec) (hb : c.code = cc) (hdg : decode cc pc = .ok (.if_icmp .le off, 3)) (ht : (pc : Int) + off = (tgt : Int)) (hx : x < 2 ^ 31) (hy : y < 2 ^ 31)
    (kt : x ≤ y → W p l e R s m args below meth c H locs cells slots Q (F0 m tgt ls rest)) (kf : y < x → W p l e R s m args below meth c H locs cells slots Q (F0 m (pc + 3) ls rest)) : W p l e R s m args below meth c H locs cells slots Q (F0 m pc ls (.int (nI y) :: .int (nI x) :: rest)) :=
  lv_icmp_le hexec hb hdg ht (fun h => kt ((nI_leI hx hy).mp h)) (fun h => kf (Nat.lt_of_not_le fun q => h ((nI_leI hx hy).mpr q)))
theorem b_eq {x y : Nat} {off : Int} {tgt : Nat} (hexec : p.tables.exec = Jvm.exec) (hb : c.code = cc) (hdg : decode cc pc = .ok (.if_icmp .eq off, 3)) (ht : (pc : Int) + off = (tgt : Int)) (hx : x < 2 ^ 31) (hy : y < 2 ^ 31)
    (kt : x = y → W p l e R s m args below meth c H locs cells slots Q (F0 m tgt ls rest)) (kf : x ≠ y → W p l e R s m args below meth c H locs cells slots Q (F0 m (pc + 3) ls rest)) : W p l e R s m args below meth c H locs cells slots Q (F0 m pc ls (.int (nI y) :: .int (nI x) :: rest)) :=
  lv_icmp_eq hexec hb hdg ht (fun h => kt ((nI_eq hx hy).mp h)) (fun h => kf (fun q => h ((nI_eq hx hy).mpr q)))
theorem b_ne {x y : Nat} {off : Int} {tgt : Nat} (hexec : p.tables.exec = Jvm.exec) (hb : c.code = cc) (hdg : decode cc pc = .ok (.if_icmp .ne off, 3)) (ht : (pc : Int) + off = (tgt : Int)) (hx : x < 2 ^ 31) (hy : y < 2 ^ 31)
    (kt : x ≠ y → W p l e R s m args below meth c H locs cells slots Q (F0 m tgt ls rest)) (kf : x = y → W p l e R s m args below meth c H locs cells slots Q (F0 m (pc + 3) ls rest)) : W p l e R s m args below meth c H locs cells slots Q (F0 m pc ls (.int (nI y) :: .int (nI x) :: rest)) :=
  lv_icmp_ne hexec hb hdg ht (fun h => kt (fun q => h ((nI_eq hx hy).mpr q))) (fun h => kf ((nI_eq hx hy).mp h))
theorem z_lt {x : Nat} {off : Int} {tgt : Nat} (hexec : p.tables.exec = Jvm.exec) (hb : c.code = cc) (hdg : decode cc pc = .ok (.ifCond .lt off, 3)) (ht : (pc : Int) + off = (tgt : Int)) (hx : x < 2 ^ 31)
    (kf : W p l e R s m args below meth c H locs cells slots Q (F0 m (pc + 3) ls rest)) : W p l e R s m args below meth c H locs cells slots Q (F0 m pc ls (.int (nI x) :: rest)) :=
  lv_if_lt hexec hb hdg ht (fun h => absurd h (nI_pos hx)) (fun _ => kf)
theorem z_ge {x : Nat} {off : Int} {tgt : Nat} (hexec : p.tables.exec = Jvm.exec) (hb : c.code = cc) (hdg : decode cc pc = .ok (.ifCond .ge off, 3)) (ht : (pc : Int) + off = (tgt : Int)) (hx : x < 2 ^ 31)
    (kt : W p l e R s m args below meth c H locs cells slots Q (F0 m tgt ls rest)) : W p l e R s m args below meth c H locs cells slots Q (F0 m pc ls (.int (nI x) :: rest)) :=
  lv_if_ge hexec hb hdg ht (fun _ => kt) (fun h => absurd (nI_pos' hx) h)
theorem nI_z {x : Nat} (hx : x < 2 ^ 31) : nI x = 0 ↔ x = 0 := nI_eq (b := 0) hx (by decide)
theorem z_eq {x : Nat} {off : Int} {tgt : Nat} (hexec : p.tables.exec = Jvm.exec) (hb : c.code = cc) (hdg : decode cc pc = .ok (.ifCond .eq off, 3)) (ht : (pc : Int) + off = (tgt : Int)) (hx : x < 2 ^ 31)
    (kt : x = 0 → W p l e R s m args below meth c H locs cells slots Q (F0 m tgt ls rest)) (kf : x ≠ 0 → W p l e R s m args below meth c H locs cells slots Q (F0 m (pc + 3) ls rest)) : W p l e R s m args below meth c H locs cells slots Q (F0 m pc ls (.int (nI x) :: rest)) :=
  lv_if_eq hexec hb hdg ht (fun h => kt ((nI_z hx).mp h)) (fun h => kf (fun q => h ((nI_z hx).mpr q)))
theorem z_ne {x : Nat} {off : Int} {tgt : Nat} (hexec : p.tables.exec = Jvm.exec) (hb : c.code = cc) (hdg : decode cc pc = .ok (.ifCond .ne off, 3)) (ht : (pc : Int) + off = (tgt : Int)) (hx : x < 2 ^ 31)
    (kt : x ≠ 0 → W p l e R s m args below meth c H locs cells slots Q (F0 m tgt ls rest)) (kf : x = 0 → W p l e R s m args below meth c H locs cells slots Q (F0 m (pc + 3) ls rest)) : W p l e R s m args below meth c H locs cells slots Q (F0 m pc ls (.int (nI x) :: rest)) :=
  lv_if_ne hexec hb hdg ht (fun h => kt (fun q => h ((nI_z hx).mpr q))) (fun h => kf ((nI_z hx).mp h))
theorem f_eq {b : Bool} {off : Int} {tgt : Nat} (hexec : p.tables.exec = Jvm.exec) (hb : c.code = cc) (hdg : decode cc pc = .ok (.ifCond .eq off, 3)) (ht : (pc : Int) + off = (tgt : Int))
    (kt : b = false → W p l e R s m args below meth c H locs cells slots Q (F0 m tgt ls rest)) (kf : b = true → W p l e R s m args below meth c H locs cells slots Q (F0 m (pc + 3) ls rest)) : W p l e R s m args below meth c H locs cells slots Q (F0 m pc ls (.int (bI b) :: rest)) :=
  lv_if_eq hexec hb hdg ht (fun h => kt (bI_0.mp h)) (fun h => kf (by cases b with | true => rfl | false => exact absurd rfl h))
theorem f_ne {b : Bool} {off : Int} {tgt : Nat} (hexec : p.tables.exec = Jvm.exec) (hb : c.code = cc) (hdg : decode cc pc = .ok (.ifCond .ne off, 3)) (ht : (pc : Int) + off = (tgt : Int))
    (kt : b = true → W p l e R s m args below meth c H locs cells slots Q (F0 m tgt ls rest)) (kf : b = false → W p l e R s m args below meth c H locs cells slots Q (F0 m (pc + 3) ls rest)) : W p l e R s m args below meth c H locs cells slots Q (F0 m pc ls (.int (bI b) :: rest)) :=
  lv_if_ne hexec hb hdg ht (fun h => kt (by cases b with | true => rfl | false => exact absurd rfl h)) (fun h => kf (bI_0.mp h))
end OWN
end
/-! 05.calls -/
section
/-! OWN LAYER, 2: what is known of classes, statics and constants all along (cx); a method's start; calls -/
def stx : Nat → List Nat
  | 0 => [97]
  | 1 => [97, 98]
  | 2 => [65]
  | 3 => [44]
  | 4 => [120, 46, 120]
  | 5 => [97, 66, 45, 49]
  | 6 => []
  | 7 => [116, 114, 117, 101]
  | _ => [102, 97, 108, 115, 101]
def codeT : List Nat := [97, 98, 99, 120, 65, 66, 67, 88, 48, 49, 55, 57, 44, 46, 45, 95, 32, 9, 10, 1, 28, 160, 233, 201]
def knT : Nat → List Nat
  | 0 => []
  | 1 => [97]
  | 2 => [97, 98]
  | 3 => [65]
  | 4 => [44]
  | 5 => [120, 46, 120]
  | _ => [97, 66, 45, 49]
/-- an array of ints that holds t -/
def IA (G : Cx) (a : Nat) (t : List Nat) (H : Heap) : Prop := ∃ (cell : Cell) (i : Nat), H[a]? = some cell ∧ cell.cls = G.2.1 (6 + i) ∧ cell.vm ≠ .unknown ∧ (∀ k, cell.vm ≠ .statics k) ∧ (t.length ≤ cell.slots.size ∧ cell.slots.size.toInt32 = Int32.ofNat t.length) ∧ ∀ j : Nat, j < t.length → cell.slots[j]? = some (.int (nI (t.getD j 0)))
theorem IA.lt {G : Cx} {a : Nat} {t : List Nat} {H : Heap} (h : IA G a t H) : a < H.size := by
  obtain ⟨cell, i, h1, -⟩ := h
  exact (Array.getElem?_eq_some_iff.mp h1).1
theorem IA.at' {G : Cx} {a : Nat} {t : List Nat} {H H1 : Heap} (h : IA G a t H) (hq : H1[a]? = H[a]?) : IA G a t H1 := by
  obtain ⟨cell, i, h1, h2⟩ := h
  exact ⟨cell, i, by rw [hq]; exact h1, h2⟩
theorem IA.kp {G : Cx} {a : Nat} {t : List Nat} {X : Nat → Prop} {H H1 : Heap} (h : IA G a t H) (hk : kp X H H1) (hX : ¬ X a) : IA G a t H1 := h.at' (hk.2 a h.lt hX)
theorem IA.n {G : Cx} {a : Nat} {t : List Nat} {H H1 : Heap} (h : IA G a t H) (oq : ∀ q : Nat, q < H.size → H1[q]? = H[q]?) : IA G a t H1 := h.at' (oq a h.lt)
theorem IA.o {G : Cx} {a b : Nat} {t : List Nat} {H H1 : Heap} (h : IA G a t H) (oq : ∀ q : Nat, q ≠ b → H1[q]? = H[q]?) (n : a ≠ b) : IA G a t H1 := h.at' (oq a n)
theorem IA.mk {G : Cx} {a n : Nat} {t : List Nat} {f : Nat → Int32} {H : Heap} (h6 : G.2.1 6 = G.2.1 0) (h : va_at G.1 vwCl (a, .inl (G.2.1 0, n, .inl f)) H) (hn : n = t.length) (hf : ∀ j, j < n → f j = nI (t.getD j 0)) : IA G a t H := by
  subst hn
  refine ⟨vp_cell (G.2.1 0) (t.length, .inl f), 0, h, ?_, ?_, ?_, ?_, ?_⟩
  · rw [Nat.add_zero, h6]; rfl
  · intro h; cases h
  · intro k h; cases h
  · have e := arrV_size (G.2.1 0) t.length (fun j => Value.int (f j))
    rw [vp_cell_i]
    exact ⟨Nat.le_of_eq e.symm, congrArg Nat.toInt32 e⟩
  · intro j hj
    rw [vp_cell_i, arrV_read _ _ hj, hf j hj]
/-- the text constants: 0 to 8 -/
def sC (G : Cx) (A : Nat → Prop) (U : State) (H : Heap) : Prop := ∀ i : Nat, i < 9 → va_O "java/lang/String" (G.2.2 (20 + i)) A U H ∧ va_OF "java/lang/String" "coder" "B" (.int 0) (G.2.2 (20 + i)) A U H ∧ va_OF "java/lang/String" "value" "[B" (.ref (G.2.2 (40 + i))) (G.2.2 (20 + i)) A U H ∧ va_T .byte (G.2.2 (40 + i)) (stx i).length (fun j => .int (nI ((stx i).getD j 0))) A U H
def sRl : List (String × Nat × String × Nat) := [("Signtext", 243, "a", 0), ("Signtext", 245, "ab", 1), ("Signtext", 247, "A", 2), ("Signtext", 249, ",", 3), ("Signtext", 251, "x.x", 4), ("Signtext", 253, "aB-1", 5), ("Signtext", 255, "", 6), ("Signtext", 111, "true", 7), ("Signtext", 113, "false", 8), ("java/lang/String", 7, "", 6), ("SigntextModel", 150, "", 6)]
def sR (G : Cx) (U : State) : Prop := ∀ q ∈ sRl, vk_R q.1 q.2.1 q.2.2.1 (G.2.2 (20 + q.2.2.2)) U
def zS (G : Cx) (A : Nat → Prop) (U : State) (H : Heap) : Prop :=
  va_Z "Signtext" "CODES" "[I" (.ref (G.2.2 0)) A U H ∧ va_T .int (G.2.2 0) 24 (fun j => .int (nI (codeT.getD j 0))) A U H ∧
  va_Z "SigntextModel" "CODES" "[I" (.ref (G.2.2 1)) A U H ∧ va_T .int (G.2.2 1) 24 (fun j => .int (nI (codeT.getD j 0))) A U H ∧
  va_Z "SigntextModel" "KNOWN" "[[I" (.ref (G.2.2 2)) A U H ∧ va_T (.array .int) (G.2.2 2) 7 (fun j => .ref (G.2.2 (3 + j))) A U H ∧
  (∀ i : Nat, i < 7 → IA G (G.2.2 (3 + i)) (knT i) H ∧ ¬ A (G.2.2 (3 + i))) ∧
  va_Z "java/lang/String" "COMPACT_STRINGS" "Z" (.int 1) A U H ∧
  va_Z "java/util/ArrayList" "DEFAULTCAPACITY_EMPTY_ELEMENTDATA" "[Ljava/lang/Object;" (.ref (G.2.2 10)) A U H ∧ va_T (.object "java/lang/Object") (G.2.2 10) 0 (fun _ => .null) A U H ∧
  va_Zq "jdk/internal/util/Preconditions" "SIOOBE_FORMATTER" "Ljava/util/function/BiFunction;" A U H ∧
  vx_Zq Bundle.tN "UNASSIGNED_STACK" Bundle.steD A U H ∧ vx_Zq Bundle.tN "SUPPRESSED_SENTINEL" Bundle.listD A U H
/-- casts and declarations of the tables, and what is not a cast: they go on as the machine goes on -/
def isX : Cond → Bool
  | .castable _ _ => true
  | .declares _ => true
  | _ => false
def XW : List Cond := lw_tbl.filter isX
theorem xw_at {w : Cond} {L : List Cond} (hL : ∀ x ∈ L, x ∈ lw_tbl) (k : Nat) (h : L[k]? = some w) (g : isX w = true) : w ∈ XW := List.mem_filter.mpr ⟨hL w (List.mem_of_getElem? h), g⟩
theorem x_moved {w : Cond} {a b : Array Value} {u U : State} (hg : isX w = true) (hvm : u.vm.Alike U.vm) (h : w.before a u = true) : w.before b U = true := by
  cases w with
  | castable C T =>
    obtain ⟨c, t, h1, h2, h3⟩ := Cond.castable_spec h
    show Cond.holds b U none U [] (Cond.castable C T) = true
    simp only [Cond.holds, Cond.value]
    rw [hvm.findClass, hvm.findClass, h1, h2]
    show (some (U.vm.assignable c t) == some true) = true
    rw [hvm.assignable, h3]
    rfl
  | declares x =>
    have h0 : (Cond.declares x).before #[] u = true := va_any rfl h
    have h1 : (Cond.declares x).before #[] (u.setVm U.vm) = true := by
      rw [Cond.declares_setVm hvm]
      exact h0
    have e := Cond.onTables_vm (A := #[]) (A' := b) (U := u) (U' := U) U.vm (Cond.declares x) rfl
    have hU : U.setVm U.vm = U := rfl
    rw [hU] at e
    rw [← e]
    exact h1
  | _ => cases hg
def xN : List (String × String) := [("java/lang/IllegalArgumentException", "java/lang/IndexOutOfBoundsException"), ("java/lang/IllegalStateException", "java/lang/IndexOutOfBoundsException"), ("java/lang/IllegalStateException", "java/lang/IllegalArgumentException")]
def xWs (U : State) : Prop := (∀ w ∈ XW, w.before #[] U = true) ∧ ∀ q ∈ xN, va_Nc q.1 q.2 U
theorem xWs.moved {u U : State} (hvm : u.vm.Alike U.vm) (h : xWs u) : xWs U := ⟨fun w hw => x_moved (List.mem_filter.mp hw).2 hvm (h.1 w hw), fun q hq => (h.2 q hq).moved hvm⟩
theorem xWs.use {u : State} {w : Cond} {a : Array Value} (h : xWs u) (hw : w ∈ XW) : w.before a u = true := x_moved (List.mem_filter.mp hw).2 (Vm.Alike.refl _) (h.1 w hw)
def xHN : MethodName := ⟨"java/util/Iterator", "hasNext", "()Z"⟩
def xNX : MethodName := ⟨"java/util/Iterator", "next", "()Ljava/lang/Object;"⟩
/-- links between nest mates; the mirror of Object[]; the iterator behind its interface -/
def nWs (G : Cx) (U : State) : Prop := va_Nw (.fieldLinkNest "java/util/ArrayList$Itr" 28 "java/util/ArrayList" "size" "I" "java/util/ArrayList") U ∧ va_Nw (.fieldLinkNest "SigntextLaw" 13 "SigntextLaw$Out" "n" "J" "SigntextLaw") U ∧ va_Nw (.fieldLinkNest "SigntextLaw" 90 "SigntextLaw$Out" "s" "Ljava/lang/String;" "SigntextLaw") U ∧ va_Nw (.methodLinkNest "SigntextLaw" 162 yX3_init "SigntextLaw") U ∧ va_Mi "[Ljava/lang/Object;" (G.2.2 11) U ∧ va_Fw "java/util/ArrayList$Itr" xHN yJx35411_hasNext_aae02 U ∧ va_Fw "java/util/ArrayList$Itr" xNX yJx35411_next_0502b U
theorem nWs.warm {G : Cx} {s U : State} (hW : s.WarmedH U.vm) (h : nWs G s) : nWs G U := ⟨h.1.warmF hW, h.2.1.warmF hW, h.2.2.1.warmF hW, h.2.2.2.1.warmM hW, h.2.2.2.2.1.moved hW.alike, h.2.2.2.2.2.1.moved (by decide +kernel) hW.alike, h.2.2.2.2.2.2.moved (by decide +kernel) hW.alike⟩
theorem nWs.same {G : Cx} {s U : State} (hv : s.vm = U.vm) (h : nWs G s) : nWs G U := ⟨h.1.same rfl hv, h.2.1.same rfl hv, h.2.2.1.same rfl hv, h.2.2.2.1.same rfl hv, h.2.2.2.2.1.moved (by rw [hv]; exact Vm.Alike.refl _), h.2.2.2.2.2.1.moved (by decide +kernel) (by rw [hv]; exact Vm.Alike.refl _), h.2.2.2.2.2.2.moved (by decide +kernel) (by rw [hv]; exact Vm.Alike.refl _)⟩
/-- words that go on as they are -/
def wN (G : Cx) (U : State) : Prop := va_Nw (.methodLinkNest "Signtext" 18 yX0_init "Signtext") U ∧ va_Nw (.methodLinkNest "Signtext" 25 yX1_init "Signtext") U ∧ va_Nw (.methodLinkNest "Signtext$Pieces" 11 yX0_init "Signtext") U ∧ va_AO "Signtext$Line" U ∧ va_AO "java/lang/Object" U ∧ (Cond.arrayOver (.array .int)).before #[] U = true ∧ xWs U ∧ nWs G U
def iC (G : Cx) (U : State) : Prop := (∀ i : Nat, ∃ (k : Class) (comp : ClassId), U.vm.classes[G.2.1 (6 + i)]? = some k ∧ k.kind = .array comp .int) ∧ G.2.1 6 = G.2.1 0
def cx (G : Cx) (A : Nat → Prop) (U : State) : Prop := va_K G.1 vwCl (tyL G.2.1) U ∧ iC G U ∧ zS G A U U.heap ∧ sC G A U U.heap ∧ sR G U ∧ wN G U
theorem iC.moved {G : Cx} {u U : State} (hvm : u.vm.Alike U.vm) (h : iC G u) : iC G U := ⟨fun i => by
  obtain ⟨k, comp, h1, h2⟩ := h.1 i
  obtain ⟨k', hk', he⟩ := hvm.2.2 _ _ h1
  exact ⟨k', comp, hk', by rw [he]; exact h2⟩, h.2⟩
theorem wN.warm {G : Cx} {s U : State} (hW : s.WarmedH U.vm) (h : wN G s) : wN G U :=
  ⟨h.1.warmM hW, h.2.1.warmM hW, h.2.2.1.warmM hW, h.2.2.2.1.moved hW.alike, h.2.2.2.2.1.moved hW.alike, over_moved hW.alike h.2.2.2.2.2.1, h.2.2.2.2.2.2.1.moved hW.alike, h.2.2.2.2.2.2.2.warm hW⟩
theorem wN.same {G : Cx} {s U : State} (hv : s.vm = U.vm) (h : wN G s) : wN G U :=
  ⟨h.1.same rfl hv, h.2.1.same rfl hv, h.2.2.1.same rfl hv, h.2.2.2.1.moved (by rw [hv]; exact Vm.Alike.refl _), h.2.2.2.2.1.moved (by rw [hv]; exact Vm.Alike.refl _), over_moved (by rw [hv]; exact Vm.Alike.refl _) h.2.2.2.2.2.1, h.2.2.2.2.2.2.1.moved (by rw [hv]; exact Vm.Alike.refl _), h.2.2.2.2.2.2.2.same hv⟩
theorem zS.go {G : Cx} {A B : Nat → Prop} {u U : State} {H H1 : Heap} (hvm : u.vm.Alike U.vm) (hq : ∀ a : Nat, a < H.size → ¬ A a → H1[a]? = H[a]?) (hAB : ∀ q, B q → A q) (h : zS G A u H) : zS G B U H1 := by
  obtain ⟨h1, h2, h3, h4, h5, h6, h7, h8, h9, h10, h11, h12, h13⟩ := h
  exact ⟨((h1.moved hvm).kept hq).narrow hAB, ((h2.moved hvm).kept hq).narrow hAB, ((h3.moved hvm).kept hq).narrow hAB, ((h4.moved hvm).kept hq).narrow hAB, ((h5.moved hvm).kept hq).narrow hAB, ((h6.moved hvm).kept hq).narrow hAB,
    fun i hi => ⟨(h7 i hi).1.at' (hq _ (h7 i hi).1.lt (h7 i hi).2), fun z => (h7 i hi).2 (hAB _ z)⟩,
    ((h8.moved hvm).kept hq).narrow hAB, ((h9.moved hvm).kept hq).narrow hAB, ((h10.moved hvm).kept hq).narrow hAB, ((h11.moved hvm).kept hq).narrow hAB, ((h12.moved hvm).kept hq).narrow hAB, ((h13.moved hvm).kept hq).narrow hAB⟩
theorem sC.go {G : Cx} {A B : Nat → Prop} {u U : State} {H H1 : Heap} (hvm : u.vm.Alike U.vm) (hq : ∀ a : Nat, a < H.size → ¬ A a → H1[a]? = H[a]?) (hAB : ∀ q, B q → A q) (h : sC G A u H) : sC G B U H1 := fun i hi => by
  obtain ⟨h1, h2, h3, h4⟩ := h i hi
  exact ⟨((h1.moved hvm).kept hq).narrow hAB, ((h2.moved hvm).kept hq).narrow hAB, ((h3.moved hvm).kept hq).narrow hAB, ((h4.moved hvm).kept hq).narrow hAB⟩
theorem cx.go {G : Cx} {A B : Nat → Prop} {s U : State} {H : Heap} {locs : List Loc} (h : cx G A s) (hS : va_S A s.heap H locs) (hAB : ∀ q, B q → A q) (hU : U.heap = H) (hW : s.WarmedH U.vm) : cx G B U := by
  obtain ⟨h1, h2, h3, h4, h5, h6⟩ := h
  subst hU
  exact ⟨h1.moved hW.alike, h2.moved hW.alike, h3.go hW.alike hS.2.1 hAB, h4.go hW.alike hS.2.1 hAB, fun q hq => (h5 q hq).warm hW, h6.warm hW⟩
theorem cx.same {G : Cx} {A : Nat → Prop} {s U : State} (h : cx G A s) (hU : U.heap = s.heap) (hv : U.vm = s.vm) : cx G A U := by
  obtain ⟨h1, h2, h3, h4, h5, h6⟩ := h
  have ha : s.vm.Alike U.vm := by rw [hv]; exact Vm.Alike.refl _
  refine ⟨h1.moved ha, h2.moved ha, ?_, ?_, fun q hq => (h5 q hq).same hv, h6.same hv.symm⟩
  · rw [hU]; exact h3.go ha (fun _ _ _ => rfl) (fun _ z => z)
  · rw [hU]; exact h4.go ha (fun _ _ _ => rfl) (fun _ z => z)
/-- a method's start -/
def PC (G : Cx) (A : Nat → Prop) (av : List Value) (Wd : Heap → Prop) : Array Value → State → Prop := fun v U => v = av.toArray ∧ cx G A U ∧ (∀ q : Nat, U.heap.size ≤ q → A q) ∧ Wd U.heap
theorem PC.blind {G : Cx} {A : Nat → Prop} {av : List Value} {Wd : Heap → Prop} : FrameBlind (PC G A av Wd) := fun a U g mk h => ⟨h.1, h.2.1.same rfl rfl, h.2.2.1, h.2.2.2⟩
theorem PC.go {G : Cx} {A B : Nat → Prop} {av : List Value} {Wd : Heap → Prop} {s : State} {H : Heap} {locs : List Loc} (h : cx G A s) (hS : va_S A s.heap H locs) (hAB : ∀ q, B q → A q) (hB : ∀ q : Nat, H.size ≤ q → B q) (hW : Wd H) : ∀ U : State, U.heap = H → s.WarmedH U.vm → PC G B av Wd av.toArray U :=
  fun U hU hw => ⟨rfl, h.go hS hAB hU hw, by rw [hU]; exact hB, by rw [hU]; exact hW⟩
/-- what a body has at its entry -/
theorem mstart {l : Launch} {y : MethodName} {rm : Room} {G : Cx} {A : Nat → Prop} {av : List Value} {Wd : Heap → Prop} {Qc : Array Value → State → Outcome → State → Prop} {mc ms : Nat} {free : Addr → Prop} {cc : ByteArray} {maxL : Nat} {ret : Option FieldType} (own : String) (hy : plainName y.cls = true) (hown : y.cls = own) (hn : (lg_sl av).length ≤ maxL)
    (body : ∀ (p : Program) (e : Env) (s : State) (m : MethodId) (below : List Frame) (meth : Method) (c : Code) (ls : Array Slot), p.tables.exec = Jvm.exec → c.code = cc → meth.sig.returnType = ret → (∀ w ∈ GW, w.before av.toArray s = true) → s.vm.findClass own = some m.cls → c.maxLocals = maxL → meth.locks = false → meth.name = y.name → cx G A s → (∀ q : Nat, s.heap.size ≤ q → A q) → Wd s.heap → lv_has ls maxL (lv_args 0 av) →
      W p l e rm s m av.toArray below meth c s.heap [] 0 0 (MQ below Qc av.toArray s mc ms free) (F0 m 0 ls [])) : Met l y (.code y cc maxL ret :: GW) rm (PC G A av Wd) Qc mc ms free := by
  refine Met.ofW (cc := cc) (maxL := maxL) (ret := ret) hy rfl ?_
  intro p e s m args below meth c s₁ B hml hv
  obtain ⟨rfl, hC, hA, hW⟩ := hv
  have hts := atoms_spec (ws := .code y cc maxL ret :: GW) B.pre
  have hl := lv_entry av (n := maxL) hn
  have hne : entryFrame m av.toArray maxL = F0 m 0 ((lg_sl av ++ List.replicate (maxL - (lg_sl av).length) Slot.unset).toArray) [] := by rw [lg_entry_eq]
  rw [hne]
  exact body p e s m below meth c _ B.exec B.bytes B.returns (fun w h => hts w (List.mem_cons_of_mem _ h)) (by rw [← hown]; exact findClass_of_methodNamed B.named) hml B.notSynchronized (name_of_methodNamed B.named B.method).1 hC hA hW hl
/-- ends: int, boolean, nothing; heap as it was, or changed inside A -/
theorem good_gw {w : Cond} (h : w ∈ GW) : w ∈ GW ∧ ((w.onTables && w.keeps) = true ∨ ∃ ty, w = .arrayClass ty) := ⟨h, good_of_word (gw_good h)⟩
theorem gV {own C : String} {index n : Nat} {y : MethodName} {cc : ByteArray} {r : Option FieldType} (h1 : Cond.methodLink own index y ∈ GW) (h2 : Cond.instanceMethod y ∈ GW) (h3 : Cond.selects C y y ∈ GW) (h4 : Cond.initialized C ∈ GW) (h5 : Cond.code y cc n r ∈ GW) : GoodIn GW (wsV own index C y (.code y cc n r :: GW)) := by
  intro w hw
  unfold wsV at hw
  rcases List.mem_append.mp hw with h | h
  · simp only [List.mem_cons, List.not_mem_nil, or_false] at h
    rcases h with rfl | rfl | rfl | rfl
    · exact good_gw h1
    · exact good_gw h2
    · exact good_gw h3
    · exact good_gw h4
  · rcases List.mem_cons.mp h with rfl | h
    · exact good_gw h5
    · exact good_gw h
theorem gS {own : String} {index n : Nat} {y : MethodName} {cc : ByteArray} {r : Option FieldType} (h1 : Cond.methodLink own index y ∈ GW) (h2 : Cond.static y ∈ GW) (h4 : Cond.initialized y.cls ∈ GW) (h5 : Cond.code y cc n r ∈ GW) : GoodIn GW (va_wsS own index y (.code y cc n r :: GW)) := by
  intro w hw
  unfold va_wsS at hw
  rcases List.mem_append.mp hw with h | h
  · simp only [List.mem_cons, List.not_mem_nil, or_false] at h
    rcases h with rfl | rfl | rfl
    · exact good_gw h1
    · exact good_gw h2
    · exact good_gw h4
  · rcases List.mem_cons.mp h with rfl | h
    · exact good_gw h5
    · exact good_gw h
theorem gI {n : Nat} {y : MethodName} {cc : ByteArray} {r : Option FieldType} (h5 : Cond.code y cc n r ∈ GW) : GoodIn GW (.code y cc n r :: GW) := by
  intro w hw
  rcases List.mem_cons.mp hw with rfl | h
  · exact good_gw h5
  · exact good_gw h
section KC
variable {p : Program} {l : Launch} {e : Env} {R : Room} {s : State} {m : MethodId} {args : Array Value} {below : List Frame} {meth : Method} {c : Code} {H : Heap} {locs : List Loc} {cells slots : Nat} {Q : State → Prop}
variable {cc bytes : ByteArray} {pc nL maxL index n mc ms : Nat} {ls : Array Slot} {rest st0 : List Value} {G : Cx} {A A1 : Nat → Prop} {own C : String} {y : MethodName} {ret : Option FieldType} {ws : List Cond} {rm : Room} {b : Nat} {As : List Value} {Wd : Heap → Prop}
/-- a virtual call that changes nothing, with an int -/
theorem kV_i {post : Int32 → Prop} (S : CallFix p m c cc nL s args GW own) (hM : Met l y ws rm (PC G A (.ref b :: As) Wd) (vp_Si post) 0 0 (fun _ => False)) (cw : CallW R s args own C index y bytes maxL ret ws rm 0 0 n) (hC : cx G A s) (hS : va_S A s.heap H locs) (hA : ∀ q : Nat, s.heap.size ≤ q → A q)
    (hr : ∃ cell : Cell, H[b]? = some cell ∧ cell.vm.isStatics = false ∧ s.vm.findClass C = some cell.cls) (hW : Wd H) (hst : st0 = As.reverse ++ .ref b :: rest) (hn : As.length = n) (hl : ls.size = nL) (hrm : (rest.map fun v => v.category).sum ≤ 8) (hf : cells ≤ R.cells ∧ slots ≤ R.slots) (hdg : decode cc pc = .ok (.invokevirtual index, 3))
    (kk : ∀ r : Int32, post r → W p l e R s m args below meth c H locs cells slots Q (F0 m (pc + 3) ls (.int r :: rest))) : W p l e R s m args below meth c H locs cells slots Q (F0 m pc ls st0) := by
  subst hst
  exact vp_callSi (W.runV (As := As) (rest := rest) (g := F0 m pc ls (As.reverse ++ .ref b :: rest)) S hM cw ⟨PC.blind, hr, PC.go hC hS (fun _ z => z) (fun q h => hA q (Nat.le_trans hS.1 h)) hW⟩ rfl hn hl rfl (lv_room hrm) hdg hf) kk
theorem kS_i {post : Int32 → Prop} (S : CallFix p m c cc nL s args GW own) (hM : Met l y ws rm (PC G A As Wd) (vp_Si post) 0 0 (fun _ => False)) (cw : CallB R s args own index y bytes maxL ret ws rm 0 0 n ∧ (Cond.static y).before args s = true) (hC : cx G A s) (hS : va_S A s.heap H locs) (hA : ∀ q : Nat, s.heap.size ≤ q → A q)
    (hW : Wd H) (hst : st0 = As.reverse ++ rest) (hn : As.length = n) (hl : ls.size = nL) (hrm : (rest.map fun v => v.category).sum ≤ 8) (hf : cells ≤ R.cells ∧ slots ≤ R.slots) (hdg : decode cc pc = .ok (.invokestatic index, 3))
    (kk : ∀ r : Int32, post r → W p l e R s m args below meth c H locs cells slots Q (F0 m (pc + 3) ls (.int r :: rest))) : W p l e R s m args below meth c H locs cells slots Q (F0 m pc ls st0) := by
  subst hst
  exact vp_callSi (W.runS (As := As) (rest := rest) (g := F0 m pc ls (As.reverse ++ rest)) S hM cw ⟨PC.blind, PC.go hC hS (fun _ z => z) (fun q h => hA q (Nat.le_trans hS.1 h)) hW⟩ rfl hn hl rfl (lv_room hrm) hdg hf) kk
/-- calls that change cells of A1 -/
theorem eV_i {S9 : Type} {post : Int32 → S9 → Prop} {B : S9 → Heap → Prop} (S : CallFix p m c cc nL s args GW own) (hM : Met l y ws rm (PC G A1 (.ref b :: As) Wd) (va_Qi post (fun u t => B u t.heap) A1) mc ms A1) (cw : CallW R s args own C index y bytes maxL ret ws rm mc ms n) (hC : cx G A s) (hS : va_S A s.heap H locs) (hAA : ∀ q, A1 q → A q) (hA1 : ∀ q : Nat, H.size ≤ q → A1 q)
    (hr : ∃ cell : Cell, H[b]? = some cell ∧ cell.vm.isStatics = false ∧ s.vm.findClass C = some cell.cls) (hW : Wd H) (hst : st0 = As.reverse ++ .ref b :: rest) (hn : As.length = n) (hl : ls.size = nL) (hrm : (rest.map fun v => v.category).sum ≤ 8) (hf : cells + mc ≤ R.cells ∧ slots + ms ≤ R.slots) (hdg : decode cc pc = .ok (.invokevirtual index, 3))
    (kk : ∀ (r : Int32) (u : S9) (H1 : Heap) (locs1 : List Loc), post r u → B u H1 → kp A1 H H1 → va_S A s.heap H1 locs1 → W p l e R s m args below meth c H1 locs1 (cells + mc) (slots + ms) Q (F0 m (pc + 3) ls (.int r :: rest))) : W p l e R s m args below meth c H locs cells slots Q (F0 m pc ls st0) := by
  subst hst
  exact va_calli (va_runV (As := As) (rest := rest) (g := F0 m pc ls (As.reverse ++ .ref b :: rest)) S hM cw ⟨PC.blind, hr, PC.go hC hS hAA hA1 hW⟩ rfl hn hl rfl (lv_room hrm) hdg hf) hS (fun q _ h => hAA q h) hAA (fun r u t H1 locs1 ht _ hp hB hz hk hS1 => kk r u H1 locs1 hp (by rw [← ht]; exact hB) ⟨hz, hk⟩ hS1)
theorem eV_v {S9 : Type} {post : S9 → Prop} {B : S9 → Heap → Prop} (S : CallFix p m c cc nL s args GW own) (hM : Met l y ws rm (PC G A1 (.ref b :: As) Wd) (va_Qv post (fun u t => B u t.heap) A1) mc ms A1) (cw : CallW R s args own C index y bytes maxL ret ws rm mc ms n) (hC : cx G A s) (hS : va_S A s.heap H locs) (hAA : ∀ q, A1 q → A q) (hA1 : ∀ q : Nat, H.size ≤ q → A1 q)
    (hr : ∃ cell : Cell, H[b]? = some cell ∧ cell.vm.isStatics = false ∧ s.vm.findClass C = some cell.cls) (hW : Wd H) (hst : st0 = As.reverse ++ .ref b :: rest) (hn : As.length = n) (hl : ls.size = nL) (hrm : (rest.map fun v => v.category).sum ≤ 8) (hf : cells + mc ≤ R.cells ∧ slots + ms ≤ R.slots) (hdg : decode cc pc = .ok (.invokevirtual index, 3))
    (kk : ∀ (u : S9) (H1 : Heap) (locs1 : List Loc), post u → B u H1 → kp A1 H H1 → va_S A s.heap H1 locs1 → W p l e R s m args below meth c H1 locs1 (cells + mc) (slots + ms) Q (F0 m (pc + 3) ls rest)) : W p l e R s m args below meth c H locs cells slots Q (F0 m pc ls st0) := by
  subst hst
  exact va_callv (va_runV (As := As) (rest := rest) (g := F0 m pc ls (As.reverse ++ .ref b :: rest)) S hM cw ⟨PC.blind, hr, PC.go hC hS hAA hA1 hW⟩ rfl hn hl rfl (lv_room hrm) hdg hf) hS (fun q _ h => hAA q h) hAA (fun u t H1 locs1 ht _ hp hB hz hk hS1 => kk u H1 locs1 hp (by rw [← ht]; exact hB) ⟨hz, hk⟩ hS1)
theorem eI_v {S9 : Type} {post : S9 → Prop} {B : S9 → Heap → Prop} (S : CallFix p m c cc nL s args GW own) (hM : Met l y ws rm (PC G A1 (.ref b :: As) Wd) (va_Qv post (fun u t => B u t.heap) A1) mc ms A1) (cw : CallB R s args own index y bytes maxL none ws rm mc ms n ∧ y.name = "<init>" ∧ (Cond.instanceMethod y).before args s = true) (hC : cx G A s) (hS : va_S A s.heap H locs) (hAA : ∀ q, A1 q → A q) (hA1 : ∀ q : Nat, H.size ≤ q → A1 q)
    (hW : Wd H) (hst : st0 = As.reverse ++ .ref b :: rest) (hn : As.length = n) (hl : ls.size = nL) (hrm : (rest.map fun v => v.category).sum ≤ 8) (hf : cells + mc ≤ R.cells ∧ slots + ms ≤ R.slots) (hdg : decode cc pc = .ok (.invokespecial index, 3))
    (kk : ∀ (u : S9) (H1 : Heap) (locs1 : List Loc), post u → B u H1 → kp A1 H H1 → va_S A s.heap H1 locs1 → W p l e R s m args below meth c H1 locs1 (cells + mc) (slots + ms) Q (F0 m (pc + 3) ls rest)) : W p l e R s m args below meth c H locs cells slots Q (F0 m pc ls st0) := by
  subst hst
  exact va_callv (va_runI (As := As) (rest := rest) (g := F0 m pc ls (As.reverse ++ .ref b :: rest)) S hM cw ⟨PC.blind, PC.go hC hS hAA hA1 hW⟩ rfl hn hl rfl (lv_room hrm) hdg hf) hS (fun q _ h => hAA q h) hAA (fun u t H1 locs1 ht _ hp hB hz hk hS1 => kk u H1 locs1 hp (by rw [← ht]; exact hB) ⟨hz, hk⟩ hS1)
theorem eS_r {S9 : Type} {post : S9 → Prop} {B : S9 → Nat → Heap → Prop} (S : CallFix p m c cc nL s args GW own) (hM : Met l y ws rm (PC G A1 As Wd) (va_Qr post (fun u a t => B u a t.heap) A1) mc ms A1) (cw : CallB R s args own index y bytes maxL ret ws rm mc ms n ∧ (Cond.static y).before args s = true) (hC : cx G A s) (hS : va_S A s.heap H locs) (hAA : ∀ q, A1 q → A q) (hA1 : ∀ q : Nat, H.size ≤ q → A1 q)
    (hW : Wd H) (hst : st0 = As.reverse ++ rest) (hn : As.length = n) (hl : ls.size = nL) (hrm : (rest.map fun v => v.category).sum ≤ 8) (hf : cells + mc ≤ R.cells ∧ slots + ms ≤ R.slots) (hdg : decode cc pc = .ok (.invokestatic index, 3))
    (kk : ∀ (u : S9) (a : Nat) (H1 : Heap) (locs1 : List Loc), post u → B u a H1 → kp A1 H H1 → va_S A s.heap H1 locs1 → W p l e R s m args below meth c H1 locs1 (cells + mc) (slots + ms) Q (F0 m (pc + 3) ls (.ref a :: rest))) : W p l e R s m args below meth c H locs cells slots Q (F0 m pc ls st0) := by
  subst hst
  exact va_callr (va_runS (As := As) (rest := rest) (g := F0 m pc ls (As.reverse ++ rest)) S hM cw ⟨PC.blind, PC.go hC hS hAA hA1 hW⟩ rfl hn hl rfl (lv_room hrm) hdg hf) hS (fun q _ h => hAA q h) hAA (fun u a t H1 locs1 ht _ hp hB hz hk hS1 => kk u a H1 locs1 hp (by rw [← ht]; exact hB) ⟨hz, hk⟩ hS1)
theorem eV_r {S9 : Type} {post : S9 → Prop} {B : S9 → Nat → Heap → Prop} (S : CallFix p m c cc nL s args GW own) (hM : Met l y ws rm (PC G A1 (.ref b :: As) Wd) (va_Qr post (fun u a t => B u a t.heap) A1) mc ms A1) (cw : CallW R s args own C index y bytes maxL ret ws rm mc ms n) (hC : cx G A s) (hS : va_S A s.heap H locs) (hAA : ∀ q, A1 q → A q) (hA1 : ∀ q : Nat, H.size ≤ q → A1 q)
    (hr : ∃ cell : Cell, H[b]? = some cell ∧ cell.vm.isStatics = false ∧ s.vm.findClass C = some cell.cls) (hW : Wd H) (hst : st0 = As.reverse ++ .ref b :: rest) (hn : As.length = n) (hl : ls.size = nL) (hrm : (rest.map fun v => v.category).sum ≤ 8) (hf : cells + mc ≤ R.cells ∧ slots + ms ≤ R.slots) (hdg : decode cc pc = .ok (.invokevirtual index, 3))
    (kk : ∀ (u : S9) (a : Nat) (H1 : Heap) (locs1 : List Loc), post u → B u a H1 → kp A1 H H1 → va_S A s.heap H1 locs1 → W p l e R s m args below meth c H1 locs1 (cells + mc) (slots + ms) Q (F0 m (pc + 3) ls (.ref a :: rest))) : W p l e R s m args below meth c H locs cells slots Q (F0 m pc ls st0) := by
  subst hst
  exact va_callr (va_runV (As := As) (rest := rest) (g := F0 m pc ls (As.reverse ++ .ref b :: rest)) S hM cw ⟨PC.blind, hr, PC.go hC hS hAA hA1 hW⟩ rfl hn hl rfl (lv_room hrm) hdg hf) hS (fun q _ h => hAA q h) hAA (fun u a t H1 locs1 ht _ hp hB hz hk hS1 => kk u a H1 locs1 hp (by rw [← ht]; exact hB) ⟨hz, hk⟩ hS1)
/-- reading arrays of ints -/
theorem h_ild {a : Nat} {t : List Nat} (hexec : p.tables.exec = Jvm.exec) (hb : c.code = cc) (hC : iC G s) (h : IA G a t H) {i : Nat} (hi : i < t.length) (hi2 : i < 2 ^ 31) (hdg : decode cc pc = .ok (.iaload, 1))
    (kk : W p l e R s m args below meth c H locs cells slots Q (F0 m (pc + 1) ls (.int (nI (t.getD i 0)) :: rest))) : W p l e R s m args below meth c H locs cells slots Q (F0 m pc ls (.int (nI i) :: .ref a :: rest)) := by
  obtain ⟨cell, k, h1, h2, h3, h4, h5, h6⟩ := h
  have hk := hC.1 k
  rw [← h2] at hk
  obtain ⟨kA, comp, q1, q2⟩ := hk
  exact W.iald (v := .int (nI (t.getD i 0))) hexec hb h1 ⟨h4, kA, q1, comp, q2⟩ h3 (by rw [nI_clamp hi2]; rintro (q | q); exact nI_pos hi2 q; have := h5.1; omega) (by rw [nI_clamp hi2]; exact h6 i hi) rfl rfl hdg kk
theorem h_ilen {a : Nat} {t : List Nat} (hexec : p.tables.exec = Jvm.exec) (hb : c.code = cc) (hC : iC G s) (h : IA G a t H) (hdg : decode cc pc = .ok (.arraylength, 1))
    (kk : W p l e R s m args below meth c H locs cells slots Q (F0 m (pc + 1) ls (.int (nI t.length) :: rest))) : W p l e R s m args below meth c H locs cells slots Q (F0 m pc ls (.ref a :: rest)) := by
  obtain ⟨cell, k, h1, h2, h3, h4, h5, h6⟩ := h
  have hk := hC.1 k
  rw [← h2] at hk
  obtain ⟨kA, comp, q1, q2⟩ := hk
  exact W.alen (n := nI t.length) hexec hb h1 ⟨h4, kA, q1, comp, q2⟩ (by first | exact h5.2 | exact h5.2.symm | (rw [h5.2]; rfl)) rfl rfl hdg kk
end KC
end
/-! 06.text -/
section
/-! OWN LAYER, 3: texts as lists of codes; loops; ends of methods; words of the classes' fields -/
theorem inX0 : ∀ w ∈ u_ws RX0 TX0 2, w ∈ GW := by
  intro w hw
  simp only [u_ws, List.mem_map, List.mem_range] at hw
  obtain ⟨k, hk, rfl⟩ := hw
  match k, hk with
  | 0, _ => exact tw_1_46
  | 1, _ => exact tw_1_48
/-- codes are small -/
def okc (t : List Nat) : Prop := ∀ j : Nat, t.getD j 0 < 256
theorem okc_nil : okc [] := fun j => by simp
theorem okc_app {t u : List Nat} (h1 : okc t) (h2 : okc u) : okc (t ++ u) := fun j => by
  rw [List.getD_eq_getElem?_getD, List.getElem?_append]
  split
  · rw [← List.getD_eq_getElem?_getD]; exact h1 j
  · rw [← List.getD_eq_getElem?_getD]; exact h2 _
theorem okc_one {c : Nat} (h : c < 256) : okc [c] := fun j => by
  cases j with
  | zero => exact h
  | succ j => simp
theorem okc_take {t : List Nat} (h : okc t) (n : Nat) : okc (t.take n) := fun j => by
  rw [List.getD_eq_getElem?_getD, List.getElem?_take]
  split
  · rw [← List.getD_eq_getElem?_getD]; exact h j
  · decide
theorem okc_drop {t : List Nat} (h : okc t) (n : Nat) : okc (t.drop n) := fun j => by
  rw [List.getD_eq_getElem?_getD, List.getElem?_drop, ← List.getD_eq_getElem?_getD]; exact h _
/-- a part of a text -/
def cutL (t : List Nat) (i j : Nat) : List Nat := (t.drop i).take (j - i)
theorem okc_cut {t : List Nat} (h : okc t) (i j : Nat) : okc (cutL t i j) := okc_take (okc_drop h i) _
theorem cutL_len {t : List Nat} {i j : Nat} (h : j ≤ t.length) : (cutL t i j).length = j - i := by
  unfold cutL; rw [List.length_take, List.length_drop]; omega
theorem cutL_le (t : List Nat) (i j : Nat) : (cutL t i j).length ≤ t.length := by
  unfold cutL; rw [List.length_take, List.length_drop]; omega
theorem cutL_nil (t : List Nat) (i : Nat) : cutL t i i = [] := by unfold cutL; rw [Nat.sub_self]; rfl
theorem cutL_all (t : List Nat) : cutL t 0 t.length = t := by unfold cutL; rw [List.drop_zero, Nat.sub_zero, List.take_length]
theorem cutL_succ {t : List Nat} {i j : Nat} (h : i ≤ j) (hj : j < t.length) : cutL t i (j + 1) = cutL t i j ++ [t.getD j 0] := by
  unfold cutL
  rw [show j + 1 - i = (j - i) + 1 by omega, List.take_add_one, List.getElem?_drop, show i + (j - i) = j by omega, List.getElem?_eq_getElem hj, List.getD_eq_getElem?_getD, List.getElem?_eq_getElem hj]
  rfl
theorem getD_app1 {t u : List Nat} {j : Nat} (h : j < t.length) : (t ++ u).getD j 0 = t.getD j 0 := by
  rw [List.getD_eq_getElem?_getD, List.getElem?_append_left h, ← List.getD_eq_getElem?_getD]
theorem getD_last (t : List Nat) (c : Nat) : (t ++ [c]).getD t.length 0 = c := by
  rw [List.getD_eq_getElem?_getD, List.getElem?_append_right (Nat.le_refl _), Nat.sub_self]; rfl
/-- a text of at most 60 codes in the object a, its row the array ca -/
def LA (G : Cx) (a ca : Nat) (t : List Nat) (H : Heap) : Prop := t.length ≤ 60 ∧ okc t ∧ a ≠ ca ∧ va_at G.1 vwCl (a, .inr (4, [.ref ca, .int (nI t.length)])) H ∧ ∃ f : Nat → Int32, va_at G.1 vwCl (ca, .inl (G.2.1 1, 60, .inl f)) H ∧ ∀ j : Nat, j < t.length → f j = nI (t.getD j 0)
theorem LA.kp {G : Cx} {a ca : Nat} {t : List Nat} {X : Nat → Prop} {H H1 : Heap} (h : LA G a ca t H) (hk : kp X H H1) (h1 : ¬ X a) (h2 : ¬ X ca) : LA G a ca t H1 := by
  obtain ⟨q1, q2, q3, q4, f, q5, q6⟩ := h
  exact ⟨q1, q2, q3, at_kp q4 hk h1, f, at_kp q5 hk h2, q6⟩
theorem LA.lt {G : Cx} {a ca : Nat} {t : List Nat} {H : Heap} (h : LA G a ca t H) : a < H.size ∧ ca < H.size := ⟨h.2.2.2.1.lt, by obtain ⟨-, -, -, -, f, q, -⟩ := h; exact q.lt⟩
theorem LA.recv {G : Cx} {a ca : Nat} {t : List Nat} {H : Heap} {s : State} (h : LA G a ca t H) (hK : va_K G.1 vwCl (tyL G.2.1) s) : ∃ cell : Cell, H[a]? = some cell ∧ cell.vm.isStatics = false ∧ s.vm.findClass "Signtext$Line" = some cell.cls := at_recv hK h.2.2.2.1 (q := (RX0, TX0, 2)) rfl
theorem chr_id {n : Nat} (h : n < 65536) : ((nI n).toUInt32 % 65536).toInt32 = nI n := by
  rw [pk_char, pk_tn (by omega), Nat.mod_eq_of_lt h]
/-- loops: up to N, and down -/
theorem nloop {P : Nat → Prop} (N : Nat) (h : ∀ j, j ≤ N → (∀ k, j < k → k ≤ N → P k) → P j) : ∀ j, j ≤ N → P j := by
  have H : ∀ n j, N - j < n → j ≤ N → P j := by
    intro n
    induction n with
    | zero => intro j h1; exact absurd h1 (Nat.not_lt_zero _)
    | succ n ih => intro j h1 h2; exact h j h2 (fun k h3 h4 => ih k (by omega) h4)
  exact fun j hj => H (N - j + 1) j (Nat.lt_succ_self _) hj
theorem dloop {P : Nat → Prop} (h : ∀ j, (∀ k, k < j → P k) → P j) : ∀ j, P j := fun j => Nat.strongRecOn j (fun n ih => h n ih)
section ENDS
variable {p : Program} {l : Launch} {e : Env} {R : Room} {s : State} {m : MethodId} {args : Array Value} {below : List Frame} {meth : Method} {c : Code} {H : Heap} {locs : List Loc} {cells slots mc ms : Nat} {cc : ByteArray} {pc : Nat} {ls : Array Slot} {A : Nat → Prop}
theorem p_i {post : Int32 → Prop} {v : Int32} (hx : p.tables.exec = Jvm.exec) (hb : c.code = cc) (hr : meth.sig.returnType = some .int) (hlocks : meth.locks = false) (hd : decode cc pc = .ok (.ireturn, 1)) (hp : post v) : W p l e R s m args below meth c s.heap [] 0 0 (MQ below (vp_Si post) args s 0 0 (fun _ => False)) (F0 m pc ls [.int v]) :=
  W.iret hx hb hr (fun t ht hW => ⟨v, rfl, hp, ht⟩) (fun q h => by cases h) hd
theorem p_z {post : Int32 → Prop} {b : Bool} (hx : p.tables.exec = Jvm.exec) (hb : c.code = cc) (hr : meth.sig.returnType = some .boolean) (hlocks : meth.locks = false) (hd : decode cc pc = .ok (.ireturn, 1)) (hp : post (bI b)) : W p l e R s m args below meth c s.heap [] 0 0 (MQ below (vp_Si post) args s 0 0 (fun _ => False)) (F0 m pc ls [.int (bI b)]) :=
  W.zret hx hb hr (nar_bI b) (fun t ht hW => ⟨_, rfl, hp, ht⟩) (fun q h => by cases h) hd
theorem e_v {S9 : Type} {post : S9 → Prop} {B : S9 → Heap → Prop} (u : S9) (hx : p.tables.exec = Jvm.exec) (hb : c.code = cc) (hr : meth.sig.returnType = none) (hlocks : meth.locks = false) (hd : decode cc pc = .ok (.return_, 1)) (hS : va_S A s.heap H locs) (hc : cells ≤ mc) (hs : slots ≤ ms) (hp : post u) (hB : B u H) : W p l e R s m args below meth c H locs cells slots (MQ below (va_Qv post (fun u t => B u t.heap) A) args s mc ms A) (F0 m pc ls []) :=
  W.widen hc hs (W.vret hx hb hr (fun t ht hW => ⟨⟨u, rfl, hp, show B u t.heap from ht ▸ hB⟩, hS.F ht⟩) hS.2.2 hd)
theorem e_i {S9 : Type} {post : Int32 → S9 → Prop} {B : S9 → Heap → Prop} {v : Int32} (u : S9) (hx : p.tables.exec = Jvm.exec) (hb : c.code = cc) (hr : meth.sig.returnType = some .int) (hlocks : meth.locks = false) (hd : decode cc pc = .ok (.ireturn, 1)) (hS : va_S A s.heap H locs) (hc : cells ≤ mc) (hs : slots ≤ ms) (hp : post v u) (hB : B u H) : W p l e R s m args below meth c H locs cells slots (MQ below (va_Qi post (fun u t => B u t.heap) A) args s mc ms A) (F0 m pc ls [.int v]) :=
  W.widen hc hs (W.iret hx hb hr (fun t ht hW => ⟨⟨v, u, rfl, hp, show B u t.heap from ht ▸ hB⟩, hS.F ht⟩) hS.2.2 hd)
theorem e_z {S9 : Type} {post : Int32 → S9 → Prop} {B : S9 → Heap → Prop} {b : Bool} (u : S9) (hx : p.tables.exec = Jvm.exec) (hb : c.code = cc) (hr : meth.sig.returnType = some .boolean) (hlocks : meth.locks = false) (hd : decode cc pc = .ok (.ireturn, 1)) (hS : va_S A s.heap H locs) (hc : cells ≤ mc) (hs : slots ≤ ms) (hp : post (bI b) u) (hB : B u H) : W p l e R s m args below meth c H locs cells slots (MQ below (va_Qi post (fun u t => B u t.heap) A) args s mc ms A) (F0 m pc ls [.int (bI b)]) :=
  W.widen hc hs (W.zret hx hb hr (nar_bI b) (fun t ht hW => ⟨⟨_, u, rfl, hp, show B u t.heap from ht ▸ hB⟩, hS.F ht⟩) hS.2.2 hd)
theorem e_a {S9 : Type} {post : S9 → Prop} {B : S9 → Nat → Heap → Prop} {a : Nat} {C : String} (u : S9) (hx : p.tables.exec = Jvm.exec) (hb : c.code = cc) (hr : meth.sig.returnType = some (.object C)) (hlocks : meth.locks = false) (hd : decode cc pc = .ok (.areturn, 1)) (hS : va_S A s.heap H locs) (hc : cells ≤ mc) (hs : slots ≤ ms) (hp : post u) (hB : B u a H) : W p l e R s m args below meth c H locs cells slots (MQ below (va_Qr post (fun u a t => B u a t.heap) A) args s mc ms A) (F0 m pc ls [.ref a]) :=
  W.widen hc hs (W.aret hx hb hr (Or.inl ⟨C, rfl⟩) (Or.inr ⟨a, rfl⟩) (fun t ht hW => ⟨⟨u, a, rfl, hp, show B u a t.heap from ht ▸ hB⟩, hS.F ht⟩) hS.2.2 hd)
end ENDS
end
/-! 07.line1 -/
section
/-! Line, 1: the readers' leaves -/
def goesN (b : Bool) (c : Nat) : Bool := if b then c == 32 || c == 9 || c == 10 || c == 28 else decide (c ≤ 32)
def litN (c : Nat) : Nat := if c = 65 ∨ c = 66 ∨ c = 67 ∨ c = 88 ∨ c = 201 then c + 32 else c
def viewN (b : Bool) (c : Nat) : Nat := if b then litN c else c
theorem viewN_lt {b : Bool} {c : Nat} (h : c < 256) : viewN b c < 300 := by unfold viewN litN; split <;> try split
                                                                            all_goals omega
theorem sw_seen {c : Nat} (h1 : ¬ c = 65) (h2 : ¬ c = 66) (h3 : ¬ c = 67) (h4 : ¬ c = 88) (h5 : ¬ c = 201) : lookupswitch.offset (#[(65, 49), (66, 52), (67, 55), (88, 58), (201, 61)] : Array (Int × Int)).toList 65 (c : Int) = 65 := by
  simp [lookupswitch.offset, List.find?]
  simp [show ¬ (65 : Int) = (c : Int) by omega, show ¬ (66 : Int) = (c : Int) by omega, show ¬ (67 : Int) = (c : Int) by omega, show ¬ (88 : Int) = (c : Int) by omega, show ¬ (201 : Int) = (c : Int) by omega]
def hashL (t : List Nat) : Int32 := t.foldl (fun h c => nI 31 * h + nI c) 0
theorem hashL_succ {t : List Nat} {j : Nat} (h : j < t.length) : hashL (t.take (j + 1)) = nI 31 * hashL (t.take j) + nI (t.getD j 0) := by
  unfold hashL
  rw [List.take_add_one, List.getElem?_eq_getElem h, List.foldl_append, List.getD_eq_getElem?_getD, List.getElem?_eq_getElem h]
  rfl
/-- how many go at the begin -/
def tbL (b : Bool) : List Nat → Nat
  | [] => 0
  | c :: t => if goesN b c then tbL b t + 1 else 0
theorem tbL_le (b : Bool) (t : List Nat) : tbL b t ≤ t.length := by
  induction t with
  | nil => exact Nat.le_refl _
  | cons c t ih => unfold tbL; split <;> simp <;> omega
theorem tbL_eq {b : Bool} {t : List Nat} {j : Nat} (h : j ≤ t.length) (hg : ∀ k : Nat, k < j → goesN b (t.getD k 0) = true) (hn : j < t.length → goesN b (t.getD j 0) = false) : nI j = nI (tbL b t) := by
  suffices h9 : j = tbL b t by rw [h9]
  induction t generalizing j with
  | nil => exact Nat.le_zero.mp h
  | cons c t ih =>
    unfold tbL
    cases j with
    | zero =>
      have := hn (by simp)
      rw [if_neg]
      intro q
      rw [List.getD_cons_zero] at this
      rw [q] at this; cases this
    | succ j =>
      have h0 := hg 0 (Nat.succ_pos _)
      rw [List.getD_cons_zero] at h0
      rw [if_pos h0]
      congr 1
      refine ih (by simpa using h) (fun k hk => ?_) (fun hk => ?_)
      · have := hg (k + 1) (by omega)
        rwa [List.getD_cons_succ] at this
      · have := hn (by simpa using hk)
        rwa [List.getD_cons_succ] at this
theorem dX0_size_0 : decode cX0_size 0 = .ok (.aload_n 0, 1) := by decide +kernel
theorem dX0_size_1 : decode cX0_size 1 = .ok (.getfield 15, 3) := by decide +kernel
theorem dX0_size_4 : decode cX0_size 4 = .ok (.ireturn, 1) := by decide +kernel
theorem dX0_codeAt_0 : decode cX0_codeAt 0 = .ok (.iload_n 1, 1) := by decide +kernel
theorem dX0_codeAt_1 : decode cX0_codeAt 1 = .ok (.ifCond .lt 20, 3) := by decide +kernel
theorem dX0_codeAt_4 : decode cX0_codeAt 4 = .ok (.iload_n 1, 1) := by decide +kernel
theorem dX0_codeAt_5 : decode cX0_codeAt 5 = .ok (.aload_n 0, 1) := by decide +kernel
theorem dX0_codeAt_6 : decode cX0_codeAt 6 = .ok (.getfield 15, 3) := by decide +kernel
theorem dX0_codeAt_9 : decode cX0_codeAt 9 = .ok (.if_icmp .ge 12, 3) := by decide +kernel
theorem dX0_codeAt_12 : decode cX0_codeAt 12 = .ok (.aload_n 0, 1) := by decide +kernel
theorem dX0_codeAt_13 : decode cX0_codeAt 13 = .ok (.getfield 9, 3) := by decide +kernel
theorem dX0_codeAt_16 : decode cX0_codeAt 16 = .ok (.iload_n 1, 1) := by decide +kernel
theorem dX0_codeAt_17 : decode cX0_codeAt 17 = .ok (.caload, 1) := by decide +kernel
theorem dX0_codeAt_18 : decode cX0_codeAt 18 = .ok (.goto 4, 3) := by decide +kernel
theorem dX0_codeAt_21 : decode cX0_codeAt 21 = .ok (.iconst (-1), 1) := by decide +kernel
theorem dX0_codeAt_22 : decode cX0_codeAt 22 = .ok (.ireturn, 1) := by decide +kernel
theorem dX0_hashOfSigns_0 : decode cX0_hashOfSigns 0 = .ok (.iconst 0, 1) := by decide +kernel
theorem dX0_hashOfSigns_1 : decode cX0_hashOfSigns 1 = .ok (.istore_n 1, 1) := by decide +kernel
theorem dX0_hashOfSigns_2 : decode cX0_hashOfSigns 2 = .ok (.iconst 0, 1) := by decide +kernel
theorem dX0_hashOfSigns_3 : decode cX0_hashOfSigns 3 = .ok (.istore_n 2, 1) := by decide +kernel
theorem dX0_hashOfSigns_4 : decode cX0_hashOfSigns 4 = .ok (.iload_n 2, 1) := by decide +kernel
theorem dX0_hashOfSigns_5 : decode cX0_hashOfSigns 5 = .ok (.aload_n 0, 1) := by decide +kernel
theorem dX0_hashOfSigns_6 : decode cX0_hashOfSigns 6 = .ok (.getfield 15, 3) := by decide +kernel
theorem dX0_hashOfSigns_9 : decode cX0_hashOfSigns 9 = .ok (.if_icmp .ge 21, 3) := by decide +kernel
theorem dX0_hashOfSigns_12 : decode cX0_hashOfSigns 12 = .ok (.bipush 31, 2) := by decide +kernel
theorem dX0_hashOfSigns_14 : decode cX0_hashOfSigns 14 = .ok (.iload_n 1, 1) := by decide +kernel
theorem dX0_hashOfSigns_15 : decode cX0_hashOfSigns 15 = .ok (.imul, 1) := by decide +kernel
theorem dX0_hashOfSigns_16 : decode cX0_hashOfSigns 16 = .ok (.aload_n 0, 1) := by decide +kernel
theorem dX0_hashOfSigns_17 : decode cX0_hashOfSigns 17 = .ok (.getfield 9, 3) := by decide +kernel
theorem dX0_hashOfSigns_20 : decode cX0_hashOfSigns 20 = .ok (.iload_n 2, 1) := by decide +kernel
theorem dX0_hashOfSigns_21 : decode cX0_hashOfSigns 21 = .ok (.caload, 1) := by decide +kernel
theorem dX0_hashOfSigns_22 : decode cX0_hashOfSigns 22 = .ok (.iadd, 1) := by decide +kernel
theorem dX0_hashOfSigns_23 : decode cX0_hashOfSigns 23 = .ok (.istore_n 1, 1) := by decide +kernel
theorem dX0_hashOfSigns_24 : decode cX0_hashOfSigns 24 = .ok (.iinc 2 1, 3) := by decide +kernel
theorem dX0_hashOfSigns_27 : decode cX0_hashOfSigns 27 = .ok (.goto (-23), 3) := by decide +kernel
theorem dX0_hashOfSigns_30 : decode cX0_hashOfSigns 30 = .ok (.iload_n 1, 1) := by decide +kernel
theorem dX0_hashOfSigns_31 : decode cX0_hashOfSigns 31 = .ok (.ireturn, 1) := by decide +kernel
theorem dX0_trimmedBegin_0 : decode cX0_trimmedBegin 0 = .ok (.iconst 0, 1) := by decide +kernel
theorem dX0_trimmedBegin_1 : decode cX0_trimmedBegin 1 = .ok (.istore_n 2, 1) := by decide +kernel
theorem dX0_trimmedBegin_2 : decode cX0_trimmedBegin 2 = .ok (.iload_n 2, 1) := by decide +kernel
theorem dX0_trimmedBegin_3 : decode cX0_trimmedBegin 3 = .ok (.aload_n 0, 1) := by decide +kernel
theorem dX0_trimmedBegin_4 : decode cX0_trimmedBegin 4 = .ok (.getfield 15, 3) := by decide +kernel
theorem dX0_trimmedBegin_7 : decode cX0_trimmedBegin 7 = .ok (.if_icmp .ge 22, 3) := by decide +kernel
theorem dX0_trimmedBegin_10 : decode cX0_trimmedBegin 10 = .ok (.aload_n 0, 1) := by decide +kernel
theorem dX0_trimmedBegin_11 : decode cX0_trimmedBegin 11 = .ok (.getfield 9, 3) := by decide +kernel
theorem dX0_trimmedBegin_14 : decode cX0_trimmedBegin 14 = .ok (.iload_n 2, 1) := by decide +kernel
theorem dX0_trimmedBegin_15 : decode cX0_trimmedBegin 15 = .ok (.caload, 1) := by decide +kernel
theorem dX0_trimmedBegin_16 : decode cX0_trimmedBegin 16 = .ok (.iload_n 1, 1) := by decide +kernel
theorem dX0_trimmedBegin_17 : decode cX0_trimmedBegin 17 = .ok (.invokestatic 60, 3) := by decide +kernel
theorem dX0_trimmedBegin_20 : decode cX0_trimmedBegin 20 = .ok (.ifCond .eq 9, 3) := by decide +kernel
theorem dX0_trimmedBegin_23 : decode cX0_trimmedBegin 23 = .ok (.iinc 2 1, 3) := by decide +kernel
theorem dX0_trimmedBegin_26 : decode cX0_trimmedBegin 26 = .ok (.goto (-24), 3) := by decide +kernel
theorem dX0_trimmedBegin_29 : decode cX0_trimmedBegin 29 = .ok (.iload_n 2, 1) := by decide +kernel
theorem dX0_trimmedBegin_30 : decode cX0_trimmedBegin 30 = .ok (.ireturn, 1) := by decide +kernel
theorem dX0_goes_0 : decode cX0_goes 0 = .ok (.iload_n 1, 1) := by decide +kernel
theorem dX0_goes_1 : decode cX0_goes 1 = .ok (.ifCond .eq 33, 3) := by decide +kernel
theorem dX0_goes_4 : decode cX0_goes 4 = .ok (.iload_n 0, 1) := by decide +kernel
theorem dX0_goes_5 : decode cX0_goes 5 = .ok (.bipush 32, 2) := by decide +kernel
theorem dX0_goes_7 : decode cX0_goes 7 = .ok (.if_icmp .eq 21, 3) := by decide +kernel
theorem dX0_goes_10 : decode cX0_goes 10 = .ok (.iload_n 0, 1) := by decide +kernel
theorem dX0_goes_11 : decode cX0_goes 11 = .ok (.bipush 9, 2) := by decide +kernel
theorem dX0_goes_13 : decode cX0_goes 13 = .ok (.if_icmp .eq 15, 3) := by decide +kernel
theorem dX0_goes_16 : decode cX0_goes 16 = .ok (.iload_n 0, 1) := by decide +kernel
theorem dX0_goes_17 : decode cX0_goes 17 = .ok (.bipush 10, 2) := by decide +kernel
theorem dX0_goes_19 : decode cX0_goes 19 = .ok (.if_icmp .eq 9, 3) := by decide +kernel
theorem dX0_goes_22 : decode cX0_goes 22 = .ok (.iload_n 0, 1) := by decide +kernel
theorem dX0_goes_23 : decode cX0_goes 23 = .ok (.bipush 28, 2) := by decide +kernel
theorem dX0_goes_25 : decode cX0_goes 25 = .ok (.if_icmp .ne 7, 3) := by decide +kernel
theorem dX0_goes_28 : decode cX0_goes 28 = .ok (.iconst 1, 1) := by decide +kernel
theorem dX0_goes_29 : decode cX0_goes 29 = .ok (.goto 4, 3) := by decide +kernel
theorem dX0_goes_32 : decode cX0_goes 32 = .ok (.iconst 0, 1) := by decide +kernel
theorem dX0_goes_33 : decode cX0_goes 33 = .ok (.ireturn, 1) := by decide +kernel
theorem dX0_goes_34 : decode cX0_goes 34 = .ok (.iload_n 0, 1) := by decide +kernel
theorem dX0_goes_35 : decode cX0_goes 35 = .ok (.bipush 32, 2) := by decide +kernel
theorem dX0_goes_37 : decode cX0_goes 37 = .ok (.if_icmp .gt 7, 3) := by decide +kernel
theorem dX0_goes_40 : decode cX0_goes 40 = .ok (.iconst 1, 1) := by decide +kernel
theorem dX0_goes_41 : decode cX0_goes 41 = .ok (.goto 4, 3) := by decide +kernel
theorem dX0_goes_44 : decode cX0_goes 44 = .ok (.iconst 0, 1) := by decide +kernel
theorem dX0_goes_45 : decode cX0_goes 45 = .ok (.ireturn, 1) := by decide +kernel
theorem dX0_seen_0 : decode cX0_seen 0 = .ok (.iload_n 1, 1) := by decide +kernel
theorem dX0_seen_1 : decode cX0_seen 1 = .ok (.ifCond .ne 5, 3) := by decide +kernel
theorem dX0_seen_4 : decode cX0_seen 4 = .ok (.iload_n 0, 1) := by decide +kernel
theorem dX0_seen_5 : decode cX0_seen 5 = .ok (.ireturn, 1) := by decide +kernel
theorem dX0_seen_6 : decode cX0_seen 6 = .ok (.iload_n 0, 1) := by decide +kernel
theorem dX0_seen_7 : decode cX0_seen 7 = .ok (.lookupswitch 65 #[(65, 49), (66, 52), (67, 55), (88, 58), (201, 61)], 49) := by decide +kernel
theorem dX0_seen_56 : decode cX0_seen 56 = .ok (.bipush 97, 2) := by decide +kernel
theorem dX0_seen_58 : decode cX0_seen 58 = .ok (.ireturn, 1) := by decide +kernel
theorem dX0_seen_59 : decode cX0_seen 59 = .ok (.bipush 98, 2) := by decide +kernel
theorem dX0_seen_61 : decode cX0_seen 61 = .ok (.ireturn, 1) := by decide +kernel
theorem dX0_seen_62 : decode cX0_seen 62 = .ok (.bipush 99, 2) := by decide +kernel
theorem dX0_seen_64 : decode cX0_seen 64 = .ok (.ireturn, 1) := by decide +kernel
theorem dX0_seen_65 : decode cX0_seen 65 = .ok (.bipush 120, 2) := by decide +kernel
theorem dX0_seen_67 : decode cX0_seen 67 = .ok (.ireturn, 1) := by decide +kernel
theorem dX0_seen_68 : decode cX0_seen 68 = .ok (.sipush 233, 3) := by decide +kernel
theorem dX0_seen_71 : decode cX0_seen 71 = .ok (.ireturn, 1) := by decide +kernel
theorem dX0_seen_72 : decode cX0_seen 72 = .ok (.iload_n 0, 1) := by decide +kernel
theorem dX0_seen_73 : decode cX0_seen 73 = .ok (.ireturn, 1) := by decide +kernel
abbrev rmX0_size : Room := { frames := 1, cells := 0, slots := 0, locals := 20 }
theorem mX0_size {l : Launch} {G : Cx} {A : Nat → Prop} {a ca : Nat} {t : List Nat} : Met l yX0_size (.code yX0_size cX0_size 1 (some .int) :: GW) rmX0_size (PC G A [.ref a] (LA G a ca t)) (vp_Si (fun r => r = nI t.length)) 0 0 (fun _ => False) := by
  refine mstart "Signtext$Line" (by decide +kernel) rfl (Nat.le_of_ble_eq_true rfl) ?_
  intro p e s m below meth c ls hx hb hr hts hown hml hlocks hname hC hA hW hl
  have hl : lv_has ls 1 [(0, .ref a)] := hl
  have hK := hC.1
  have hS : va_S A s.heap s.heap [] := va_S.rf
  obtain ⟨t60, tok, tne, hO, f, hF, hf⟩ := hW
  refine lv_aload_n hx hb dX0_size_0 rfl (lv_at hl 0 rfl) ?_
  refine va_get (D := G.1) (ci := 4) (C := RX0) (T := TX0) (N := 2) hx hb hts inX0 hown hK (at_P hO) 0 rfl rfl 1 (by decide) (hts _ tw_1_45) (fun _ h9 => h9) rfl dX0_size_1 ?_
  exact p_i hx hb hr hlocks dX0_size_4 rfl

abbrev rmX0_codeAt : Room := { frames := 1, cells := 0, slots := 0, locals := 20 }
theorem mX0_codeAt {l : Launch} {G : Cx} {A : Nat → Prop} {a ca : Nat} {t : List Nat} {i : Nat} (hi : i < t.length) : Met l yX0_codeAt (.code yX0_codeAt cX0_codeAt 2 (some .int) :: GW) rmX0_codeAt (PC G A [.ref a, .int (nI i)] (LA G a ca t)) (vp_Si (fun r => r = nI (t.getD i 0))) 0 0 (fun _ => False) := by
  refine mstart "Signtext$Line" (by decide +kernel) rfl (Nat.le_of_ble_eq_true rfl) ?_
  intro p e s m below meth c ls hx hb hr hts hown hml hlocks hname hC hA hW hl
  have hl : lv_has ls 2 [(0, .ref a), (1, .int (nI i))] := hl
  have hK := hC.1
  have hS : va_S A s.heap s.heap [] := va_S.rf
  obtain ⟨t60, tok, tne, hO, f, hF, hf⟩ := hW
  refine lv_iload_n hx hb dX0_codeAt_0 rfl (lv_at hl 1 rfl) ?_
  refine z_lt (tgt := 21) hx hb dX0_codeAt_1 (by decide) (by omega) ?_
  refine lv_iload_n hx hb dX0_codeAt_4 rfl (lv_at hl 1 rfl) ?_
  refine lv_aload_n hx hb dX0_codeAt_5 rfl (lv_at hl 0 rfl) ?_
  refine va_get (D := G.1) (ci := 4) (C := RX0) (T := TX0) (N := 2) hx hb hts inX0 hown hK (at_P hO) 0 rfl rfl 1 (by decide) (hts _ tw_1_45) (fun _ h9 => h9) rfl dX0_codeAt_6 ?_
  refine b_ge (tgt := 21) hx hb dX0_codeAt_9 (by decide) (by omega) (by omega) (fun c_2 => ?_) (fun c_2 => ?_)
  · exact absurd c_2 (by omega)
  · refine lv_aload_n hx hb dX0_codeAt_12 rfl (lv_at hl 0 rfl) ?_
    refine va_get (D := G.1) (ci := 4) (C := RX0) (T := TX0) (N := 2) hx hb hts inX0 hown hK (at_P hO) 0 rfl rfl 0 (by decide) (hts _ tw_1_44) (fun _ h9 => h9) rfl dX0_codeAt_13 ?_
    refine lv_iload_n hx hb dX0_codeAt_16 rfl (lv_at hl 1 rfl) ?_
    refine va_cald hx hb hK (at_P hF) 0 1 rfl rfl (vp_in_nI (n := i) (N := 60) (by omega) (by omega)) dX0_codeAt_17 ?_
    refine lv_cv (show _ = nI (t.getD i 0) from by rw [nI_clamp (by omega)]; exact hf _ (by omega)) ?_
    refine lv_goto (tgt := 22) hx hb dX0_codeAt_18 (by decide) ?_
    exact p_i hx hb hr hlocks dX0_codeAt_22 rfl

abbrev rmX0_goes : Room := { frames := 0, cells := 0, slots := 0, locals := 0 }
theorem mX0_goes {l : Launch} {G : Cx} {A : Nat → Prop} {k0 : Nat} {b : Bool} (hk0 : k0 < 256) : Met l yX0_goes (.code yX0_goes cX0_goes 2 (some .boolean) :: GW) rmX0_goes (PC G A [.int (nI k0), .int (bI b)] (fun _ => True)) (vp_Si (fun r => r = bI (goesN b k0))) 0 0 (fun _ => False) := by
  refine mstart "Signtext$Line" (by decide +kernel) rfl (Nat.le_of_ble_eq_true rfl) ?_
  intro p e s m below meth c ls hx hb hr hts hown hml hlocks hname hC hA hW hl
  have hl : lv_has ls 2 [(0, .int (nI k0)), (1, .int (bI b))] := hl
  have hK := hC.1
  have hS : va_S A s.heap s.heap [] := va_S.rf
  refine lv_iload_n hx hb dX0_goes_0 rfl (lv_at hl 1 rfl) ?_
  refine f_eq (tgt := 34) hx hb dX0_goes_1 (by decide) (fun c_3 => ?_) (fun c_3 => ?_)
  · subst c_3
    refine lv_iload_n hx hb dX0_goes_34 rfl (lv_at hl 0 rfl) ?_
    refine lv_bipush (v := nI 32) hx hb dX0_goes_35 (by decide) ?_
    refine b_gt (tgt := 44) hx hb dX0_goes_37 (by decide) (by omega) (by omega) (fun c_4 => ?_) (fun c_4 => ?_)
    · refine lv_iconst (v := nI 0) hx hb dX0_goes_44 (by decide) ?_
      exact p_z (b := false) hx hb hr hlocks dX0_goes_45 (by have q : goesN false k0 = false := (by simp [goesN]; omega); rw [q])
    · refine lv_iconst (v := nI 1) hx hb dX0_goes_40 (by decide) ?_
      refine lv_goto (tgt := 45) hx hb dX0_goes_41 (by decide) ?_
      exact p_z (b := true) hx hb hr hlocks dX0_goes_45 (by have q : goesN false k0 = true := (by simp [goesN]; omega); rw [q])
  · subst c_3
    refine lv_iload_n hx hb dX0_goes_4 rfl (lv_at hl 0 rfl) ?_
    refine lv_bipush (v := nI 32) hx hb dX0_goes_5 (by decide) ?_
    refine b_eq (tgt := 28) hx hb dX0_goes_7 (by decide) (by omega) (by omega) (fun c_5 => ?_) (fun c_5 => ?_)
    · refine lv_iconst (v := nI 1) hx hb dX0_goes_28 (by decide) ?_
      refine lv_goto (tgt := 33) hx hb dX0_goes_29 (by decide) ?_
      exact p_z (b := true) hx hb hr hlocks dX0_goes_33 (by subst c_5; rfl)
    · refine lv_iload_n hx hb dX0_goes_10 rfl (lv_at hl 0 rfl) ?_
      refine lv_bipush (v := nI 9) hx hb dX0_goes_11 (by decide) ?_
      refine b_eq (tgt := 28) hx hb dX0_goes_13 (by decide) (by omega) (by omega) (fun c_6 => ?_) (fun c_6 => ?_)
      · refine lv_iconst (v := nI 1) hx hb dX0_goes_28 (by decide) ?_
        refine lv_goto (tgt := 33) hx hb dX0_goes_29 (by decide) ?_
        exact p_z (b := true) hx hb hr hlocks dX0_goes_33 (by subst c_6; rfl)
      · refine lv_iload_n hx hb dX0_goes_16 rfl (lv_at hl 0 rfl) ?_
        refine lv_bipush (v := nI 10) hx hb dX0_goes_17 (by decide) ?_
        refine b_eq (tgt := 28) hx hb dX0_goes_19 (by decide) (by omega) (by omega) (fun c_7 => ?_) (fun c_7 => ?_)
        · refine lv_iconst (v := nI 1) hx hb dX0_goes_28 (by decide) ?_
          refine lv_goto (tgt := 33) hx hb dX0_goes_29 (by decide) ?_
          exact p_z (b := true) hx hb hr hlocks dX0_goes_33 (by subst c_7; rfl)
        · refine lv_iload_n hx hb dX0_goes_22 rfl (lv_at hl 0 rfl) ?_
          refine lv_bipush (v := nI 28) hx hb dX0_goes_23 (by decide) ?_
          refine b_ne (tgt := 32) hx hb dX0_goes_25 (by decide) (by omega) (by omega) (fun c_8 => ?_) (fun c_8 => ?_)
          · refine lv_iconst (v := nI 0) hx hb dX0_goes_32 (by decide) ?_
            exact p_z (b := false) hx hb hr hlocks dX0_goes_33 (by have q : goesN true k0 = false := (by simp [goesN]; omega); rw [q])
          · refine lv_iconst (v := nI 1) hx hb dX0_goes_28 (by decide) ?_
            refine lv_goto (tgt := 33) hx hb dX0_goes_29 (by decide) ?_
            exact p_z (b := true) hx hb hr hlocks dX0_goes_33 (by subst c_8; rfl)

abbrev rmX0_seen : Room := { frames := 0, cells := 0, slots := 0, locals := 0 }
theorem mX0_seen {l : Launch} {G : Cx} {A : Nat → Prop} {k0 : Nat} {b : Bool} (hk0 : k0 < 256) : Met l yX0_seen (.code yX0_seen cX0_seen 2 (some .int) :: GW) rmX0_seen (PC G A [.int (nI k0), .int (bI b)] (fun _ => True)) (vp_Si (fun r => r = nI (viewN b k0))) 0 0 (fun _ => False) := by
  refine mstart "Signtext$Line" (by decide +kernel) rfl (Nat.le_of_ble_eq_true rfl) ?_
  intro p e s m below meth c ls hx hb hr hts hown hml hlocks hname hC hA hW hl
  have hl : lv_has ls 2 [(0, .int (nI k0)), (1, .int (bI b))] := hl
  have hK := hC.1
  have hS : va_S A s.heap s.heap [] := va_S.rf
  refine lv_iload_n hx hb dX0_seen_0 rfl (lv_at hl 1 rfl) ?_
  refine f_ne (tgt := 6) hx hb dX0_seen_1 (by decide) (fun c_9 => ?_) (fun c_9 => ?_)
  · subst c_9
    refine lv_iload_n hx hb dX0_seen_6 rfl (lv_at hl 0 rfl) ?_
    by_cases c65 : k0 = 65
    · subst c65
      refine lv_lookup (tgt := 56) hx hb dX0_seen_7 (by decide) (off := 49) (by decide) (by decide) ?_
      refine lv_bipush (v := nI 97) hx hb dX0_seen_56 (by decide) ?_
      exact p_i hx hb hr hlocks dX0_seen_58 rfl
    by_cases c66 : k0 = 66
    · subst c66
      refine lv_lookup (tgt := 59) hx hb dX0_seen_7 (by decide) (off := 52) (by decide) (by decide) ?_
      refine lv_bipush (v := nI 98) hx hb dX0_seen_59 (by decide) ?_
      exact p_i hx hb hr hlocks dX0_seen_61 rfl
    by_cases c67 : k0 = 67
    · subst c67
      refine lv_lookup (tgt := 62) hx hb dX0_seen_7 (by decide) (off := 55) (by decide) (by decide) ?_
      refine lv_bipush (v := nI 99) hx hb dX0_seen_62 (by decide) ?_
      exact p_i hx hb hr hlocks dX0_seen_64 rfl
    by_cases c88 : k0 = 88
    · subst c88
      refine lv_lookup (tgt := 65) hx hb dX0_seen_7 (by decide) (off := 58) (by decide) (by decide) ?_
      refine lv_bipush (v := nI 120) hx hb dX0_seen_65 (by decide) ?_
      exact p_i hx hb hr hlocks dX0_seen_67 rfl
    by_cases c201 : k0 = 201
    · subst c201
      refine lv_lookup (tgt := 68) hx hb dX0_seen_7 (by decide) (off := 61) (by decide) (by decide) ?_
      refine lv_sipush (v := nI 233) hx hb dX0_seen_68 (by decide) ?_
      exact p_i hx hb hr hlocks dX0_seen_71 rfl
    refine lv_lookup (tgt := 72) hx hb dX0_seen_7 (by decide) (off := 65) (by rw [nI_toInt (by omega)]; exact sw_seen c65 c66 c67 c88 c201) (by decide) ?_
    refine lv_iload_n hx hb dX0_seen_72 rfl (lv_at hl 0 rfl) ?_
    exact p_i hx hb hr hlocks dX0_seen_73 (by have q : viewN true k0 = k0 := (by simp [viewN, litN, c65, c66, c67, c88, c201]); rw [q])
  · subst c_9
    refine lv_iload_n hx hb dX0_seen_4 rfl (lv_at hl 0 rfl) ?_
    exact p_i hx hb hr hlocks dX0_seen_5 rfl

abbrev rmX0_hashOfSigns : Room := { frames := 1, cells := 0, slots := 0, locals := 20 }
theorem mX0_hashOfSigns {l : Launch} {G : Cx} {A : Nat → Prop} {a ca : Nat} {t : List Nat} : Met l yX0_hashOfSigns (.code yX0_hashOfSigns cX0_hashOfSigns 3 (some .int) :: GW) rmX0_hashOfSigns (PC G A [.ref a] (LA G a ca t)) (vp_Si (fun r => r = hashL t)) 0 0 (fun _ => False) := by
  refine mstart "Signtext$Line" (by decide +kernel) rfl (Nat.le_of_ble_eq_true rfl) ?_
  intro p e s m below meth c ls hx hb hr hts hown hml hlocks hname hC hA hW hl
  have hl : lv_has ls 3 [(0, .ref a)] := hl
  have hK := hC.1
  have hS : va_S A s.heap s.heap [] := va_S.rf
  obtain ⟨t60, tok, tne, hO, f, hF, hf⟩ := hW
  refine lv_iconst (v := nI 0) hx hb dX0_hashOfSigns_0 (by decide) ?_
  refine lv_istore_n (lv' := [(1, .int (nI 0)), (0, .ref a)]) hx hb dX0_hashOfSigns_1 rfl hl (by decide) rfl (fun ls hl => ?_)
  refine lv_iconst (v := nI 0) hx hb dX0_hashOfSigns_2 (by decide) ?_
  refine lv_istore_n (lv' := [(2, .int (nI 0)), (1, .int (nI 0)), (0, .ref a)]) hx hb dX0_hashOfSigns_3 rfl hl (by decide) rfl (fun ls hl => ?_)
  have hl : lv_has ls 3 [(2, .int (nI 0)), (1, .int (hashL (t.take 0))), (0, .ref a)] := hl
  refine nloop (P := fun j => ∀ (ls : Array Slot) , lv_has ls 3 [(2, .int (nI j)), (1, .int (hashL (t.take j))), (0, .ref a)] → W p l e rmX0_hashOfSigns s m [.ref a].toArray below meth c s.heap [] 0 0 (MQ below (vp_Si (fun r => r = hashL t)) [.ref a].toArray s 0 0 (fun _ => False)) (F0 m 4 ls [])) t.length ?_ 0 (Nat.zero_le _) ls  hl 
  clear hl
  intro j hj ih ls  hl
  refine lv_iload_n hx hb dX0_hashOfSigns_4 rfl (lv_at hl 0 rfl) ?_
  refine lv_aload_n hx hb dX0_hashOfSigns_5 rfl (lv_at hl 2 rfl) ?_
  refine va_get (D := G.1) (ci := 4) (C := RX0) (T := TX0) (N := 2) hx hb hts inX0 hown hK (at_P hO) 0 rfl rfl 1 (by decide) (hts _ tw_1_45) (fun _ h9 => h9) rfl dX0_hashOfSigns_6 ?_
  refine b_ge (tgt := 30) hx hb dX0_hashOfSigns_9 (by decide) (by omega) (by omega) (fun c_10 => ?_) (fun c_10 => ?_)
  · refine lv_iload_n hx hb dX0_hashOfSigns_30 rfl (lv_at hl 1 rfl) ?_
    exact p_i hx hb hr hlocks dX0_hashOfSigns_31 (by rw [show j = t.length by omega, List.take_length])
  · refine lv_bipush (v := nI 31) hx hb dX0_hashOfSigns_12 (by decide) ?_
    refine lv_iload_n hx hb dX0_hashOfSigns_14 rfl (lv_at hl 1 rfl) ?_
    refine lv_imul hx hb dX0_hashOfSigns_15 ?_
    refine lv_aload_n hx hb dX0_hashOfSigns_16 rfl (lv_at hl 2 rfl) ?_
    refine va_get (D := G.1) (ci := 4) (C := RX0) (T := TX0) (N := 2) hx hb hts inX0 hown hK (at_P hO) 0 rfl rfl 0 (by decide) (hts _ tw_1_44) (fun _ h9 => h9) rfl dX0_hashOfSigns_17 ?_
    refine lv_iload_n hx hb dX0_hashOfSigns_20 rfl (lv_at hl 0 rfl) ?_
    refine va_cald hx hb hK (at_P hF) 0 1 rfl rfl (vp_in_nI (n := j) (N := 60) (by omega) (by omega)) dX0_hashOfSigns_21 ?_
    refine lv_cv (show _ = nI (t.getD j 0) from by rw [nI_clamp (by omega)]; exact hf _ (by omega)) ?_
    refine lv_iadd hx hb dX0_hashOfSigns_22 ?_
    refine lv_cv (hashL_succ (by omega)).symm ?_
    refine lv_istore_n (lv' := [(1, .int (hashL (t.take (j + 1)))), (2, .int (nI j)), (0, .ref a)]) hx hb dX0_hashOfSigns_23 rfl hl (by decide) rfl (fun ls hl => ?_)
    refine lv_iinc (v := nI (j + 1)) (lv' := [(2, .int (nI (j + 1))), (1, .int (hashL (t.take (j + 1)))), (0, .ref a)]) hx hb dX0_hashOfSigns_24 hl (k := 1) rfl (nI_add j 1) (by decide) rfl (fun ls hl => ?_)
    refine lv_goto (tgt := 4) hx hb dX0_hashOfSigns_27 (by decide) ?_
    exact ih (j + 1) (by omega) (by omega) ls hl

abbrev rmX0_trimmedBegin : Room := { frames := 1, cells := 0, slots := 0, locals := 21 }
theorem mX0_trimmedBegin {l : Launch} {G : Cx} {A : Nat → Prop} {a ca : Nat} {t : List Nat} {b : Bool} : Met l yX0_trimmedBegin (.code yX0_trimmedBegin cX0_trimmedBegin 3 (some .int) :: GW) rmX0_trimmedBegin (PC G A [.ref a, .int (bI b)] (LA G a ca t)) (vp_Si (fun r => r = nI (tbL b t))) 0 0 (fun _ => False) := by
  refine mstart "Signtext$Line" (by decide +kernel) rfl (Nat.le_of_ble_eq_true rfl) ?_
  intro p e s m below meth c ls hx hb hr hts hown hml hlocks hname hC hA hW hl
  have hl : lv_has ls 3 [(0, .ref a), (1, .int (bI b))] := hl
  have hK := hC.1
  have hS : va_S A s.heap s.heap [] := va_S.rf
  obtain ⟨t60, tok, tne, hO, f, hF, hf⟩ := hW
  refine lv_iconst (v := nI 0) hx hb dX0_trimmedBegin_0 (by decide) ?_
  refine lv_istore_n (lv' := [(2, .int (nI 0)), (0, .ref a), (1, .int (bI b))]) hx hb dX0_trimmedBegin_1 rfl hl (by decide) rfl (fun ls hl => ?_)
  refine nloop (P := fun j => ∀ (ls : Array Slot) , lv_has ls 3 [(2, .int (nI j)), (0, .ref a), (1, .int (bI b))] → (∀ k : Nat, k < j → goesN b (t.getD k 0) = true) → W p l e rmX0_trimmedBegin s m [.ref a, .int (bI b)].toArray below meth c s.heap [] 0 0 (MQ below (vp_Si (fun r => r = nI (tbL b t))) [.ref a, .int (bI b)].toArray s 0 0 (fun _ => False)) (F0 m 2 ls [])) t.length ?_ 0 (Nat.zero_le _) ls  hl (fun k hk => absurd hk (Nat.not_lt_zero k))
  clear hl
  intro j hj ih ls  hl
  intro hg
  refine lv_iload_n hx hb dX0_trimmedBegin_2 rfl (lv_at hl 0 rfl) ?_
  refine lv_aload_n hx hb dX0_trimmedBegin_3 rfl (lv_at hl 1 rfl) ?_
  refine va_get (D := G.1) (ci := 4) (C := RX0) (T := TX0) (N := 2) hx hb hts inX0 hown hK (at_P hO) 0 rfl rfl 1 (by decide) (hts _ tw_1_45) (fun _ h9 => h9) rfl dX0_trimmedBegin_4 ?_
  refine b_ge (tgt := 29) hx hb dX0_trimmedBegin_7 (by decide) (by omega) (by omega) (fun c_11 => ?_) (fun c_11 => ?_)
  · refine lv_iload_n hx hb dX0_trimmedBegin_29 rfl (lv_at hl 0 rfl) ?_
    exact p_i hx hb hr hlocks dX0_trimmedBegin_30 (by rw [tbL_eq (j := j) (by omega) hg (fun q => absurd q (by omega))])
  · refine lv_aload_n hx hb dX0_trimmedBegin_10 rfl (lv_at hl 1 rfl) ?_
    refine va_get (D := G.1) (ci := 4) (C := RX0) (T := TX0) (N := 2) hx hb hts inX0 hown hK (at_P hO) 0 rfl rfl 0 (by decide) (hts _ tw_1_44) (fun _ h9 => h9) rfl dX0_trimmedBegin_11 ?_
    refine lv_iload_n hx hb dX0_trimmedBegin_14 rfl (lv_at hl 0 rfl) ?_
    refine va_cald hx hb hK (at_P hF) 0 1 rfl rfl (vp_in_nI (n := j) (N := 60) (by omega) (by omega)) dX0_trimmedBegin_15 ?_
    refine lv_cv (show _ = nI (t.getD j 0) from by rw [nI_clamp (by omega)]; exact hf _ (by omega)) ?_
    refine lv_iload_n hx hb dX0_trimmedBegin_16 rfl (lv_at hl 2 rfl) ?_
    refine kS_i (A := A) (As := [.int (nI (t.getD j 0)), .int (bI b)]) (rest := []) ⟨hx, hb, hml, hown, hts⟩ (mX0_goes (A := A) (tok j)) (va_cwS 2 hts (gS tw_2_47 tw_2_48 tw_1_2 tw_2_49) rfl rfl rfl (by decide +kernel) ⟨Nat.le_of_ble_eq_true rfl, Nat.le_of_ble_eq_true rfl⟩) hC hS hA  trivial rfl rfl hl.1 (Nat.le_of_ble_eq_true rfl) ⟨Nat.zero_le _, Nat.zero_le _⟩ dX0_trimmedBegin_17 (fun r9 h9 => lv_cv h9 ?_)
    refine f_eq (tgt := 29) hx hb dX0_trimmedBegin_20 (by decide) (fun c_12 => ?_) (fun c_12 => ?_)
    · refine lv_iload_n hx hb dX0_trimmedBegin_29 rfl (lv_at hl 0 rfl) ?_
      exact p_i hx hb hr hlocks dX0_trimmedBegin_30 (by rw [tbL_eq (j := j) (by omega) hg (fun _ => c_12)])
    · refine lv_iinc (v := nI (j + 1)) (lv' := [(2, .int (nI (j + 1))), (0, .ref a), (1, .int (bI b))]) hx hb dX0_trimmedBegin_23 hl (k := 0) rfl (nI_add j 1) (by decide) rfl (fun ls hl => ?_)
      refine lv_goto (tgt := 2) hx hb dX0_trimmedBegin_26 (by decide) ?_
      exact ih (j + 1) (by omega) (by omega) ls hl (fun k hk => by rcases Nat.lt_succ_iff_lt_or_eq.mp hk with q | q; exact hg k q; rw [q]; exact c_12)
end
/-! 08.line2 -/
section
/-! Line, 2: readers -/
def isTe (b : Bool) (t : List Nat) (e9 : Nat) : Prop := tbL b t ≤ e9 ∧ e9 ≤ t.length ∧ (∀ k : Nat, e9 ≤ k → k < t.length → goesN b (t.getD k 0) = true) ∧ (tbL b t < e9 → goesN b (t.getD (e9 - 1) 0) = false)
theorem isTe.eq {b : Bool} {t : List Nat} {x y : Nat} (h1 : isTe b t x) (h2 : isTe b t y) : x = y := by
  have key : ∀ x y : Nat, isTe b t x → isTe b t y → ¬ x < y := by
    intro x y h1 h2 h
    have h3 := h2.2.2.2 (Nat.lt_of_le_of_lt h1.1 h)
    have h4 := h1.2.2.1 (y - 1) (by omega) (by have := h2.2.1; omega)
    rw [h4] at h3; cases h3
  have := key x y h1 h2
  have := key y x h2 h1
  omega
/-- the first, the last place of P -/
def fstR (P : Nat → Prop) (r : Int32) : Prop := (∃ k, P k ∧ (∀ j, j < k → ¬ P j) ∧ r = nI k) ∨ ((∀ k, ¬ P k) ∧ r = -1)
def lstR (P : Nat → Prop) (r : Int32) : Prop := (∃ k, P k ∧ (∀ j, k < j → ¬ P j) ∧ r = nI k) ∨ ((∀ k, ¬ P k) ∧ r = -1)
theorem fstR.eq {P : Nat → Prop} {x y : Int32} (h1 : fstR P x) (h2 : fstR P y) : x = y := by
  rcases h1 with ⟨k, p1, q1, rfl⟩ | ⟨q1, rfl⟩ <;> rcases h2 with ⟨j, p2, q2, rfl⟩ | ⟨q2, rfl⟩
  · rcases Nat.lt_trichotomy k j with h | h | h
    · exact absurd p1 (q2 _ h)
    · rw [h]
    · exact absurd p2 (q1 _ h)
  · exact absurd p1 (q2 _)
  · exact absurd p2 (q1 _)
  · rfl
theorem lstR.eq {P : Nat → Prop} {x y : Int32} (h1 : lstR P x) (h2 : lstR P y) : x = y := by
  rcases h1 with ⟨k, p1, q1, rfl⟩ | ⟨q1, rfl⟩ <;> rcases h2 with ⟨j, p2, q2, rfl⟩ | ⟨q2, rfl⟩
  · rcases Nat.lt_trichotomy k j with h | h | h
    · exact absurd p2 (q1 _ h)
    · rw [h]
    · exact absurd p1 (q2 _ h)
  · exact absurd p1 (q2 _)
  · exact absurd p2 (q1 _)
  · rfl
theorem m1_eq (j : Nat) : nI j + Int32.ofInt (-1) = nI j - 1 := by rw [Int32.sub_eq_add_neg]; rfl
theorem dX0_isAllWhite_0 : decode cX0_isAllWhite 0 = .ok (.aload_n 0, 1) := by decide +kernel
theorem dX0_isAllWhite_1 : decode cX0_isAllWhite 1 = .ok (.iconst 1, 1) := by decide +kernel
theorem dX0_isAllWhite_2 : decode cX0_isAllWhite 2 = .ok (.invokevirtual 56, 3) := by decide +kernel
theorem dX0_isAllWhite_5 : decode cX0_isAllWhite 5 = .ok (.aload_n 0, 1) := by decide +kernel
theorem dX0_isAllWhite_6 : decode cX0_isAllWhite 6 = .ok (.getfield 15, 3) := by decide +kernel
theorem dX0_isAllWhite_9 : decode cX0_isAllWhite 9 = .ok (.if_icmp .ne 7, 3) := by decide +kernel
theorem dX0_isAllWhite_12 : decode cX0_isAllWhite 12 = .ok (.iconst 1, 1) := by decide +kernel
theorem dX0_isAllWhite_13 : decode cX0_isAllWhite 13 = .ok (.goto 4, 3) := by decide +kernel
theorem dX0_isAllWhite_16 : decode cX0_isAllWhite 16 = .ok (.iconst 0, 1) := by decide +kernel
theorem dX0_isAllWhite_17 : decode cX0_isAllWhite 17 = .ok (.ireturn, 1) := by decide +kernel
theorem dX0_trimmedEnd_0 : decode cX0_trimmedEnd 0 = .ok (.aload_n 0, 1) := by decide +kernel
theorem dX0_trimmedEnd_1 : decode cX0_trimmedEnd 1 = .ok (.iload_n 1, 1) := by decide +kernel
theorem dX0_trimmedEnd_2 : decode cX0_trimmedEnd 2 = .ok (.invokevirtual 56, 3) := by decide +kernel
theorem dX0_trimmedEnd_5 : decode cX0_trimmedEnd 5 = .ok (.istore_n 2, 1) := by decide +kernel
theorem dX0_trimmedEnd_6 : decode cX0_trimmedEnd 6 = .ok (.aload_n 0, 1) := by decide +kernel
theorem dX0_trimmedEnd_7 : decode cX0_trimmedEnd 7 = .ok (.getfield 15, 3) := by decide +kernel
theorem dX0_trimmedEnd_10 : decode cX0_trimmedEnd 10 = .ok (.istore_n 3, 1) := by decide +kernel
theorem dX0_trimmedEnd_11 : decode cX0_trimmedEnd 11 = .ok (.iload_n 3, 1) := by decide +kernel
theorem dX0_trimmedEnd_12 : decode cX0_trimmedEnd 12 = .ok (.iload_n 2, 1) := by decide +kernel
theorem dX0_trimmedEnd_13 : decode cX0_trimmedEnd 13 = .ok (.if_icmp .le 24, 3) := by decide +kernel
theorem dX0_trimmedEnd_16 : decode cX0_trimmedEnd 16 = .ok (.aload_n 0, 1) := by decide +kernel
theorem dX0_trimmedEnd_17 : decode cX0_trimmedEnd 17 = .ok (.getfield 9, 3) := by decide +kernel
theorem dX0_trimmedEnd_20 : decode cX0_trimmedEnd 20 = .ok (.iload_n 3, 1) := by decide +kernel
theorem dX0_trimmedEnd_21 : decode cX0_trimmedEnd 21 = .ok (.iconst 1, 1) := by decide +kernel
theorem dX0_trimmedEnd_22 : decode cX0_trimmedEnd 22 = .ok (.isub, 1) := by decide +kernel
theorem dX0_trimmedEnd_23 : decode cX0_trimmedEnd 23 = .ok (.caload, 1) := by decide +kernel
theorem dX0_trimmedEnd_24 : decode cX0_trimmedEnd 24 = .ok (.iload_n 1, 1) := by decide +kernel
theorem dX0_trimmedEnd_25 : decode cX0_trimmedEnd 25 = .ok (.invokestatic 60, 3) := by decide +kernel
theorem dX0_trimmedEnd_28 : decode cX0_trimmedEnd 28 = .ok (.ifCond .eq 9, 3) := by decide +kernel
theorem dX0_trimmedEnd_31 : decode cX0_trimmedEnd 31 = .ok (.iinc 3 (-1), 3) := by decide +kernel
theorem dX0_trimmedEnd_34 : decode cX0_trimmedEnd 34 = .ok (.goto (-23), 3) := by decide +kernel
theorem dX0_trimmedEnd_37 : decode cX0_trimmedEnd 37 = .ok (.iload_n 3, 1) := by decide +kernel
theorem dX0_trimmedEnd_38 : decode cX0_trimmedEnd 38 = .ok (.ireturn, 1) := by decide +kernel
theorem dX0_firstPlaceOfCode_0 : decode cX0_firstPlaceOfCode 0 = .ok (.iload_n 2, 1) := by decide +kernel
theorem dX0_firstPlaceOfCode_1 : decode cX0_firstPlaceOfCode 1 = .ok (.istore_n 3, 1) := by decide +kernel
theorem dX0_firstPlaceOfCode_2 : decode cX0_firstPlaceOfCode 2 = .ok (.iload_n 3, 1) := by decide +kernel
theorem dX0_firstPlaceOfCode_3 : decode cX0_firstPlaceOfCode 3 = .ok (.aload_n 0, 1) := by decide +kernel
theorem dX0_firstPlaceOfCode_4 : decode cX0_firstPlaceOfCode 4 = .ok (.getfield 15, 3) := by decide +kernel
theorem dX0_firstPlaceOfCode_7 : decode cX0_firstPlaceOfCode 7 = .ok (.if_icmp .ge 20, 3) := by decide +kernel
theorem dX0_firstPlaceOfCode_10 : decode cX0_firstPlaceOfCode 10 = .ok (.aload_n 0, 1) := by decide +kernel
theorem dX0_firstPlaceOfCode_11 : decode cX0_firstPlaceOfCode 11 = .ok (.iload_n 3, 1) := by decide +kernel
theorem dX0_firstPlaceOfCode_12 : decode cX0_firstPlaceOfCode 12 = .ok (.invokevirtual 19, 3) := by decide +kernel
theorem dX0_firstPlaceOfCode_15 : decode cX0_firstPlaceOfCode 15 = .ok (.iload_n 1, 1) := by decide +kernel
theorem dX0_firstPlaceOfCode_16 : decode cX0_firstPlaceOfCode 16 = .ok (.if_icmp .ne 5, 3) := by decide +kernel
theorem dX0_firstPlaceOfCode_19 : decode cX0_firstPlaceOfCode 19 = .ok (.iload_n 3, 1) := by decide +kernel
theorem dX0_firstPlaceOfCode_20 : decode cX0_firstPlaceOfCode 20 = .ok (.ireturn, 1) := by decide +kernel
theorem dX0_firstPlaceOfCode_21 : decode cX0_firstPlaceOfCode 21 = .ok (.iinc 3 1, 3) := by decide +kernel
theorem dX0_firstPlaceOfCode_24 : decode cX0_firstPlaceOfCode 24 = .ok (.goto (-22), 3) := by decide +kernel
theorem dX0_firstPlaceOfCode_27 : decode cX0_firstPlaceOfCode 27 = .ok (.iconst (-1), 1) := by decide +kernel
theorem dX0_firstPlaceOfCode_28 : decode cX0_firstPlaceOfCode 28 = .ok (.ireturn, 1) := by decide +kernel
theorem dX0_lastPlaceOfCode_0 : decode cX0_lastPlaceOfCode 0 = .ok (.aload_n 0, 1) := by decide +kernel
theorem dX0_lastPlaceOfCode_1 : decode cX0_lastPlaceOfCode 1 = .ok (.getfield 15, 3) := by decide +kernel
theorem dX0_lastPlaceOfCode_4 : decode cX0_lastPlaceOfCode 4 = .ok (.iconst 1, 1) := by decide +kernel
theorem dX0_lastPlaceOfCode_5 : decode cX0_lastPlaceOfCode 5 = .ok (.isub, 1) := by decide +kernel
theorem dX0_lastPlaceOfCode_6 : decode cX0_lastPlaceOfCode 6 = .ok (.istore_n 2, 1) := by decide +kernel
theorem dX0_lastPlaceOfCode_7 : decode cX0_lastPlaceOfCode 7 = .ok (.iload_n 2, 1) := by decide +kernel
theorem dX0_lastPlaceOfCode_8 : decode cX0_lastPlaceOfCode 8 = .ok (.ifCond .lt 21, 3) := by decide +kernel
theorem dX0_lastPlaceOfCode_11 : decode cX0_lastPlaceOfCode 11 = .ok (.aload_n 0, 1) := by decide +kernel
theorem dX0_lastPlaceOfCode_12 : decode cX0_lastPlaceOfCode 12 = .ok (.getfield 9, 3) := by decide +kernel
theorem dX0_lastPlaceOfCode_15 : decode cX0_lastPlaceOfCode 15 = .ok (.iload_n 2, 1) := by decide +kernel
theorem dX0_lastPlaceOfCode_16 : decode cX0_lastPlaceOfCode 16 = .ok (.caload, 1) := by decide +kernel
theorem dX0_lastPlaceOfCode_17 : decode cX0_lastPlaceOfCode 17 = .ok (.iload_n 1, 1) := by decide +kernel
theorem dX0_lastPlaceOfCode_18 : decode cX0_lastPlaceOfCode 18 = .ok (.if_icmp .ne 5, 3) := by decide +kernel
theorem dX0_lastPlaceOfCode_21 : decode cX0_lastPlaceOfCode 21 = .ok (.iload_n 2, 1) := by decide +kernel
theorem dX0_lastPlaceOfCode_22 : decode cX0_lastPlaceOfCode 22 = .ok (.ireturn, 1) := by decide +kernel
theorem dX0_lastPlaceOfCode_23 : decode cX0_lastPlaceOfCode 23 = .ok (.iinc 2 (-1), 3) := by decide +kernel
theorem dX0_lastPlaceOfCode_26 : decode cX0_lastPlaceOfCode 26 = .ok (.goto (-19), 3) := by decide +kernel
theorem dX0_lastPlaceOfCode_29 : decode cX0_lastPlaceOfCode 29 = .ok (.iconst (-1), 1) := by decide +kernel
theorem dX0_lastPlaceOfCode_30 : decode cX0_lastPlaceOfCode 30 = .ok (.ireturn, 1) := by decide +kernel
abbrev rmX0_trimmedEnd : Room := { frames := 2, cells := 0, slots := 0, locals := 43 }
theorem mX0_trimmedEnd {l : Launch} {G : Cx} {A : Nat → Prop} {a ca : Nat} {t : List Nat} {b : Bool} : Met l yX0_trimmedEnd (.code yX0_trimmedEnd cX0_trimmedEnd 4 (some .int) :: GW) rmX0_trimmedEnd (PC G A [.ref a, .int (bI b)] (LA G a ca t)) (vp_Si (fun r => ∃ e9, isTe b t e9 ∧ r = nI e9)) 0 0 (fun _ => False) := by
  refine mstart "Signtext$Line" (by decide +kernel) rfl (Nat.le_of_ble_eq_true rfl) ?_
  intro p e s m below meth c ls hx hb hr hts hown hml hlocks hname hC hA hW hl
  have hl : lv_has ls 4 [(0, .ref a), (1, .int (bI b))] := hl
  have hK := hC.1
  have hS : va_S A s.heap s.heap [] := va_S.rf
  have hW0 := hW
  obtain ⟨t60, tok, tne, hO, f, hF, hf⟩ := hW
  refine lv_aload_n hx hb dX0_trimmedEnd_0 rfl (lv_at hl 0 rfl) ?_
  refine lv_iload_n hx hb dX0_trimmedEnd_1 rfl (lv_at hl 1 rfl) ?_
  have tb9 := tbL_le b t
  refine kV_i (A := A) (b := a) (As := [.int (bI b)]) (rest := []) ⟨hx, hb, hml, hown, hts⟩ (mX0_trimmedBegin (A := A) (ca := ca)) (cwV 1 hts (gV tw_2_54 tw_2_44 tw_2_45 tw_1_2 tw_2_46) rfl rfl rfl (by decide +kernel) ⟨Nat.le_of_ble_eq_true rfl, Nat.le_of_ble_eq_true rfl⟩) hC hS hA (hW0.recv hK) hW0 rfl rfl hl.1 (Nat.le_of_ble_eq_true rfl) ⟨Nat.zero_le _, Nat.zero_le _⟩ dX0_trimmedEnd_2 (fun r9 h9 => lv_cv h9 ?_)
  refine lv_istore_n (lv' := [(2, .int (nI (tbL b t))), (0, .ref a), (1, .int (bI b))]) hx hb dX0_trimmedEnd_5 rfl hl (by decide) rfl (fun ls hl => ?_)
  refine lv_aload_n hx hb dX0_trimmedEnd_6 rfl (lv_at hl 1 rfl) ?_
  refine va_get (D := G.1) (ci := 4) (C := RX0) (T := TX0) (N := 2) hx hb hts inX0 hown hK (at_P hO) 0 rfl rfl 1 (by decide) (hts _ tw_1_45) (fun _ h9 => h9) rfl dX0_trimmedEnd_7 ?_
  refine lv_istore_n (lv' := [(3, .int (nI t.length)), (2, .int (nI (tbL b t))), (0, .ref a), (1, .int (bI b))]) hx hb dX0_trimmedEnd_10 rfl hl (by decide) rfl (fun ls hl => ?_)
  refine dloop (P := fun j => ∀ (ls : Array Slot) , lv_has ls 4 [(3, .int (nI j)), (2, .int (nI (tbL b t))), (0, .ref a), (1, .int (bI b))] → j ≤ t.length → tbL b t ≤ j → (∀ k : Nat, j ≤ k → k < t.length → goesN b (t.getD k 0) = true) → W p l e rmX0_trimmedEnd s m [.ref a, .int (bI b)].toArray below meth c s.heap [] 0 0 (MQ below (vp_Si (fun r => ∃ e9, isTe b t e9 ∧ r = nI e9)) [.ref a, .int (bI b)].toArray s 0 0 (fun _ => False)) (F0 m 11 ls [])) ?_ t.length ls  hl (Nat.le_refl _) tb9 (fun k h1 h2 => absurd h2 (by omega))
  clear hl
  intro j ih ls  hl
  intro hj hj2 hg
  refine lv_iload_n hx hb dX0_trimmedEnd_11 rfl (lv_at hl 0 rfl) ?_
  refine lv_iload_n hx hb dX0_trimmedEnd_12 rfl (lv_at hl 1 rfl) ?_
  refine b_le (tgt := 37) hx hb dX0_trimmedEnd_13 (by decide) (by omega) (by omega) (fun c_1 => ?_) (fun c_1 => ?_)
  · refine lv_iload_n hx hb dX0_trimmedEnd_37 rfl (lv_at hl 0 rfl) ?_
    exact p_i hx hb hr hlocks dX0_trimmedEnd_38 ⟨j, ⟨hj2, hj, hg, fun q => absurd q (by omega)⟩, rfl⟩
  · obtain ⟨i, rfl⟩ : ∃ i, j = i + 1 := ⟨j - 1, by omega⟩
    refine lv_aload_n hx hb dX0_trimmedEnd_16 rfl (lv_at hl 2 rfl) ?_
    refine va_get (D := G.1) (ci := 4) (C := RX0) (T := TX0) (N := 2) hx hb hts inX0 hown hK (at_P hO) 0 rfl rfl 0 (by decide) (hts _ tw_1_44) (fun _ h9 => h9) rfl dX0_trimmedEnd_17 ?_
    refine lv_iload_n hx hb dX0_trimmedEnd_20 rfl (lv_at hl 0 rfl) ?_
    refine lv_iconst (v := nI 1) hx hb dX0_trimmedEnd_21 (by decide) ?_
    refine lv_isub hx hb dX0_trimmedEnd_22 ?_
    refine lv_cv (nI_pred i) ?_
    refine va_cald hx hb hK (at_P hF) 0 1 rfl rfl (vp_in_nI (n := i) (N := 60) (by omega) (by omega)) dX0_trimmedEnd_23 ?_
    refine lv_cv (show _ = nI (t.getD i 0) from by rw [nI_clamp (by omega)]; exact hf _ (by omega)) ?_
    refine lv_iload_n hx hb dX0_trimmedEnd_24 rfl (lv_at hl 3 rfl) ?_
    refine kS_i (A := A) (As := [.int (nI (t.getD i 0)), .int (bI b)]) (rest := []) ⟨hx, hb, hml, hown, hts⟩ (mX0_goes (A := A) (tok i)) (va_cwS 2 hts (gS tw_2_47 tw_2_48 tw_1_2 tw_2_49) rfl rfl rfl (by decide +kernel) ⟨Nat.le_of_ble_eq_true rfl, Nat.le_of_ble_eq_true rfl⟩) hC hS hA  trivial rfl rfl hl.1 (Nat.le_of_ble_eq_true rfl) ⟨Nat.zero_le _, Nat.zero_le _⟩ dX0_trimmedEnd_25 (fun r9 h9 => lv_cv h9 ?_)
    refine f_eq (tgt := 37) hx hb dX0_trimmedEnd_28 (by decide) (fun c_2 => ?_) (fun c_2 => ?_)
    · refine lv_iload_n hx hb dX0_trimmedEnd_37 rfl (lv_at hl 0 rfl) ?_
      exact p_i hx hb hr hlocks dX0_trimmedEnd_38 ⟨i + 1, ⟨hj2, hj, hg, fun _ => c_2⟩, rfl⟩
    · refine lv_iinc (v := nI i) (lv' := [(3, .int (nI i)), (2, .int (nI (tbL b t))), (0, .ref a), (1, .int (bI b))]) hx hb dX0_trimmedEnd_31 hl (k := 0) rfl (pk_m1 i) (by decide) rfl (fun ls hl => ?_)
      refine lv_goto (tgt := 11) hx hb dX0_trimmedEnd_34 (by decide) ?_
      exact ih i (Nat.lt_succ_self i) ls hl (by omega) (by omega) (fun k h1 h2 => by rcases Nat.lt_or_ge i k with q | q; exact hg k q h2; rw [show k = i by omega]; exact c_2)

abbrev rmX0_isAllWhite : Room := { frames := 2, cells := 0, slots := 0, locals := 43 }
theorem mX0_isAllWhite {l : Launch} {G : Cx} {A : Nat → Prop} {a ca : Nat} {t : List Nat} : Met l yX0_isAllWhite (.code yX0_isAllWhite cX0_isAllWhite 1 (some .boolean) :: GW) rmX0_isAllWhite (PC G A [.ref a] (LA G a ca t)) (vp_Si (fun r => r = bI (decide (tbL true t = t.length)))) 0 0 (fun _ => False) := by
  refine mstart "Signtext$Line" (by decide +kernel) rfl (Nat.le_of_ble_eq_true rfl) ?_
  intro p e s m below meth c ls hx hb hr hts hown hml hlocks hname hC hA hW hl
  have hl : lv_has ls 1 [(0, .ref a)] := hl
  have hK := hC.1
  have hS : va_S A s.heap s.heap [] := va_S.rf
  have hW0 := hW
  obtain ⟨t60, tok, tne, hO, f, hF, hf⟩ := hW
  refine lv_aload_n hx hb dX0_isAllWhite_0 rfl (lv_at hl 0 rfl) ?_
  refine lv_iconst (v := nI 1) hx hb dX0_isAllWhite_1 (by decide) ?_
  have tb9 := tbL_le true t
  refine kV_i (A := A) (b := a) (As := [.int (bI true)]) (rest := []) ⟨hx, hb, hml, hown, hts⟩ (mX0_trimmedBegin (A := A) (ca := ca) (b := true)) (cwV 1 hts (gV tw_2_54 tw_2_44 tw_2_45 tw_1_2 tw_2_46) rfl rfl rfl (by decide +kernel) ⟨Nat.le_of_ble_eq_true rfl, Nat.le_of_ble_eq_true rfl⟩) hC hS hA (hW0.recv hK) hW0 rfl rfl hl.1 (Nat.le_of_ble_eq_true rfl) ⟨Nat.zero_le _, Nat.zero_le _⟩ dX0_isAllWhite_2 (fun r9 h9 => lv_cv h9 ?_)
  refine lv_aload_n hx hb dX0_isAllWhite_5 rfl (lv_at hl 0 rfl) ?_
  refine va_get (D := G.1) (ci := 4) (C := RX0) (T := TX0) (N := 2) hx hb hts inX0 hown hK (at_P hO) 0 rfl rfl 1 (by decide) (hts _ tw_1_45) (fun _ h9 => h9) rfl dX0_isAllWhite_6 ?_
  refine b_ne (tgt := 16) hx hb dX0_isAllWhite_9 (by decide) (by omega) (by omega) (fun c_3 => ?_) (fun c_3 => ?_)
  · refine lv_iconst (v := nI 0) hx hb dX0_isAllWhite_16 (by decide) ?_
    exact p_z (b := false) hx hb hr hlocks dX0_isAllWhite_17 (by rw [decide_eq_false c_3])
  · refine lv_iconst (v := nI 1) hx hb dX0_isAllWhite_12 (by decide) ?_
    refine lv_goto (tgt := 17) hx hb dX0_isAllWhite_13 (by decide) ?_
    exact p_z (b := true) hx hb hr hlocks dX0_isAllWhite_17 (by rw [decide_eq_true c_3])

abbrev rmX0_firstPlaceOfCode : Room := { frames := 2, cells := 0, slots := 0, locals := 41 }
theorem mX0_firstPlaceOfCode {l : Launch} {G : Cx} {A : Nat → Prop} {a ca : Nat} {t : List Nat} {k0 i : Nat} (hk0 : k0 < 256) (hi : i ≤ t.length) : Met l yX0_firstPlaceOfCode (.code yX0_firstPlaceOfCode cX0_firstPlaceOfCode 4 (some .int) :: GW) rmX0_firstPlaceOfCode (PC G A [.ref a, .int (nI k0), .int (nI i)] (LA G a ca t)) (vp_Si (fstR (fun k => i ≤ k ∧ k < t.length ∧ t.getD k 0 = k0))) 0 0 (fun _ => False) := by
  refine mstart "Signtext$Line" (by decide +kernel) rfl (Nat.le_of_ble_eq_true rfl) ?_
  intro p e s m below meth c ls hx hb hr hts hown hml hlocks hname hC hA hW hl
  have hl : lv_has ls 4 [(0, .ref a), (1, .int (nI k0)), (2, .int (nI i))] := hl
  have hK := hC.1
  have hS : va_S A s.heap s.heap [] := va_S.rf
  have hW0 := hW
  obtain ⟨t60, tok, tne, hO, f, hF, hf⟩ := hW
  refine lv_iload_n hx hb dX0_firstPlaceOfCode_0 rfl (lv_at hl 2 rfl) ?_
  refine lv_istore_n (lv' := [(3, .int (nI i)), (0, .ref a), (1, .int (nI k0)), (2, .int (nI i))]) hx hb dX0_firstPlaceOfCode_1 rfl hl (by decide) rfl (fun ls hl => ?_)
  refine nloop (P := fun j => ∀ (ls : Array Slot) , lv_has ls 4 [(3, .int (nI j)), (0, .ref a), (1, .int (nI k0)), (2, .int (nI i))] → i ≤ j → (∀ k : Nat, i ≤ k → k < j → t.getD k 0 ≠ k0) → W p l e rmX0_firstPlaceOfCode s m [.ref a, .int (nI k0), .int (nI i)].toArray below meth c s.heap [] 0 0 (MQ below (vp_Si (fstR (fun k => i ≤ k ∧ k < t.length ∧ t.getD k 0 = k0))) [.ref a, .int (nI k0), .int (nI i)].toArray s 0 0 (fun _ => False)) (F0 m 2 ls [])) t.length ?_ i hi ls  hl (Nat.le_refl _) (fun k h1 h2 => absurd h2 (by omega))
  clear hl
  intro j hj ih ls  hl
  intro hij hg
  refine lv_iload_n hx hb dX0_firstPlaceOfCode_2 rfl (lv_at hl 0 rfl) ?_
  refine lv_aload_n hx hb dX0_firstPlaceOfCode_3 rfl (lv_at hl 1 rfl) ?_
  refine va_get (D := G.1) (ci := 4) (C := RX0) (T := TX0) (N := 2) hx hb hts inX0 hown hK (at_P hO) 0 rfl rfl 1 (by decide) (hts _ tw_1_45) (fun _ h9 => h9) rfl dX0_firstPlaceOfCode_4 ?_
  refine b_ge (tgt := 27) hx hb dX0_firstPlaceOfCode_7 (by decide) (by omega) (by omega) (fun c_4 => ?_) (fun c_4 => ?_)
  · refine lv_iconst (v := (-1)) hx hb dX0_firstPlaceOfCode_27 (by decide) ?_
    exact p_i hx hb hr hlocks dX0_firstPlaceOfCode_28 (Or.inr ⟨fun k q => hg k q.1 (by omega) q.2.2, rfl⟩)
  · refine lv_aload_n hx hb dX0_firstPlaceOfCode_10 rfl (lv_at hl 1 rfl) ?_
    refine lv_iload_n hx hb dX0_firstPlaceOfCode_11 rfl (lv_at hl 0 rfl) ?_
    refine kV_i (A := A) (b := a) (As := [.int (nI j)]) (rest := []) ⟨hx, hb, hml, hown, hts⟩ (mX0_codeAt (A := A) (ca := ca) (by omega)) (cwV 1 hts (gV tw_2_19 tw_2_20 tw_2_21 tw_1_2 tw_2_22) rfl rfl rfl (by decide +kernel) ⟨Nat.le_of_ble_eq_true rfl, Nat.le_of_ble_eq_true rfl⟩) hC hS hA (hW0.recv hK) hW0 rfl rfl hl.1 (Nat.le_of_ble_eq_true rfl) ⟨Nat.zero_le _, Nat.zero_le _⟩ dX0_firstPlaceOfCode_12 (fun r9 h9 => lv_cv h9 ?_)
    have tokj := tok j
    refine lv_iload_n hx hb dX0_firstPlaceOfCode_15 rfl (lv_at hl 2 rfl) ?_
    refine b_ne (tgt := 21) hx hb dX0_firstPlaceOfCode_16 (by decide) (by omega) (by omega) (fun c_5 => ?_) (fun c_5 => ?_)
    · refine lv_iinc (v := nI (j + 1)) (lv' := [(3, .int (nI (j + 1))), (0, .ref a), (1, .int (nI k0)), (2, .int (nI i))]) hx hb dX0_firstPlaceOfCode_21 hl (k := 0) rfl (nI_add j 1) (by decide) rfl (fun ls hl => ?_)
      refine lv_goto (tgt := 2) hx hb dX0_firstPlaceOfCode_24 (by decide) ?_
      exact ih (j + 1) (by omega) (by omega) ls hl (by omega) (fun k h1 h2 => by rcases Nat.lt_succ_iff_lt_or_eq.mp h2 with q | q; exact hg k h1 q; rw [q]; exact c_5)
    · refine lv_iload_n hx hb dX0_firstPlaceOfCode_19 rfl (lv_at hl 0 rfl) ?_
      exact p_i hx hb hr hlocks dX0_firstPlaceOfCode_20 (Or.inl ⟨j, ⟨hij, by omega, c_5⟩, fun k h1 q => hg k q.1 h1 q.2.2, rfl⟩)

abbrev rmX0_lastPlaceOfCode : Room := { frames := 1, cells := 0, slots := 0, locals := 20 }
theorem mX0_lastPlaceOfCode {l : Launch} {G : Cx} {A : Nat → Prop} {a ca : Nat} {t : List Nat} {k0 : Nat} (hk0 : k0 < 256) : Met l yX0_lastPlaceOfCode (.code yX0_lastPlaceOfCode cX0_lastPlaceOfCode 3 (some .int) :: GW) rmX0_lastPlaceOfCode (PC G A [.ref a, .int (nI k0)] (LA G a ca t)) (vp_Si (lstR (fun k => k < t.length ∧ t.getD k 0 = k0))) 0 0 (fun _ => False) := by
  refine mstart "Signtext$Line" (by decide +kernel) rfl (Nat.le_of_ble_eq_true rfl) ?_
  intro p e s m below meth c ls hx hb hr hts hown hml hlocks hname hC hA hW hl
  have hl : lv_has ls 3 [(0, .ref a), (1, .int (nI k0))] := hl
  have hK := hC.1
  have hS : va_S A s.heap s.heap [] := va_S.rf
  obtain ⟨t60, tok, tne, hO, f, hF, hf⟩ := hW
  refine lv_aload_n hx hb dX0_lastPlaceOfCode_0 rfl (lv_at hl 0 rfl) ?_
  refine va_get (D := G.1) (ci := 4) (C := RX0) (T := TX0) (N := 2) hx hb hts inX0 hown hK (at_P hO) 0 rfl rfl 1 (by decide) (hts _ tw_1_45) (fun _ h9 => h9) rfl dX0_lastPlaceOfCode_1 ?_
  refine lv_iconst (v := nI 1) hx hb dX0_lastPlaceOfCode_4 (by decide) ?_
  refine lv_isub hx hb dX0_lastPlaceOfCode_5 ?_
  refine lv_istore_n (lv' := [(2, .int (nI t.length - nI 1)), (0, .ref a), (1, .int (nI k0))]) hx hb dX0_lastPlaceOfCode_6 rfl hl (by decide) rfl (fun ls hl => ?_)
  have hl : lv_has ls 3 [(2, .int (nI t.length - 1)), (0, .ref a), (1, .int (nI k0))] := hl
  refine dloop (P := fun j => ∀ (ls : Array Slot) , lv_has ls 3 [(2, .int (nI j - 1)), (0, .ref a), (1, .int (nI k0))] → j ≤ t.length → (∀ k : Nat, j ≤ k → k < t.length → t.getD k 0 ≠ k0) → W p l e rmX0_lastPlaceOfCode s m [.ref a, .int (nI k0)].toArray below meth c s.heap [] 0 0 (MQ below (vp_Si (lstR (fun k => k < t.length ∧ t.getD k 0 = k0))) [.ref a, .int (nI k0)].toArray s 0 0 (fun _ => False)) (F0 m 7 ls [])) ?_ t.length ls  hl (Nat.le_refl _) (fun k h1 h2 => absurd h2 (by omega))
  clear hl
  intro j ih ls  hl
  intro hj hg
  cases j with
  | zero =>
    refine lv_iload_n hx hb dX0_lastPlaceOfCode_7 rfl (lv_at hl 0 rfl) ?_
    refine lv_if_lt (tgt := 29) hx hb dX0_lastPlaceOfCode_8 (by decide) (fun _ => ?_) (fun q => absurd (by decide) q)
    refine lv_iconst (v := (-1)) hx hb dX0_lastPlaceOfCode_29 (by decide) ?_
    exact p_i hx hb hr hlocks dX0_lastPlaceOfCode_30 (Or.inr ⟨fun k q => hg k (Nat.zero_le _) q.1 q.2, rfl⟩)
  | succ j =>
    rw [nI_pred] at hl
    refine lv_iload_n hx hb dX0_lastPlaceOfCode_7 rfl (lv_at hl 0 rfl) ?_
    refine z_lt (tgt := 29) hx hb dX0_lastPlaceOfCode_8 (by decide) (by omega) ?_
    refine lv_aload_n hx hb dX0_lastPlaceOfCode_11 rfl (lv_at hl 1 rfl) ?_
    refine va_get (D := G.1) (ci := 4) (C := RX0) (T := TX0) (N := 2) hx hb hts inX0 hown hK (at_P hO) 0 rfl rfl 0 (by decide) (hts _ tw_1_44) (fun _ h9 => h9) rfl dX0_lastPlaceOfCode_12 ?_
    refine lv_iload_n hx hb dX0_lastPlaceOfCode_15 rfl (lv_at hl 0 rfl) ?_
    refine va_cald hx hb hK (at_P hF) 0 1 rfl rfl (vp_in_nI (n := j) (N := 60) (by omega) (by omega)) dX0_lastPlaceOfCode_16 ?_
    refine lv_cv (show _ = nI (t.getD j 0) from by rw [nI_clamp (by omega)]; exact hf _ (by omega)) ?_
    refine lv_iload_n hx hb dX0_lastPlaceOfCode_17 rfl (lv_at hl 2 rfl) ?_
    have tokj := tok j
    refine b_ne (tgt := 23) hx hb dX0_lastPlaceOfCode_18 (by decide) (by omega) (by omega) (fun c_7 => ?_) (fun c_7 => ?_)
    · refine lv_iinc (v := nI j - 1) (lv' := [(2, .int (nI j - 1)), (0, .ref a), (1, .int (nI k0))]) hx hb dX0_lastPlaceOfCode_23 hl (k := 0) rfl (m1_eq j) (by decide) rfl (fun ls hl => ?_)
      refine lv_goto (tgt := 7) hx hb dX0_lastPlaceOfCode_26 (by decide) ?_
      exact ih j (Nat.lt_succ_self j) ls hl (by omega) (fun k h1 h2 => by rcases Nat.lt_or_ge j k with q | q; exact hg k q h2; rw [show k = j by omega]; exact c_7)
    · refine lv_iload_n hx hb dX0_lastPlaceOfCode_21 rfl (lv_at hl 0 rfl) ?_
      exact p_i hx hb hr hlocks dX0_lastPlaceOfCode_22 (Or.inl ⟨j, ⟨by omega, c_7⟩, fun k h1 q => hg k (by omega) q.1 q.2, rfl⟩)
end
/-! 09.line3 -/
section
/-! Line, 3: readers of two lines -/
/-- u stands in t at i -/
def stL (b : Bool) (t u : List Nat) (i : Nat) : Prop := i + u.length ≤ t.length ∧ ∀ k : Nat, k < u.length → viewN b (t.getD (i + k) 0) = viewN b (u.getD k 0)
def ordR (b : Bool) (t u : List Nat) (r : Int32) : Prop := (∃ k, k < t.length ∧ k < u.length ∧ (∀ j, j < k → viewN b (t.getD j 0) = viewN b (u.getD j 0)) ∧ viewN b (t.getD k 0) ≠ viewN b (u.getD k 0) ∧ r = nI (viewN b (t.getD k 0)) - nI (viewN b (u.getD k 0))) ∨ ((∀ k, k < t.length → k < u.length → viewN b (t.getD k 0) = viewN b (u.getD k 0)) ∧ r = nI t.length - nI u.length)
theorem subI {a b : Nat} (ha : a < 2 ^ 30) (hb : b < 2 ^ 30) : (nI a - nI b).toInt = (a : Int) - b := by
  rw [Int32.toInt_sub, nI_toInt (by omega), nI_toInt (by omega), Int.bmod_eq_of_le]
  · omega
  · omega
theorem subI_le {i a b : Nat} (hi : i < 2 ^ 31) (ha : a < 2 ^ 30) (hb : b < 2 ^ 30) : nI i ≤ nI a - nI b ↔ i + b ≤ a := by
  rw [Int32.le_iff_toInt_le, subI ha hb, nI_toInt (by omega)]; omega
theorem subI_gt {i a b : Nat} (hi : i < 2 ^ 31) (ha : a < 2 ^ 30) (hb : b < 2 ^ 30) (h : nI a - nI b < nI i) : ¬ i + b ≤ a := by
  rw [Int32.lt_iff_toInt_lt, subI ha hb, nI_toInt (by omega)] at h; omega
theorem subI_ngt {i a b : Nat} (hi : i < 2 ^ 31) (ha : a < 2 ^ 30) (hb : b < 2 ^ 30) (h : ¬ nI a - nI b < nI i) : i + b ≤ a := by
  rw [Int32.lt_iff_toInt_lt, subI ha hb, nI_toInt (by omega)] at h; omega
theorem subI_neg {a b : Nat} (ha : a < 2 ^ 30) (hb : b < 2 ^ 30) (h : a < b) : nI a - nI b < 0 := by
  rw [Int32.lt_iff_toInt_lt, subI ha hb]
  show (a : Int) - b < 0
  omega
theorem subI_0 {a b : Nat} (ha : a < 2 ^ 30) (hb : b < 2 ^ 30) : nI a - nI b = 0 ↔ a = b := by
  rw [← Int32.toInt_inj, subI ha hb]
  show (a : Int) - b = 0 ↔ a = b
  omega
theorem nI_nm1 {k : Nat} (h : k < 2 ^ 31) : ¬ nI k = -1 := fun q => by
  have q2 := congrArg Int32.toInt q
  rw [nI_toInt h] at q2
  have q3 : ((-1 : Int32)).toInt = -1 := by decide
  rw [q3] at q2; omega
theorem dX0_standsAt_0 : decode cX0_standsAt 0 = .ok (.iload_n 2, 1) := by decide +kernel
theorem dX0_standsAt_1 : decode cX0_standsAt 1 = .ok (.ifCond .lt 16, 3) := by decide +kernel
theorem dX0_standsAt_4 : decode cX0_standsAt 4 = .ok (.iload_n 2, 1) := by decide +kernel
theorem dX0_standsAt_5 : decode cX0_standsAt 5 = .ok (.aload_n 0, 1) := by decide +kernel
theorem dX0_standsAt_6 : decode cX0_standsAt 6 = .ok (.getfield 15, 3) := by decide +kernel
theorem dX0_standsAt_9 : decode cX0_standsAt 9 = .ok (.aload_n 1, 1) := by decide +kernel
theorem dX0_standsAt_10 : decode cX0_standsAt 10 = .ok (.invokevirtual 27, 3) := by decide +kernel
theorem dX0_standsAt_13 : decode cX0_standsAt 13 = .ok (.isub, 1) := by decide +kernel
theorem dX0_standsAt_14 : decode cX0_standsAt 14 = .ok (.if_icmp .le 5, 3) := by decide +kernel
theorem dX0_standsAt_17 : decode cX0_standsAt 17 = .ok (.iconst 0, 1) := by decide +kernel
theorem dX0_standsAt_18 : decode cX0_standsAt 18 = .ok (.ireturn, 1) := by decide +kernel
theorem dX0_standsAt_19 : decode cX0_standsAt 19 = .ok (.iconst 0, 1) := by decide +kernel
theorem dX0_standsAt_20 : decode cX0_standsAt 20 = .ok (.istore 4, 2) := by decide +kernel
theorem dX0_standsAt_22 : decode cX0_standsAt 22 = .ok (.iload 4, 2) := by decide +kernel
theorem dX0_standsAt_24 : decode cX0_standsAt 24 = .ok (.aload_n 1, 1) := by decide +kernel
theorem dX0_standsAt_25 : decode cX0_standsAt 25 = .ok (.invokevirtual 27, 3) := by decide +kernel
theorem dX0_standsAt_28 : decode cX0_standsAt 28 = .ok (.if_icmp .ge 36, 3) := by decide +kernel
theorem dX0_standsAt_31 : decode cX0_standsAt 31 = .ok (.aload_n 0, 1) := by decide +kernel
theorem dX0_standsAt_32 : decode cX0_standsAt 32 = .ok (.iload_n 2, 1) := by decide +kernel
theorem dX0_standsAt_33 : decode cX0_standsAt 33 = .ok (.iload 4, 2) := by decide +kernel
theorem dX0_standsAt_35 : decode cX0_standsAt 35 = .ok (.iadd, 1) := by decide +kernel
theorem dX0_standsAt_36 : decode cX0_standsAt 36 = .ok (.invokevirtual 19, 3) := by decide +kernel
theorem dX0_standsAt_39 : decode cX0_standsAt 39 = .ok (.iload_n 3, 1) := by decide +kernel
theorem dX0_standsAt_40 : decode cX0_standsAt 40 = .ok (.invokestatic 64, 3) := by decide +kernel
theorem dX0_standsAt_43 : decode cX0_standsAt 43 = .ok (.aload_n 1, 1) := by decide +kernel
theorem dX0_standsAt_44 : decode cX0_standsAt 44 = .ok (.iload 4, 2) := by decide +kernel
theorem dX0_standsAt_46 : decode cX0_standsAt 46 = .ok (.invokevirtual 19, 3) := by decide +kernel
theorem dX0_standsAt_49 : decode cX0_standsAt 49 = .ok (.iload_n 3, 1) := by decide +kernel
theorem dX0_standsAt_50 : decode cX0_standsAt 50 = .ok (.invokestatic 64, 3) := by decide +kernel
theorem dX0_standsAt_53 : decode cX0_standsAt 53 = .ok (.if_icmp .eq 5, 3) := by decide +kernel
theorem dX0_standsAt_56 : decode cX0_standsAt 56 = .ok (.iconst 0, 1) := by decide +kernel
theorem dX0_standsAt_57 : decode cX0_standsAt 57 = .ok (.ireturn, 1) := by decide +kernel
theorem dX0_standsAt_58 : decode cX0_standsAt 58 = .ok (.iinc 4 1, 3) := by decide +kernel
theorem dX0_standsAt_61 : decode cX0_standsAt 61 = .ok (.goto (-39), 3) := by decide +kernel
theorem dX0_standsAt_64 : decode cX0_standsAt 64 = .ok (.iconst 1, 1) := by decide +kernel
theorem dX0_standsAt_65 : decode cX0_standsAt 65 = .ok (.ireturn, 1) := by decide +kernel
theorem dX0_firstPlaceOf_0 : decode cX0_firstPlaceOf 0 = .ok (.iconst 0, 1) := by decide +kernel
theorem dX0_firstPlaceOf_1 : decode cX0_firstPlaceOf 1 = .ok (.istore_n 2, 1) := by decide +kernel
theorem dX0_firstPlaceOf_2 : decode cX0_firstPlaceOf 2 = .ok (.iload_n 2, 1) := by decide +kernel
theorem dX0_firstPlaceOf_3 : decode cX0_firstPlaceOf 3 = .ok (.aload_n 0, 1) := by decide +kernel
theorem dX0_firstPlaceOf_4 : decode cX0_firstPlaceOf 4 = .ok (.getfield 15, 3) := by decide +kernel
theorem dX0_firstPlaceOf_7 : decode cX0_firstPlaceOf 7 = .ok (.aload_n 1, 1) := by decide +kernel
theorem dX0_firstPlaceOf_8 : decode cX0_firstPlaceOf 8 = .ok (.invokevirtual 27, 3) := by decide +kernel
theorem dX0_firstPlaceOf_11 : decode cX0_firstPlaceOf 11 = .ok (.isub, 1) := by decide +kernel
theorem dX0_firstPlaceOf_12 : decode cX0_firstPlaceOf 12 = .ok (.if_icmp .gt 21, 3) := by decide +kernel
theorem dX0_firstPlaceOf_15 : decode cX0_firstPlaceOf 15 = .ok (.aload_n 0, 1) := by decide +kernel
theorem dX0_firstPlaceOf_16 : decode cX0_firstPlaceOf 16 = .ok (.aload_n 1, 1) := by decide +kernel
theorem dX0_firstPlaceOf_17 : decode cX0_firstPlaceOf 17 = .ok (.iload_n 2, 1) := by decide +kernel
theorem dX0_firstPlaceOf_18 : decode cX0_firstPlaceOf 18 = .ok (.iconst 0, 1) := by decide +kernel
theorem dX0_firstPlaceOf_19 : decode cX0_firstPlaceOf 19 = .ok (.invokevirtual 68, 3) := by decide +kernel
theorem dX0_firstPlaceOf_22 : decode cX0_firstPlaceOf 22 = .ok (.ifCond .eq 5, 3) := by decide +kernel
theorem dX0_firstPlaceOf_25 : decode cX0_firstPlaceOf 25 = .ok (.iload_n 2, 1) := by decide +kernel
theorem dX0_firstPlaceOf_26 : decode cX0_firstPlaceOf 26 = .ok (.ireturn, 1) := by decide +kernel
theorem dX0_firstPlaceOf_27 : decode cX0_firstPlaceOf 27 = .ok (.iinc 2 1, 3) := by decide +kernel
theorem dX0_firstPlaceOf_30 : decode cX0_firstPlaceOf 30 = .ok (.goto (-28), 3) := by decide +kernel
theorem dX0_firstPlaceOf_33 : decode cX0_firstPlaceOf 33 = .ok (.iconst (-1), 1) := by decide +kernel
theorem dX0_firstPlaceOf_34 : decode cX0_firstPlaceOf 34 = .ok (.ireturn, 1) := by decide +kernel
theorem dX0_lastPlaceOf_0 : decode cX0_lastPlaceOf 0 = .ok (.aload_n 0, 1) := by decide +kernel
theorem dX0_lastPlaceOf_1 : decode cX0_lastPlaceOf 1 = .ok (.getfield 15, 3) := by decide +kernel
theorem dX0_lastPlaceOf_4 : decode cX0_lastPlaceOf 4 = .ok (.aload_n 1, 1) := by decide +kernel
theorem dX0_lastPlaceOf_5 : decode cX0_lastPlaceOf 5 = .ok (.invokevirtual 27, 3) := by decide +kernel
theorem dX0_lastPlaceOf_8 : decode cX0_lastPlaceOf 8 = .ok (.isub, 1) := by decide +kernel
theorem dX0_lastPlaceOf_9 : decode cX0_lastPlaceOf 9 = .ok (.istore_n 2, 1) := by decide +kernel
theorem dX0_lastPlaceOf_10 : decode cX0_lastPlaceOf 10 = .ok (.iload_n 2, 1) := by decide +kernel
theorem dX0_lastPlaceOf_11 : decode cX0_lastPlaceOf 11 = .ok (.ifCond .lt 21, 3) := by decide +kernel
theorem dX0_lastPlaceOf_14 : decode cX0_lastPlaceOf 14 = .ok (.aload_n 0, 1) := by decide +kernel
theorem dX0_lastPlaceOf_15 : decode cX0_lastPlaceOf 15 = .ok (.aload_n 1, 1) := by decide +kernel
theorem dX0_lastPlaceOf_16 : decode cX0_lastPlaceOf 16 = .ok (.iload_n 2, 1) := by decide +kernel
theorem dX0_lastPlaceOf_17 : decode cX0_lastPlaceOf 17 = .ok (.iconst 0, 1) := by decide +kernel
theorem dX0_lastPlaceOf_18 : decode cX0_lastPlaceOf 18 = .ok (.invokevirtual 68, 3) := by decide +kernel
theorem dX0_lastPlaceOf_21 : decode cX0_lastPlaceOf 21 = .ok (.ifCond .eq 5, 3) := by decide +kernel
theorem dX0_lastPlaceOf_24 : decode cX0_lastPlaceOf 24 = .ok (.iload_n 2, 1) := by decide +kernel
theorem dX0_lastPlaceOf_25 : decode cX0_lastPlaceOf 25 = .ok (.ireturn, 1) := by decide +kernel
theorem dX0_lastPlaceOf_26 : decode cX0_lastPlaceOf 26 = .ok (.iinc 2 (-1), 3) := by decide +kernel
theorem dX0_lastPlaceOf_29 : decode cX0_lastPlaceOf 29 = .ok (.goto (-19), 3) := by decide +kernel
theorem dX0_lastPlaceOf_32 : decode cX0_lastPlaceOf 32 = .ok (.iconst (-1), 1) := by decide +kernel
theorem dX0_lastPlaceOf_33 : decode cX0_lastPlaceOf 33 = .ok (.ireturn, 1) := by decide +kernel
theorem dX0_holds_0 : decode cX0_holds 0 = .ok (.aload_n 0, 1) := by decide +kernel
theorem dX0_holds_1 : decode cX0_holds 1 = .ok (.aload_n 1, 1) := by decide +kernel
theorem dX0_holds_2 : decode cX0_holds 2 = .ok (.invokevirtual 72, 3) := by decide +kernel
theorem dX0_holds_5 : decode cX0_holds 5 = .ok (.iconst (-1), 1) := by decide +kernel
theorem dX0_holds_6 : decode cX0_holds 6 = .ok (.if_icmp .eq 7, 3) := by decide +kernel
theorem dX0_holds_9 : decode cX0_holds 9 = .ok (.iconst 1, 1) := by decide +kernel
theorem dX0_holds_10 : decode cX0_holds 10 = .ok (.goto 4, 3) := by decide +kernel
theorem dX0_holds_13 : decode cX0_holds 13 = .ok (.iconst 0, 1) := by decide +kernel
theorem dX0_holds_14 : decode cX0_holds 14 = .ok (.ireturn, 1) := by decide +kernel
theorem dX0_isSameAs_0 : decode cX0_isSameAs 0 = .ok (.aload_n 0, 1) := by decide +kernel
theorem dX0_isSameAs_1 : decode cX0_isSameAs 1 = .ok (.getfield 15, 3) := by decide +kernel
theorem dX0_isSameAs_4 : decode cX0_isSameAs 4 = .ok (.aload_n 1, 1) := by decide +kernel
theorem dX0_isSameAs_5 : decode cX0_isSameAs 5 = .ok (.invokevirtual 27, 3) := by decide +kernel
theorem dX0_isSameAs_8 : decode cX0_isSameAs 8 = .ok (.if_icmp .ne 17, 3) := by decide +kernel
theorem dX0_isSameAs_11 : decode cX0_isSameAs 11 = .ok (.aload_n 0, 1) := by decide +kernel
theorem dX0_isSameAs_12 : decode cX0_isSameAs 12 = .ok (.aload_n 1, 1) := by decide +kernel
theorem dX0_isSameAs_13 : decode cX0_isSameAs 13 = .ok (.iconst 0, 1) := by decide +kernel
theorem dX0_isSameAs_14 : decode cX0_isSameAs 14 = .ok (.iload_n 2, 1) := by decide +kernel
theorem dX0_isSameAs_15 : decode cX0_isSameAs 15 = .ok (.invokevirtual 68, 3) := by decide +kernel
theorem dX0_isSameAs_18 : decode cX0_isSameAs 18 = .ok (.ifCond .eq 7, 3) := by decide +kernel
theorem dX0_isSameAs_21 : decode cX0_isSameAs 21 = .ok (.iconst 1, 1) := by decide +kernel
theorem dX0_isSameAs_22 : decode cX0_isSameAs 22 = .ok (.goto 4, 3) := by decide +kernel
theorem dX0_isSameAs_25 : decode cX0_isSameAs 25 = .ok (.iconst 0, 1) := by decide +kernel
theorem dX0_isSameAs_26 : decode cX0_isSameAs 26 = .ok (.ireturn, 1) := by decide +kernel
theorem dX0_orderTo_0 : decode cX0_orderTo 0 = .ok (.iconst 0, 1) := by decide +kernel
theorem dX0_orderTo_1 : decode cX0_orderTo 1 = .ok (.istore_n 3, 1) := by decide +kernel
theorem dX0_orderTo_2 : decode cX0_orderTo 2 = .ok (.iload_n 3, 1) := by decide +kernel
theorem dX0_orderTo_3 : decode cX0_orderTo 3 = .ok (.aload_n 0, 1) := by decide +kernel
theorem dX0_orderTo_4 : decode cX0_orderTo 4 = .ok (.getfield 15, 3) := by decide +kernel
theorem dX0_orderTo_7 : decode cX0_orderTo 7 = .ok (.if_icmp .ge 47, 3) := by decide +kernel
theorem dX0_orderTo_10 : decode cX0_orderTo 10 = .ok (.iload_n 3, 1) := by decide +kernel
theorem dX0_orderTo_11 : decode cX0_orderTo 11 = .ok (.aload_n 1, 1) := by decide +kernel
theorem dX0_orderTo_12 : decode cX0_orderTo 12 = .ok (.invokevirtual 27, 3) := by decide +kernel
theorem dX0_orderTo_15 : decode cX0_orderTo 15 = .ok (.if_icmp .ge 39, 3) := by decide +kernel
theorem dX0_orderTo_18 : decode cX0_orderTo 18 = .ok (.aload_n 0, 1) := by decide +kernel
theorem dX0_orderTo_19 : decode cX0_orderTo 19 = .ok (.getfield 9, 3) := by decide +kernel
theorem dX0_orderTo_22 : decode cX0_orderTo 22 = .ok (.iload_n 3, 1) := by decide +kernel
theorem dX0_orderTo_23 : decode cX0_orderTo 23 = .ok (.caload, 1) := by decide +kernel
theorem dX0_orderTo_24 : decode cX0_orderTo 24 = .ok (.iload_n 2, 1) := by decide +kernel
theorem dX0_orderTo_25 : decode cX0_orderTo 25 = .ok (.invokestatic 64, 3) := by decide +kernel
theorem dX0_orderTo_28 : decode cX0_orderTo 28 = .ok (.aload_n 1, 1) := by decide +kernel
theorem dX0_orderTo_29 : decode cX0_orderTo 29 = .ok (.iload_n 3, 1) := by decide +kernel
theorem dX0_orderTo_30 : decode cX0_orderTo 30 = .ok (.invokevirtual 19, 3) := by decide +kernel
theorem dX0_orderTo_33 : decode cX0_orderTo 33 = .ok (.iload_n 2, 1) := by decide +kernel
theorem dX0_orderTo_34 : decode cX0_orderTo 34 = .ok (.invokestatic 64, 3) := by decide +kernel
theorem dX0_orderTo_37 : decode cX0_orderTo 37 = .ok (.isub, 1) := by decide +kernel
theorem dX0_orderTo_38 : decode cX0_orderTo 38 = .ok (.istore 4, 2) := by decide +kernel
theorem dX0_orderTo_40 : decode cX0_orderTo 40 = .ok (.iload 4, 2) := by decide +kernel
theorem dX0_orderTo_42 : decode cX0_orderTo 42 = .ok (.ifCond .eq 6, 3) := by decide +kernel
theorem dX0_orderTo_45 : decode cX0_orderTo 45 = .ok (.iload 4, 2) := by decide +kernel
theorem dX0_orderTo_47 : decode cX0_orderTo 47 = .ok (.ireturn, 1) := by decide +kernel
theorem dX0_orderTo_48 : decode cX0_orderTo 48 = .ok (.iinc 3 1, 3) := by decide +kernel
theorem dX0_orderTo_51 : decode cX0_orderTo 51 = .ok (.goto (-49), 3) := by decide +kernel
theorem dX0_orderTo_54 : decode cX0_orderTo 54 = .ok (.aload_n 0, 1) := by decide +kernel
theorem dX0_orderTo_55 : decode cX0_orderTo 55 = .ok (.getfield 15, 3) := by decide +kernel
theorem dX0_orderTo_58 : decode cX0_orderTo 58 = .ok (.aload_n 1, 1) := by decide +kernel
theorem dX0_orderTo_59 : decode cX0_orderTo 59 = .ok (.invokevirtual 27, 3) := by decide +kernel
theorem dX0_orderTo_62 : decode cX0_orderTo 62 = .ok (.isub, 1) := by decide +kernel
theorem dX0_orderTo_63 : decode cX0_orderTo 63 = .ok (.ireturn, 1) := by decide +kernel
abbrev rmX0_standsAt : Room := { frames := 2, cells := 0, slots := 0, locals := 41 }
theorem mX0_standsAt {l : Launch} {G : Cx} {A : Nat → Prop} {a ca b cb : Nat} {t u : List Nat} {b0 : Bool} {i : Nat} (hi : i < 2 ^ 31) : Met l yX0_standsAt (.code yX0_standsAt cX0_standsAt 5 (some .boolean) :: GW) rmX0_standsAt (PC G A [.ref a, .ref b, .int (nI i), .int (bI b0)] (fun H => LA G a ca t H ∧ LA G b cb u H)) (vp_Si (fun r => ∃ v : Bool, (v = true ↔ stL b0 t u i) ∧ r = bI v)) 0 0 (fun _ => False) := by
  refine mstart "Signtext$Line" (by decide +kernel) rfl (Nat.le_of_ble_eq_true rfl) ?_
  intro p e s m below meth c ls hx hb hr hts hown hml hlocks hname hC hA hW hl
  have hl : lv_has ls 5 [(0, .ref a), (1, .ref b), (2, .int (nI i)), (3, .int (bI b0))] := hl
  have hK := hC.1
  have hS : va_S A s.heap s.heap [] := va_S.rf
  obtain ⟨hWa, hWb⟩ := hW
  have hq9 := hWa
  obtain ⟨t60, tok, tne, hO, f, hF, hf⟩ := hq9
  have u60 := hWb.1
  have uok := hWb.2.1
  refine lv_iload_n hx hb dX0_standsAt_0 rfl (lv_at hl 2 rfl) ?_
  refine z_lt (tgt := 17) hx hb dX0_standsAt_1 (by decide) (by omega) ?_
  refine lv_iload_n hx hb dX0_standsAt_4 rfl (lv_at hl 2 rfl) ?_
  refine lv_aload_n hx hb dX0_standsAt_5 rfl (lv_at hl 0 rfl) ?_
  refine va_get (D := G.1) (ci := 4) (C := RX0) (T := TX0) (N := 2) hx hb hts inX0 hown hK (at_P hO) 0 rfl rfl 1 (by decide) (hts _ tw_1_45) (fun _ h9 => h9) rfl dX0_standsAt_6 ?_
  refine lv_aload_n hx hb dX0_standsAt_9 rfl (lv_at hl 1 rfl) ?_
  refine kV_i (A := A) (b := b) (As := []) (rest := .int (nI t.length) :: .int (nI i) :: []) ⟨hx, hb, hml, hown, hts⟩ (mX0_size (A := A) (ca := cb)) (cwV 0 hts (gV tw_2_11 tw_2_12 tw_2_13 tw_1_2 tw_2_14) rfl rfl rfl (by decide +kernel) ⟨Nat.le_of_ble_eq_true rfl, Nat.le_of_ble_eq_true rfl⟩) hC hS hA (hWb.recv hK) hWb rfl rfl hl.1 (Nat.le_of_ble_eq_true rfl) ⟨Nat.zero_le _, Nat.zero_le _⟩ dX0_standsAt_10 (fun r9 h9 => lv_cv h9 ?_)
  refine lv_isub hx hb dX0_standsAt_13 ?_
  refine lv_icmp_le (tgt := 19) hx hb dX0_standsAt_14 (by decide) (fun c_2 => ?_) (fun c_2 => ?_)
  · have c7 : i + u.length ≤ t.length := (subI_le (by omega) (by omega) (by omega)).mp c_2
    refine lv_iconst (v := nI 0) hx hb dX0_standsAt_19 (by decide) ?_
    refine lv_istore (lv' := [(4, .int (nI 0)), (0, .ref a), (1, .ref b), (2, .int (nI i)), (3, .int (bI b0))]) hx hb dX0_standsAt_20 hl (by decide) rfl (fun ls hl => ?_)
    refine nloop (P := fun j => ∀ (ls : Array Slot) , lv_has ls 5 [(4, .int (nI j)), (0, .ref a), (1, .ref b), (2, .int (nI i)), (3, .int (bI b0))] → (∀ k : Nat, k < j → viewN b0 (t.getD (i + k) 0) = viewN b0 (u.getD k 0)) → W p l e rmX0_standsAt s m [.ref a, .ref b, .int (nI i), .int (bI b0)].toArray below meth c s.heap [] 0 0 (MQ below (vp_Si (fun r => ∃ v : Bool, (v = true ↔ stL b0 t u i) ∧ r = bI v)) [.ref a, .ref b, .int (nI i), .int (bI b0)].toArray s 0 0 (fun _ => False)) (F0 m 22 ls [])) u.length ?_ 0 (Nat.zero_le _) ls  hl (fun k hk => absurd hk (Nat.not_lt_zero k))
    clear hl
    intro j hj ih ls  hl
    intro hg
    refine lv_iload hx hb dX0_standsAt_22 (lv_at hl 0 rfl) ?_
    refine lv_aload_n hx hb dX0_standsAt_24 rfl (lv_at hl 2 rfl) ?_
    refine kV_i (A := A) (b := b) (As := []) (rest := .int (nI j) :: []) ⟨hx, hb, hml, hown, hts⟩ (mX0_size (A := A) (ca := cb)) (cwV 0 hts (gV tw_2_11 tw_2_12 tw_2_13 tw_1_2 tw_2_14) rfl rfl rfl (by decide +kernel) ⟨Nat.le_of_ble_eq_true rfl, Nat.le_of_ble_eq_true rfl⟩) hC hS hA (hWb.recv hK) hWb rfl rfl hl.1 (Nat.le_of_ble_eq_true rfl) ⟨Nat.zero_le _, Nat.zero_le _⟩ dX0_standsAt_25 (fun r9 h9 => lv_cv h9 ?_)
    refine b_ge (tgt := 64) hx hb dX0_standsAt_28 (by decide) (by omega) (by omega) (fun c_3 => ?_) (fun c_3 => ?_)
    · refine lv_iconst (v := nI 1) hx hb dX0_standsAt_64 (by decide) ?_
      exact p_z (b := true) hx hb hr hlocks dX0_standsAt_65 ⟨true, ⟨fun _ => ⟨c7, fun k hk => hg k (by omega)⟩, fun _ => rfl⟩, rfl⟩
    · refine lv_aload_n hx hb dX0_standsAt_31 rfl (lv_at hl 1 rfl) ?_
      refine lv_iload_n hx hb dX0_standsAt_32 rfl (lv_at hl 3 rfl) ?_
      refine lv_iload hx hb dX0_standsAt_33 (lv_at hl 0 rfl) ?_
      refine lv_iadd hx hb dX0_standsAt_35 ?_
      refine lv_cv (nI_add i j) ?_
      refine kV_i (A := A) (b := a) (As := [.int (nI (i + j))]) (rest := []) ⟨hx, hb, hml, hown, hts⟩ (mX0_codeAt (A := A) (ca := ca) (i := i + j) (by omega)) (cwV 1 hts (gV tw_2_19 tw_2_20 tw_2_21 tw_1_2 tw_2_22) rfl rfl rfl (by decide +kernel) ⟨Nat.le_of_ble_eq_true rfl, Nat.le_of_ble_eq_true rfl⟩) hC hS hA (hWa.recv hK) hWa rfl rfl hl.1 (Nat.le_of_ble_eq_true rfl) ⟨Nat.zero_le _, Nat.zero_le _⟩ dX0_standsAt_36 (fun r9 h9 => lv_cv h9 ?_)
      refine lv_iload_n hx hb dX0_standsAt_39 rfl (lv_at hl 4 rfl) ?_
      refine kS_i (A := A) (As := [.int (nI (t.getD (i + j) 0)), .int (bI b0)]) (rest := []) ⟨hx, hb, hml, hown, hts⟩ (mX0_seen (A := A) (tok _)) (va_cwS 2 hts (gS tw_2_23 tw_2_24 tw_1_2 tw_2_25) rfl rfl rfl (by decide +kernel) ⟨Nat.le_of_ble_eq_true rfl, Nat.le_of_ble_eq_true rfl⟩) hC hS hA  trivial rfl rfl hl.1 (Nat.le_of_ble_eq_true rfl) ⟨Nat.zero_le _, Nat.zero_le _⟩ dX0_standsAt_40 (fun r9 h9 => lv_cv h9 ?_)
      refine lv_aload_n hx hb dX0_standsAt_43 rfl (lv_at hl 2 rfl) ?_
      refine lv_iload hx hb dX0_standsAt_44 (lv_at hl 0 rfl) ?_
      refine kV_i (A := A) (b := b) (As := [.int (nI j)]) (rest := .int (nI (viewN b0 (t.getD (i + j) 0))) :: []) ⟨hx, hb, hml, hown, hts⟩ (mX0_codeAt (A := A) (ca := cb) (i := j) (by omega)) (cwV 1 hts (gV tw_2_19 tw_2_20 tw_2_21 tw_1_2 tw_2_22) rfl rfl rfl (by decide +kernel) ⟨Nat.le_of_ble_eq_true rfl, Nat.le_of_ble_eq_true rfl⟩) hC hS hA (hWb.recv hK) hWb rfl rfl hl.1 (Nat.le_of_ble_eq_true rfl) ⟨Nat.zero_le _, Nat.zero_le _⟩ dX0_standsAt_46 (fun r9 h9 => lv_cv h9 ?_)
      refine lv_iload_n hx hb dX0_standsAt_49 rfl (lv_at hl 4 rfl) ?_
      refine kS_i (A := A) (As := [.int (nI (u.getD j 0)), .int (bI b0)]) (rest := .int (nI (viewN b0 (t.getD (i + j) 0))) :: []) ⟨hx, hb, hml, hown, hts⟩ (mX0_seen (A := A) (uok _)) (va_cwS 2 hts (gS tw_2_23 tw_2_24 tw_1_2 tw_2_25) rfl rfl rfl (by decide +kernel) ⟨Nat.le_of_ble_eq_true rfl, Nat.le_of_ble_eq_true rfl⟩) hC hS hA  trivial rfl rfl hl.1 (Nat.le_of_ble_eq_true rfl) ⟨Nat.zero_le _, Nat.zero_le _⟩ dX0_standsAt_50 (fun r9 h9 => lv_cv h9 ?_)
      have v1 := viewN_lt (b := b0) (tok (i + j))
      have v2 := viewN_lt (b := b0) (uok j)
      refine b_eq (tgt := 58) hx hb dX0_standsAt_53 (by decide) (by omega) (by omega) (fun c_4 => ?_) (fun c_4 => ?_)
      · refine lv_iinc (v := nI (j + 1)) (lv' := [(4, .int (nI (j + 1))), (0, .ref a), (1, .ref b), (2, .int (nI i)), (3, .int (bI b0))]) hx hb dX0_standsAt_58 hl (k := 0) rfl (nI_add j 1) (by decide) rfl (fun ls hl => ?_)
        refine lv_goto (tgt := 22) hx hb dX0_standsAt_61 (by decide) ?_
        exact ih (j + 1) (by omega) (by omega) ls hl (fun k hk => by rcases Nat.lt_succ_iff_lt_or_eq.mp hk with q | q; exact hg k q; rw [q]; exact c_4)
      · refine lv_iconst (v := nI 0) hx hb dX0_standsAt_56 (by decide) ?_
        exact p_z (b := false) hx hb hr hlocks dX0_standsAt_57 ⟨false, ⟨fun q => Bool.noConfusion q, fun q => absurd (q.2 j (by omega)) c_4⟩, rfl⟩
  · have c7 : ¬ i + u.length ≤ t.length := fun q => c_2 ((subI_le (by omega) (by omega) (by omega)).mpr q)
    refine lv_iconst (v := nI 0) hx hb dX0_standsAt_17 (by decide) ?_
    exact p_z (b := false) hx hb hr hlocks dX0_standsAt_18 ⟨false, ⟨fun q => Bool.noConfusion q, fun q => absurd q.1 c7⟩, rfl⟩

theorem mX0_standsAt_n {l : Launch} {G : Cx} {A : Nat → Prop} {a ca b cb : Nat} {t u : List Nat} {b0 : Bool} {x : Int32} (hx0 : x < 0) : Met l yX0_standsAt (.code yX0_standsAt cX0_standsAt 5 (some .boolean) :: GW) rmX0_standsAt (PC G A [.ref a, .ref b, .int x, .int (bI b0)] (fun H => LA G a ca t H ∧ LA G b cb u H)) (vp_Si (fun r => r = bI false)) 0 0 (fun _ => False) := by
  refine mstart "Signtext$Line" (by decide +kernel) rfl (Nat.le_of_ble_eq_true rfl) ?_
  intro p e s m below meth c ls hx hb hr hts hown hml hlocks hname hC hA hW hl
  have hl : lv_has ls 5 [(0, .ref a), (1, .ref b), (2, .int x), (3, .int (bI b0))] := hl
  have hK := hC.1
  have hS : va_S A s.heap s.heap [] := va_S.rf
  refine lv_iload_n hx hb dX0_standsAt_0 rfl (lv_at hl 2 rfl) ?_
  refine lv_if_lt (tgt := 17) hx hb dX0_standsAt_1 (by decide) (fun c_5 => ?_) (fun c_5 => ?_)
  · refine lv_iconst (v := nI 0) hx hb dX0_standsAt_17 (by decide) ?_
    exact p_z (b := false) hx hb hr hlocks dX0_standsAt_18 rfl
  · exact absurd hx0 c_5

abbrev rmX0_firstPlaceOf : Room := { frames := 3, cells := 0, slots := 0, locals := 65 }
theorem mX0_firstPlaceOf {l : Launch} {G : Cx} {A : Nat → Prop} {a ca b cb : Nat} {t u : List Nat} : Met l yX0_firstPlaceOf (.code yX0_firstPlaceOf cX0_firstPlaceOf 3 (some .int) :: GW) rmX0_firstPlaceOf (PC G A [.ref a, .ref b] (fun H => LA G a ca t H ∧ LA G b cb u H)) (vp_Si (fstR (fun k => stL false t u k))) 0 0 (fun _ => False) := by
  refine mstart "Signtext$Line" (by decide +kernel) rfl (Nat.le_of_ble_eq_true rfl) ?_
  intro p e s m below meth c ls hx hb hr hts hown hml hlocks hname hC hA hW hl
  have hl : lv_has ls 3 [(0, .ref a), (1, .ref b)] := hl
  have hK := hC.1
  have hS : va_S A s.heap s.heap [] := va_S.rf
  obtain ⟨hWa, hWb⟩ := hW
  have hq9 := hWa
  obtain ⟨t60, tok, tne, hO, f, hF, hf⟩ := hq9
  have u60 := hWb.1
  have uok := hWb.2.1
  refine lv_iconst (v := nI 0) hx hb dX0_firstPlaceOf_0 (by decide) ?_
  refine lv_istore_n (lv' := [(2, .int (nI 0)), (0, .ref a), (1, .ref b)]) hx hb dX0_firstPlaceOf_1 rfl hl (by decide) rfl (fun ls hl => ?_)
  refine nloop (P := fun j => ∀ (ls : Array Slot) , lv_has ls 3 [(2, .int (nI j)), (0, .ref a), (1, .ref b)] → (∀ k : Nat, k < j → ¬ stL false t u k) → W p l e rmX0_firstPlaceOf s m [.ref a, .ref b].toArray below meth c s.heap [] 0 0 (MQ below (vp_Si (fstR (fun k => stL false t u k))) [.ref a, .ref b].toArray s 0 0 (fun _ => False)) (F0 m 2 ls [])) 61 ?_ 0 (Nat.zero_le _) ls  hl (fun k hk => absurd hk (Nat.not_lt_zero k))
  clear hl
  intro j hj ih ls  hl
  intro hg
  refine lv_iload_n hx hb dX0_firstPlaceOf_2 rfl (lv_at hl 0 rfl) ?_
  refine lv_aload_n hx hb dX0_firstPlaceOf_3 rfl (lv_at hl 1 rfl) ?_
  refine va_get (D := G.1) (ci := 4) (C := RX0) (T := TX0) (N := 2) hx hb hts inX0 hown hK (at_P hO) 0 rfl rfl 1 (by decide) (hts _ tw_1_45) (fun _ h9 => h9) rfl dX0_firstPlaceOf_4 ?_
  refine lv_aload_n hx hb dX0_firstPlaceOf_7 rfl (lv_at hl 2 rfl) ?_
  refine kV_i (A := A) (b := b) (As := []) (rest := .int (nI t.length) :: .int (nI j) :: []) ⟨hx, hb, hml, hown, hts⟩ (mX0_size (A := A) (ca := cb)) (cwV 0 hts (gV tw_2_11 tw_2_12 tw_2_13 tw_1_2 tw_2_14) rfl rfl rfl (by decide +kernel) ⟨Nat.le_of_ble_eq_true rfl, Nat.le_of_ble_eq_true rfl⟩) hC hS hA (hWb.recv hK) hWb rfl rfl hl.1 (Nat.le_of_ble_eq_true rfl) ⟨Nat.zero_le _, Nat.zero_le _⟩ dX0_firstPlaceOf_8 (fun r9 h9 => lv_cv h9 ?_)
  refine lv_isub hx hb dX0_firstPlaceOf_11 ?_
  refine lv_icmp_gt (tgt := 33) hx hb dX0_firstPlaceOf_12 (by decide) (fun c_6 => ?_) (fun c_6 => ?_)
  · have c7 : ¬ j + u.length ≤ t.length := fun q => subI_gt (by omega) (by omega) (by omega) c_6 q
    refine lv_iconst (v := (-1)) hx hb dX0_firstPlaceOf_33 (by decide) ?_
    exact p_i hx hb hr hlocks dX0_firstPlaceOf_34 (Or.inr ⟨fun k q => by rcases Nat.lt_or_ge k j with h | h; exact hg k h q; exact absurd q.1 (by omega), rfl⟩)
  · have c7 : j + u.length ≤ t.length := subI_ngt (by omega) (by omega) (by omega) c_6
    refine lv_aload_n hx hb dX0_firstPlaceOf_15 rfl (lv_at hl 1 rfl) ?_
    refine lv_aload_n hx hb dX0_firstPlaceOf_16 rfl (lv_at hl 2 rfl) ?_
    refine lv_iload_n hx hb dX0_firstPlaceOf_17 rfl (lv_at hl 0 rfl) ?_
    refine lv_iconst (v := nI 0) hx hb dX0_firstPlaceOf_18 (by decide) ?_
    refine kV_i (A := A) (b := a) (As := [.ref b, .int (nI j), .int (bI false)]) (rest := []) ⟨hx, hb, hml, hown, hts⟩ (mX0_standsAt (A := A) (ca := ca) (cb := cb) (i := j) (b0 := false) (by omega)) (cwV 3 hts (gV tw_2_15 tw_2_16 tw_2_17 tw_1_2 tw_2_18) rfl rfl rfl (by decide +kernel) ⟨Nat.le_of_ble_eq_true rfl, Nat.le_of_ble_eq_true rfl⟩) hC hS hA (hWa.recv hK) ⟨hWa, hWb⟩ rfl rfl hl.1 (Nat.le_of_ble_eq_true rfl) ⟨Nat.zero_le _, Nat.zero_le _⟩ dX0_firstPlaceOf_19 (fun r_7 hr_7 => ?_)
    obtain ⟨v, hv, rfl⟩ := hr_7
    refine f_eq (tgt := 27) hx hb dX0_firstPlaceOf_22 (by decide) (fun c_8 => ?_) (fun c_8 => ?_)
    · subst c_8
      refine lv_iinc (v := nI (j + 1)) (lv' := [(2, .int (nI (j + 1))), (0, .ref a), (1, .ref b)]) hx hb dX0_firstPlaceOf_27 hl (k := 0) rfl (nI_add j 1) (by decide) rfl (fun ls hl => ?_)
      refine lv_goto (tgt := 2) hx hb dX0_firstPlaceOf_30 (by decide) ?_
      exact ih (j + 1) (by omega) (by omega) ls hl (fun k hk => by rcases Nat.lt_succ_iff_lt_or_eq.mp hk with q | q; exact hg k q; rw [q]; exact fun z => Bool.noConfusion (hv.mpr z))
    · refine lv_iload_n hx hb dX0_firstPlaceOf_25 rfl (lv_at hl 0 rfl) ?_
      exact p_i hx hb hr hlocks dX0_firstPlaceOf_26 (Or.inl ⟨j, hv.mp c_8, hg, rfl⟩)

abbrev rmX0_lastPlaceOf : Room := { frames := 3, cells := 0, slots := 0, locals := 65 }
theorem mX0_lastPlaceOf {l : Launch} {G : Cx} {A : Nat → Prop} {a ca b cb : Nat} {t u : List Nat} : Met l yX0_lastPlaceOf (.code yX0_lastPlaceOf cX0_lastPlaceOf 3 (some .int) :: GW) rmX0_lastPlaceOf (PC G A [.ref a, .ref b] (fun H => LA G a ca t H ∧ LA G b cb u H)) (vp_Si (lstR (fun k => stL false t u k))) 0 0 (fun _ => False) := by
  refine mstart "Signtext$Line" (by decide +kernel) rfl (Nat.le_of_ble_eq_true rfl) ?_
  intro p e s m below meth c ls hx hb hr hts hown hml hlocks hname hC hA hW hl
  have hl : lv_has ls 3 [(0, .ref a), (1, .ref b)] := hl
  have hK := hC.1
  have hS : va_S A s.heap s.heap [] := va_S.rf
  obtain ⟨hWa, hWb⟩ := hW
  have hq9 := hWa
  obtain ⟨t60, tok, tne, hO, f, hF, hf⟩ := hq9
  have u60 := hWb.1
  have uok := hWb.2.1
  refine lv_aload_n hx hb dX0_lastPlaceOf_0 rfl (lv_at hl 0 rfl) ?_
  refine va_get (D := G.1) (ci := 4) (C := RX0) (T := TX0) (N := 2) hx hb hts inX0 hown hK (at_P hO) 0 rfl rfl 1 (by decide) (hts _ tw_1_45) (fun _ h9 => h9) rfl dX0_lastPlaceOf_1 ?_
  refine lv_aload_n hx hb dX0_lastPlaceOf_4 rfl (lv_at hl 1 rfl) ?_
  refine kV_i (A := A) (b := b) (As := []) (rest := .int (nI t.length) :: []) ⟨hx, hb, hml, hown, hts⟩ (mX0_size (A := A) (ca := cb)) (cwV 0 hts (gV tw_2_11 tw_2_12 tw_2_13 tw_1_2 tw_2_14) rfl rfl rfl (by decide +kernel) ⟨Nat.le_of_ble_eq_true rfl, Nat.le_of_ble_eq_true rfl⟩) hC hS hA (hWb.recv hK) hWb rfl rfl hl.1 (Nat.le_of_ble_eq_true rfl) ⟨Nat.zero_le _, Nat.zero_le _⟩ dX0_lastPlaceOf_5 (fun r9 h9 => lv_cv h9 ?_)
  refine lv_isub hx hb dX0_lastPlaceOf_8 ?_
  refine lv_istore_n (lv' := [(2, .int (nI t.length - nI u.length)), (0, .ref a), (1, .ref b)]) hx hb dX0_lastPlaceOf_9 rfl hl (by decide) rfl (fun ls hl => ?_)
  rcases Nat.lt_or_ge t.length u.length with hlt | hge
  · refine lv_iload_n hx hb dX0_lastPlaceOf_10 rfl (lv_at hl 0 rfl) ?_
    refine lv_if_lt (tgt := 32) hx hb dX0_lastPlaceOf_11 (by decide) (fun c_9 => ?_) (fun c_9 => ?_)
    · refine lv_iconst (v := (-1)) hx hb dX0_lastPlaceOf_32 (by decide) ?_
      exact p_i hx hb hr hlocks dX0_lastPlaceOf_33 (Or.inr ⟨fun k q => absurd q.1 (by omega), rfl⟩)
    · exact absurd (subI_neg (by omega) (by omega) hlt) c_9
  · rw [show nI t.length - nI u.length = nI (t.length - u.length + 1) - 1 by rw [pk_sub hge, nI_pred]] at hl
    refine dloop (P := fun j => ∀ (ls : Array Slot) , lv_has ls 3 [(2, .int (nI j - 1)), (0, .ref a), (1, .ref b)] → j ≤ t.length - u.length + 1 → (∀ k : Nat, j ≤ k → ¬ stL false t u k) → W p l e rmX0_lastPlaceOf s m [.ref a, .ref b].toArray below meth c s.heap [] 0 0 (MQ below (vp_Si (lstR (fun k => stL false t u k))) [.ref a, .ref b].toArray s 0 0 (fun _ => False)) (F0 m 10 ls [])) ?_ (t.length - u.length + 1) ls  hl (Nat.le_refl _) (fun k h1 q => absurd q.1 (by omega))
    clear hl
    intro j ih ls  hl
    intro hj hg
    cases j with
    | zero =>
      refine lv_iload_n hx hb dX0_lastPlaceOf_10 rfl (lv_at hl 0 rfl) ?_
      refine lv_if_lt (tgt := 32) hx hb dX0_lastPlaceOf_11 (by decide) (fun _ => ?_) (fun q => absurd (by decide) q)
      refine lv_iconst (v := (-1)) hx hb dX0_lastPlaceOf_32 (by decide) ?_
      exact p_i hx hb hr hlocks dX0_lastPlaceOf_33 (Or.inr ⟨fun k q => hg k (Nat.zero_le _) q, rfl⟩)
    | succ j =>
      rw [nI_pred] at hl
      refine lv_iload_n hx hb dX0_lastPlaceOf_10 rfl (lv_at hl 0 rfl) ?_
      refine z_lt (tgt := 32) hx hb dX0_lastPlaceOf_11 (by decide) (by omega) ?_
      refine lv_aload_n hx hb dX0_lastPlaceOf_14 rfl (lv_at hl 1 rfl) ?_
      refine lv_aload_n hx hb dX0_lastPlaceOf_15 rfl (lv_at hl 2 rfl) ?_
      refine lv_iload_n hx hb dX0_lastPlaceOf_16 rfl (lv_at hl 0 rfl) ?_
      refine lv_iconst (v := nI 0) hx hb dX0_lastPlaceOf_17 (by decide) ?_
      refine kV_i (A := A) (b := a) (As := [.ref b, .int (nI j), .int (bI false)]) (rest := []) ⟨hx, hb, hml, hown, hts⟩ (mX0_standsAt (A := A) (ca := ca) (cb := cb) (i := j) (b0 := false) (by omega)) (cwV 3 hts (gV tw_2_15 tw_2_16 tw_2_17 tw_1_2 tw_2_18) rfl rfl rfl (by decide +kernel) ⟨Nat.le_of_ble_eq_true rfl, Nat.le_of_ble_eq_true rfl⟩) hC hS hA (hWa.recv hK) ⟨hWa, hWb⟩ rfl rfl hl.1 (Nat.le_of_ble_eq_true rfl) ⟨Nat.zero_le _, Nat.zero_le _⟩ dX0_lastPlaceOf_18 (fun r_11 hr_11 => ?_)
      obtain ⟨v, hv, rfl⟩ := hr_11
      refine f_eq (tgt := 26) hx hb dX0_lastPlaceOf_21 (by decide) (fun c_12 => ?_) (fun c_12 => ?_)
      · subst c_12
        refine lv_iinc (v := nI j - 1) (lv' := [(2, .int (nI j - 1)), (0, .ref a), (1, .ref b)]) hx hb dX0_lastPlaceOf_26 hl (k := 0) rfl (m1_eq j) (by decide) rfl (fun ls hl => ?_)
        refine lv_goto (tgt := 10) hx hb dX0_lastPlaceOf_29 (by decide) ?_
        exact ih j (Nat.lt_succ_self j) ls hl (by omega) (fun k h1 => by rcases Nat.lt_or_ge j k with q | q; exact hg k q; rw [show k = j by omega]; exact fun z => Bool.noConfusion (hv.mpr z))
      · refine lv_iload_n hx hb dX0_lastPlaceOf_24 rfl (lv_at hl 0 rfl) ?_
        exact p_i hx hb hr hlocks dX0_lastPlaceOf_25 (Or.inl ⟨j, hv.mp c_12, fun k h1 => hg k h1, rfl⟩)

abbrev rmX0_holds : Room := { frames := 4, cells := 0, slots := 0, locals := 87 }
theorem mX0_holds {l : Launch} {G : Cx} {A : Nat → Prop} {a ca b cb : Nat} {t u : List Nat} : Met l yX0_holds (.code yX0_holds cX0_holds 2 (some .boolean) :: GW) rmX0_holds (PC G A [.ref a, .ref b] (fun H => LA G a ca t H ∧ LA G b cb u H)) (vp_Si (fun r => ∃ v : Bool, (v = true ↔ ∃ k, stL false t u k) ∧ r = bI v)) 0 0 (fun _ => False) := by
  refine mstart "Signtext$Line" (by decide +kernel) rfl (Nat.le_of_ble_eq_true rfl) ?_
  intro p e s m below meth c ls hx hb hr hts hown hml hlocks hname hC hA hW hl
  have hl : lv_has ls 2 [(0, .ref a), (1, .ref b)] := hl
  have hK := hC.1
  have hS : va_S A s.heap s.heap [] := va_S.rf
  obtain ⟨hWa, hWb⟩ := hW
  have hq9 := hWa
  obtain ⟨t60, tok, tne, hO, f, hF, hf⟩ := hq9
  have u60 := hWb.1
  have uok := hWb.2.1
  refine lv_aload_n hx hb dX0_holds_0 rfl (lv_at hl 0 rfl) ?_
  refine lv_aload_n hx hb dX0_holds_1 rfl (lv_at hl 1 rfl) ?_
  refine kV_i (A := A) (b := a) (As := [.ref b]) (rest := []) ⟨hx, hb, hml, hown, hts⟩ (mX0_firstPlaceOf (A := A) (ca := ca) (cb := cb)) (cwV 1 hts (gV tw_2_118 tw_2_103 tw_2_104 tw_1_2 tw_2_105) rfl rfl rfl (by decide +kernel) ⟨Nat.le_of_ble_eq_true rfl, Nat.le_of_ble_eq_true rfl⟩) hC hS hA (hWa.recv hK) ⟨hWa, hWb⟩ rfl rfl hl.1 (Nat.le_of_ble_eq_true rfl) ⟨Nat.zero_le _, Nat.zero_le _⟩ dX0_holds_2 (fun r_13 hr_13 => ?_)
  have h7 : fstR _ r_13 := hr_13
  refine lv_iconst (v := (-1)) hx hb dX0_holds_5 (by decide) ?_
  refine lv_icmp_eq (tgt := 13) hx hb dX0_holds_6 (by decide) (fun c_14 => ?_) (fun c_14 => ?_)
  · refine lv_iconst (v := nI 0) hx hb dX0_holds_13 (by decide) ?_
    exact p_z (b := false) hx hb hr hlocks dX0_holds_14 ⟨false, ⟨fun q => Bool.noConfusion q, fun ⟨k, q⟩ => by rcases h7 with ⟨j, q0, -, q2⟩ | ⟨q1, -⟩; exact absurd (q2.symm.trans c_14) (nI_nm1 (by have := q0.1; omega)); exact absurd q (q1 k)⟩, rfl⟩
  · refine lv_iconst (v := nI 1) hx hb dX0_holds_9 (by decide) ?_
    refine lv_goto (tgt := 14) hx hb dX0_holds_10 (by decide) ?_
    exact p_z (b := true) hx hb hr hlocks dX0_holds_14 ⟨true, ⟨fun _ => by rcases h7 with ⟨j, q0, -, q2⟩ | ⟨-, q1⟩; exact ⟨j, q0⟩; exact absurd q1 c_14, fun _ => rfl⟩, rfl⟩

abbrev rmX0_isSameAs : Room := { frames := 3, cells := 0, slots := 0, locals := 65 }
theorem mX0_isSameAs {l : Launch} {G : Cx} {A : Nat → Prop} {a ca b cb : Nat} {t u : List Nat} {b0 : Bool} : Met l yX0_isSameAs (.code yX0_isSameAs cX0_isSameAs 3 (some .boolean) :: GW) rmX0_isSameAs (PC G A [.ref a, .ref b, .int (bI b0)] (fun H => LA G a ca t H ∧ LA G b cb u H)) (vp_Si (fun r => ∃ v : Bool, (v = true ↔ t.length = u.length ∧ stL b0 t u 0) ∧ r = bI v)) 0 0 (fun _ => False) := by
  refine mstart "Signtext$Line" (by decide +kernel) rfl (Nat.le_of_ble_eq_true rfl) ?_
  intro p e s m below meth c ls hx hb hr hts hown hml hlocks hname hC hA hW hl
  have hl : lv_has ls 3 [(0, .ref a), (1, .ref b), (2, .int (bI b0))] := hl
  have hK := hC.1
  have hS : va_S A s.heap s.heap [] := va_S.rf
  obtain ⟨hWa, hWb⟩ := hW
  have hq9 := hWa
  obtain ⟨t60, tok, tne, hO, f, hF, hf⟩ := hq9
  have u60 := hWb.1
  have uok := hWb.2.1
  refine lv_aload_n hx hb dX0_isSameAs_0 rfl (lv_at hl 0 rfl) ?_
  refine va_get (D := G.1) (ci := 4) (C := RX0) (T := TX0) (N := 2) hx hb hts inX0 hown hK (at_P hO) 0 rfl rfl 1 (by decide) (hts _ tw_1_45) (fun _ h9 => h9) rfl dX0_isSameAs_1 ?_
  refine lv_aload_n hx hb dX0_isSameAs_4 rfl (lv_at hl 1 rfl) ?_
  refine kV_i (A := A) (b := b) (As := []) (rest := .int (nI t.length) :: []) ⟨hx, hb, hml, hown, hts⟩ (mX0_size (A := A) (ca := cb)) (cwV 0 hts (gV tw_2_11 tw_2_12 tw_2_13 tw_1_2 tw_2_14) rfl rfl rfl (by decide +kernel) ⟨Nat.le_of_ble_eq_true rfl, Nat.le_of_ble_eq_true rfl⟩) hC hS hA (hWb.recv hK) hWb rfl rfl hl.1 (Nat.le_of_ble_eq_true rfl) ⟨Nat.zero_le _, Nat.zero_le _⟩ dX0_isSameAs_5 (fun r9 h9 => lv_cv h9 ?_)
  refine b_ne (tgt := 25) hx hb dX0_isSameAs_8 (by decide) (by omega) (by omega) (fun c_15 => ?_) (fun c_15 => ?_)
  · refine lv_iconst (v := nI 0) hx hb dX0_isSameAs_25 (by decide) ?_
    exact p_z (b := false) hx hb hr hlocks dX0_isSameAs_26 ⟨false, ⟨fun q => Bool.noConfusion q, fun q => absurd q.1 c_15⟩, rfl⟩
  · refine lv_aload_n hx hb dX0_isSameAs_11 rfl (lv_at hl 0 rfl) ?_
    refine lv_aload_n hx hb dX0_isSameAs_12 rfl (lv_at hl 1 rfl) ?_
    refine lv_iconst (v := nI 0) hx hb dX0_isSameAs_13 (by decide) ?_
    refine lv_iload_n hx hb dX0_isSameAs_14 rfl (lv_at hl 2 rfl) ?_
    refine kV_i (A := A) (b := a) (As := [.ref b, .int (nI 0), .int (bI b0)]) (rest := []) ⟨hx, hb, hml, hown, hts⟩ (mX0_standsAt (A := A) (ca := ca) (cb := cb) (i := 0) (b0 := b0) (by decide)) (cwV 3 hts (gV tw_2_15 tw_2_16 tw_2_17 tw_1_2 tw_2_18) rfl rfl rfl (by decide +kernel) ⟨Nat.le_of_ble_eq_true rfl, Nat.le_of_ble_eq_true rfl⟩) hC hS hA (hWa.recv hK) ⟨hWa, hWb⟩ rfl rfl hl.1 (Nat.le_of_ble_eq_true rfl) ⟨Nat.zero_le _, Nat.zero_le _⟩ dX0_isSameAs_15 (fun r_16 hr_16 => ?_)
    obtain ⟨v, hv, rfl⟩ := hr_16
    refine f_eq (tgt := 25) hx hb dX0_isSameAs_18 (by decide) (fun c_17 => ?_) (fun c_17 => ?_)
    · refine lv_iconst (v := nI 0) hx hb dX0_isSameAs_25 (by decide) ?_
      exact p_z (b := false) hx hb hr hlocks dX0_isSameAs_26 ⟨false, ⟨fun q => Bool.noConfusion q, fun q => absurd (hv.mpr q.2) (by rw [c_17]; decide)⟩, rfl⟩
    · refine lv_iconst (v := nI 1) hx hb dX0_isSameAs_21 (by decide) ?_
      refine lv_goto (tgt := 26) hx hb dX0_isSameAs_22 (by decide) ?_
      exact p_z (b := true) hx hb hr hlocks dX0_isSameAs_26 ⟨true, ⟨fun _ => ⟨c_15, hv.mp c_17⟩, fun _ => rfl⟩, rfl⟩

abbrev rmX0_orderTo : Room := { frames := 2, cells := 0, slots := 0, locals := 41 }
theorem mX0_orderTo {l : Launch} {G : Cx} {A : Nat → Prop} {a ca b cb : Nat} {t u : List Nat} {b0 : Bool} : Met l yX0_orderTo (.code yX0_orderTo cX0_orderTo 5 (some .int) :: GW) rmX0_orderTo (PC G A [.ref a, .ref b, .int (bI b0)] (fun H => LA G a ca t H ∧ LA G b cb u H)) (vp_Si (ordR b0 t u)) 0 0 (fun _ => False) := by
  refine mstart "Signtext$Line" (by decide +kernel) rfl (Nat.le_of_ble_eq_true rfl) ?_
  intro p e s m below meth c ls hx hb hr hts hown hml hlocks hname hC hA hW hl
  have hl : lv_has ls 5 [(0, .ref a), (1, .ref b), (2, .int (bI b0))] := hl
  have hK := hC.1
  have hS : va_S A s.heap s.heap [] := va_S.rf
  obtain ⟨hWa, hWb⟩ := hW
  have hq9 := hWa
  obtain ⟨t60, tok, tne, hO, f, hF, hf⟩ := hq9
  have u60 := hWb.1
  have uok := hWb.2.1
  refine lv_iconst (v := nI 0) hx hb dX0_orderTo_0 (by decide) ?_
  refine lv_istore_n (lv' := [(3, .int (nI 0)), (0, .ref a), (1, .ref b), (2, .int (bI b0))]) hx hb dX0_orderTo_1 rfl hl (by decide) rfl (fun ls hl => ?_)
  refine nloop (P := fun j => ∀ (ls : Array Slot) , lv_has ls 5 [(3, .int (nI j)), (0, .ref a), (1, .ref b), (2, .int (bI b0))] → (∀ k : Nat, k < j → k < u.length → viewN b0 (t.getD k 0) = viewN b0 (u.getD k 0)) → W p l e rmX0_orderTo s m [.ref a, .ref b, .int (bI b0)].toArray below meth c s.heap [] 0 0 (MQ below (vp_Si (ordR b0 t u)) [.ref a, .ref b, .int (bI b0)].toArray s 0 0 (fun _ => False)) (F0 m 2 ls [])) t.length ?_ 0 (Nat.zero_le _) ls  hl (fun k hk => absurd hk (Nat.not_lt_zero k))
  clear hl
  intro j hj ih ls  hl
  intro hg
  refine lv_iload_n hx hb dX0_orderTo_2 rfl (lv_at hl 0 rfl) ?_
  refine lv_aload_n hx hb dX0_orderTo_3 rfl (lv_at hl 1 rfl) ?_
  refine va_get (D := G.1) (ci := 4) (C := RX0) (T := TX0) (N := 2) hx hb hts inX0 hown hK (at_P hO) 0 rfl rfl 1 (by decide) (hts _ tw_1_45) (fun _ h9 => h9) rfl dX0_orderTo_4 ?_
  refine b_ge (tgt := 54) hx hb dX0_orderTo_7 (by decide) (by omega) (by omega) (fun c_18 => ?_) (fun c_18 => ?_)
  · refine lv_aload_n hx hb dX0_orderTo_54 rfl (lv_at hl 1 rfl) ?_
    refine va_get (D := G.1) (ci := 4) (C := RX0) (T := TX0) (N := 2) hx hb hts inX0 hown hK (at_P hO) 0 rfl rfl 1 (by decide) (hts _ tw_1_45) (fun _ h9 => h9) rfl dX0_orderTo_55 ?_
    refine lv_aload_n hx hb dX0_orderTo_58 rfl (lv_at hl 2 rfl) ?_
    refine kV_i (A := A) (b := b) (As := []) (rest := .int (nI t.length) :: []) ⟨hx, hb, hml, hown, hts⟩ (mX0_size (A := A) (ca := cb)) (cwV 0 hts (gV tw_2_11 tw_2_12 tw_2_13 tw_1_2 tw_2_14) rfl rfl rfl (by decide +kernel) ⟨Nat.le_of_ble_eq_true rfl, Nat.le_of_ble_eq_true rfl⟩) hC hS hA (hWb.recv hK) hWb rfl rfl hl.1 (Nat.le_of_ble_eq_true rfl) ⟨Nat.zero_le _, Nat.zero_le _⟩ dX0_orderTo_59 (fun r9 h9 => lv_cv h9 ?_)
    refine lv_isub hx hb dX0_orderTo_62 ?_
    exact p_i hx hb hr hlocks dX0_orderTo_63 (Or.inr ⟨fun k h1 h2 => hg k (by omega) h2, rfl⟩)
  · refine lv_iload_n hx hb dX0_orderTo_10 rfl (lv_at hl 0 rfl) ?_
    refine lv_aload_n hx hb dX0_orderTo_11 rfl (lv_at hl 2 rfl) ?_
    refine kV_i (A := A) (b := b) (As := []) (rest := .int (nI j) :: []) ⟨hx, hb, hml, hown, hts⟩ (mX0_size (A := A) (ca := cb)) (cwV 0 hts (gV tw_2_11 tw_2_12 tw_2_13 tw_1_2 tw_2_14) rfl rfl rfl (by decide +kernel) ⟨Nat.le_of_ble_eq_true rfl, Nat.le_of_ble_eq_true rfl⟩) hC hS hA (hWb.recv hK) hWb rfl rfl hl.1 (Nat.le_of_ble_eq_true rfl) ⟨Nat.zero_le _, Nat.zero_le _⟩ dX0_orderTo_12 (fun r9 h9 => lv_cv h9 ?_)
    refine b_ge (tgt := 54) hx hb dX0_orderTo_15 (by decide) (by omega) (by omega) (fun c_19 => ?_) (fun c_19 => ?_)
    · refine lv_aload_n hx hb dX0_orderTo_54 rfl (lv_at hl 1 rfl) ?_
      refine va_get (D := G.1) (ci := 4) (C := RX0) (T := TX0) (N := 2) hx hb hts inX0 hown hK (at_P hO) 0 rfl rfl 1 (by decide) (hts _ tw_1_45) (fun _ h9 => h9) rfl dX0_orderTo_55 ?_
      refine lv_aload_n hx hb dX0_orderTo_58 rfl (lv_at hl 2 rfl) ?_
      refine kV_i (A := A) (b := b) (As := []) (rest := .int (nI t.length) :: []) ⟨hx, hb, hml, hown, hts⟩ (mX0_size (A := A) (ca := cb)) (cwV 0 hts (gV tw_2_11 tw_2_12 tw_2_13 tw_1_2 tw_2_14) rfl rfl rfl (by decide +kernel) ⟨Nat.le_of_ble_eq_true rfl, Nat.le_of_ble_eq_true rfl⟩) hC hS hA (hWb.recv hK) hWb rfl rfl hl.1 (Nat.le_of_ble_eq_true rfl) ⟨Nat.zero_le _, Nat.zero_le _⟩ dX0_orderTo_59 (fun r9 h9 => lv_cv h9 ?_)
      refine lv_isub hx hb dX0_orderTo_62 ?_
      exact p_i hx hb hr hlocks dX0_orderTo_63 (Or.inr ⟨fun k h1 h2 => hg k (by omega) h2, rfl⟩)
    · refine lv_aload_n hx hb dX0_orderTo_18 rfl (lv_at hl 1 rfl) ?_
      refine va_get (D := G.1) (ci := 4) (C := RX0) (T := TX0) (N := 2) hx hb hts inX0 hown hK (at_P hO) 0 rfl rfl 0 (by decide) (hts _ tw_1_44) (fun _ h9 => h9) rfl dX0_orderTo_19 ?_
      refine lv_iload_n hx hb dX0_orderTo_22 rfl (lv_at hl 0 rfl) ?_
      refine va_cald hx hb hK (at_P hF) 0 1 rfl rfl (vp_in_nI (n := j) (N := 60) (by omega) (by omega)) dX0_orderTo_23 ?_
      refine lv_cv (show _ = nI (t.getD j 0) from by rw [nI_clamp (by omega)]; exact hf _ (by omega)) ?_
      refine lv_iload_n hx hb dX0_orderTo_24 rfl (lv_at hl 3 rfl) ?_
      refine kS_i (A := A) (As := [.int (nI (t.getD j 0)), .int (bI b0)]) (rest := []) ⟨hx, hb, hml, hown, hts⟩ (mX0_seen (A := A) (tok j)) (va_cwS 2 hts (gS tw_2_23 tw_2_24 tw_1_2 tw_2_25) rfl rfl rfl (by decide +kernel) ⟨Nat.le_of_ble_eq_true rfl, Nat.le_of_ble_eq_true rfl⟩) hC hS hA  trivial rfl rfl hl.1 (Nat.le_of_ble_eq_true rfl) ⟨Nat.zero_le _, Nat.zero_le _⟩ dX0_orderTo_25 (fun r9 h9 => lv_cv h9 ?_)
      refine lv_aload_n hx hb dX0_orderTo_28 rfl (lv_at hl 2 rfl) ?_
      refine lv_iload_n hx hb dX0_orderTo_29 rfl (lv_at hl 0 rfl) ?_
      refine kV_i (A := A) (b := b) (As := [.int (nI j)]) (rest := .int (nI (viewN b0 (t.getD j 0))) :: []) ⟨hx, hb, hml, hown, hts⟩ (mX0_codeAt (A := A) (ca := cb) (i := j) (by omega)) (cwV 1 hts (gV tw_2_19 tw_2_20 tw_2_21 tw_1_2 tw_2_22) rfl rfl rfl (by decide +kernel) ⟨Nat.le_of_ble_eq_true rfl, Nat.le_of_ble_eq_true rfl⟩) hC hS hA (hWb.recv hK) hWb rfl rfl hl.1 (Nat.le_of_ble_eq_true rfl) ⟨Nat.zero_le _, Nat.zero_le _⟩ dX0_orderTo_30 (fun r9 h9 => lv_cv h9 ?_)
      refine lv_iload_n hx hb dX0_orderTo_33 rfl (lv_at hl 3 rfl) ?_
      refine kS_i (A := A) (As := [.int (nI (u.getD j 0)), .int (bI b0)]) (rest := .int (nI (viewN b0 (t.getD j 0))) :: []) ⟨hx, hb, hml, hown, hts⟩ (mX0_seen (A := A) (uok j)) (va_cwS 2 hts (gS tw_2_23 tw_2_24 tw_1_2 tw_2_25) rfl rfl rfl (by decide +kernel) ⟨Nat.le_of_ble_eq_true rfl, Nat.le_of_ble_eq_true rfl⟩) hC hS hA  trivial rfl rfl hl.1 (Nat.le_of_ble_eq_true rfl) ⟨Nat.zero_le _, Nat.zero_le _⟩ dX0_orderTo_34 (fun r9 h9 => lv_cv h9 ?_)
      refine lv_isub hx hb dX0_orderTo_37 ?_
      refine lv_istore (lv' := [(4, .int (nI (viewN b0 (t.getD j 0)) - nI (viewN b0 (u.getD j 0)))), (3, .int (nI j)), (0, .ref a), (1, .ref b), (2, .int (bI b0))]) hx hb dX0_orderTo_38 hl (by decide) rfl (fun ls hl => ?_)
      refine lv_iload hx hb dX0_orderTo_40 (lv_at hl 0 rfl) ?_
      have v1 := viewN_lt (b := b0) (tok j)
      have v2 := viewN_lt (b := b0) (uok j)
      refine lv_if_eq (tgt := 48) hx hb dX0_orderTo_42 (by decide) (fun c_20 => ?_) (fun c_20 => ?_)
      · refine lv_iinc (v := nI (j + 1)) (lv' := [(3, .int (nI (j + 1))), (4, .int (nI (viewN b0 (t.getD j 0)) - nI (viewN b0 (u.getD j 0)))), (0, .ref a), (1, .ref b), (2, .int (bI b0))]) hx hb dX0_orderTo_48 hl (k := 1) rfl (nI_add j 1) (by decide) rfl (fun ls hl => ?_)
        refine lv_goto (tgt := 2) hx hb dX0_orderTo_51 (by decide) ?_
        exact ih (j + 1) (by omega) (by omega) ls (lv_sub hl [0, 2, 3, 4] rfl) (fun k hk h2 => by rcases Nat.lt_succ_iff_lt_or_eq.mp hk with q | q; exact hg k q h2; rw [q]; exact (subI_0 (by omega) (by omega)).mp c_20)
      · refine lv_iload hx hb dX0_orderTo_45 (lv_at hl 0 rfl) ?_
        exact p_i hx hb hr hlocks dX0_orderTo_47 (Or.inl ⟨j, by omega, by omega, fun k h1 => hg k h1 (by omega), fun q => c_20 ((subI_0 (by omega) (by omega)).mpr q), rfl⟩)
end
/-! 10.eff -/
section
/-! OWN LAYER, 4: calls with effects inside A, their ends -/
def qV (A : Nat → Prop) (P : Heap → Prop) : Array Value → State → Outcome → State → Prop := va_Qv (fun _ : Unit => True) (fun _ t => P t.heap) A
def qI (A : Nat → Prop) (P : Int32 → Heap → Prop) : Array Value → State → Outcome → State → Prop := va_Qi (S := Int32) (fun r u => r = u) (fun u t => P u t.heap) A
def qL (A : Nat → Prop) (P : Int64 → Heap → Prop) : Array Value → State → Outcome → State → Prop := va_Ql (S := Int64) (fun r u => r = u) (fun u t => P u t.heap) A
def qR (A : Nat → Prop) (P : Nat → Heap → Prop) : Array Value → State → Outcome → State → Prop := va_Qr (fun _ : Unit => True) (fun _ a t => P a t.heap) A
theorem ow_in {A : Nat → Prop} {a b n n0 : Nat} (ha : A a) (hb : A b) (hA : ∀ q : Nat, n0 ≤ q → A q) (hn : n0 ≤ n) : ∀ q, ow a b n q → A q := fun q h => by
  rcases h with rfl | rfl | h
  · exact ha
  · exact hb
  · exact hA q (Nat.le_trans hn h)
theorem nw_in {A : Nat → Prop} {n n0 : Nat} (hA : ∀ q : Nat, n0 ≤ q → A q) (hn : n0 ≤ n) : ∀ q, nw n q → A q := fun q h => hA q (Nat.le_trans hn h)
theorem ow_no {a b n q : Nat} (h1 : q ≠ a) (h2 : q ≠ b) (h3 : q < n) : ¬ ow a b n q := fun h => by
  rcases h with h | h | h
  · exact h1 h
  · exact h2 h
  · omega
section QR
variable {p : Program} {l : Launch} {e : Env} {R : Room} {s : State} {m : MethodId} {args : Array Value} {below : List Frame} {meth : Method} {c : Code} {H : Heap} {locs : List Loc} {cells slots : Nat} {Q : State → Prop}
variable {cc bytes : ByteArray} {pc nL maxL index n mc ms : Nat} {ls : Array Slot} {rest st0 : List Value} {G : Cx} {A A1 : Nat → Prop} {own C : String} {y : MethodName} {ret : Option FieldType} {ws : List Cond} {rm : Room} {b : Nat} {As : List Value} {Wd : Heap → Prop}
theorem qV_V {P : Heap → Prop} (S : CallFix p m c cc nL s args GW own) (hM : Met l y ws rm (PC G A1 (.ref b :: As) Wd) (qV A1 P) mc ms A1) (cw : CallW R s args own C index y bytes maxL ret ws rm mc ms n) (hC : cx G A s) (hS : va_S A s.heap H locs) (hAA : ∀ q, A1 q → A q) (hA1 : ∀ q : Nat, H.size ≤ q → A1 q)
    (hr : ∃ cell : Cell, H[b]? = some cell ∧ cell.vm.isStatics = false ∧ s.vm.findClass C = some cell.cls) (hW : Wd H) (hst : st0 = As.reverse ++ .ref b :: rest) (hn : As.length = n) (hl : ls.size = nL) (hrm : (rest.map fun v => v.category).sum ≤ 8) (hf : cells + mc ≤ R.cells ∧ slots + ms ≤ R.slots) (hdg : decode cc pc = .ok (.invokevirtual index, 3))
    (kk : ∀ (H1 : Heap) (locs1 : List Loc), P H1 → kp A1 H H1 → va_S A s.heap H1 locs1 → W p l e R s m args below meth c H1 locs1 (cells + mc) (slots + ms) Q (F0 m (pc + 3) ls rest)) : W p l e R s m args below meth c H locs cells slots Q (F0 m pc ls st0) :=
  eV_v (S9 := Unit) (post := fun _ => True) (B := fun _ H => P H) S hM cw hC hS hAA hA1 hr hW hst hn hl hrm hf hdg (fun _ H1 locs1 _ hB hk hS1 => kk H1 locs1 hB hk hS1)
theorem qI_V {P : Int32 → Heap → Prop} (S : CallFix p m c cc nL s args GW own) (hM : Met l y ws rm (PC G A1 (.ref b :: As) Wd) (qI A1 P) mc ms A1) (cw : CallW R s args own C index y bytes maxL ret ws rm mc ms n) (hC : cx G A s) (hS : va_S A s.heap H locs) (hAA : ∀ q, A1 q → A q) (hA1 : ∀ q : Nat, H.size ≤ q → A1 q)
    (hr : ∃ cell : Cell, H[b]? = some cell ∧ cell.vm.isStatics = false ∧ s.vm.findClass C = some cell.cls) (hW : Wd H) (hst : st0 = As.reverse ++ .ref b :: rest) (hn : As.length = n) (hl : ls.size = nL) (hrm : (rest.map fun v => v.category).sum ≤ 8) (hf : cells + mc ≤ R.cells ∧ slots + ms ≤ R.slots) (hdg : decode cc pc = .ok (.invokevirtual index, 3))
    (kk : ∀ (r : Int32) (H1 : Heap) (locs1 : List Loc), P r H1 → kp A1 H H1 → va_S A s.heap H1 locs1 → W p l e R s m args below meth c H1 locs1 (cells + mc) (slots + ms) Q (F0 m (pc + 3) ls (.int r :: rest))) : W p l e R s m args below meth c H locs cells slots Q (F0 m pc ls st0) :=
  eV_i (S9 := Int32) (post := fun r u => r = u) (B := fun u H => P u H) S hM cw hC hS hAA hA1 hr hW hst hn hl hrm hf hdg (fun r u H1 locs1 hp hB hk hS1 => by subst hp; exact kk r H1 locs1 hB hk hS1)
theorem qR_V {P : Nat → Heap → Prop} (S : CallFix p m c cc nL s args GW own) (hM : Met l y ws rm (PC G A1 (.ref b :: As) Wd) (qR A1 P) mc ms A1) (cw : CallW R s args own C index y bytes maxL ret ws rm mc ms n) (hC : cx G A s) (hS : va_S A s.heap H locs) (hAA : ∀ q, A1 q → A q) (hA1 : ∀ q : Nat, H.size ≤ q → A1 q)
    (hr : ∃ cell : Cell, H[b]? = some cell ∧ cell.vm.isStatics = false ∧ s.vm.findClass C = some cell.cls) (hW : Wd H) (hst : st0 = As.reverse ++ .ref b :: rest) (hn : As.length = n) (hl : ls.size = nL) (hrm : (rest.map fun v => v.category).sum ≤ 8) (hf : cells + mc ≤ R.cells ∧ slots + ms ≤ R.slots) (hdg : decode cc pc = .ok (.invokevirtual index, 3))
    (kk : ∀ (a : Nat) (H1 : Heap) (locs1 : List Loc), P a H1 → kp A1 H H1 → va_S A s.heap H1 locs1 → W p l e R s m args below meth c H1 locs1 (cells + mc) (slots + ms) Q (F0 m (pc + 3) ls (.ref a :: rest))) : W p l e R s m args below meth c H locs cells slots Q (F0 m pc ls st0) :=
  eV_r (S9 := Unit) (post := fun _ => True) (B := fun _ a H => P a H) S hM cw hC hS hAA hA1 hr hW hst hn hl hrm hf hdg (fun _ a H1 locs1 _ hB hk hS1 => kk a H1 locs1 hB hk hS1)
theorem qR_S {P : Nat → Heap → Prop} (S : CallFix p m c cc nL s args GW own) (hM : Met l y ws rm (PC G A1 As Wd) (qR A1 P) mc ms A1) (cw : CallB R s args own index y bytes maxL ret ws rm mc ms n ∧ (Cond.static y).before args s = true) (hC : cx G A s) (hS : va_S A s.heap H locs) (hAA : ∀ q, A1 q → A q) (hA1 : ∀ q : Nat, H.size ≤ q → A1 q)
    (hW : Wd H) (hst : st0 = As.reverse ++ rest) (hn : As.length = n) (hl : ls.size = nL) (hrm : (rest.map fun v => v.category).sum ≤ 8) (hf : cells + mc ≤ R.cells ∧ slots + ms ≤ R.slots) (hdg : decode cc pc = .ok (.invokestatic index, 3))
    (kk : ∀ (a : Nat) (H1 : Heap) (locs1 : List Loc), P a H1 → kp A1 H H1 → va_S A s.heap H1 locs1 → W p l e R s m args below meth c H1 locs1 (cells + mc) (slots + ms) Q (F0 m (pc + 3) ls (.ref a :: rest))) : W p l e R s m args below meth c H locs cells slots Q (F0 m pc ls st0) :=
  eS_r (S9 := Unit) (post := fun _ => True) (B := fun _ a H => P a H) S hM cw hC hS hAA hA1 hW hst hn hl hrm hf hdg (fun _ a H1 locs1 _ hB hk hS1 => kk a H1 locs1 hB hk hS1)
theorem qI_S {P : Int32 → Heap → Prop} (S : CallFix p m c cc nL s args GW own) (hM : Met l y ws rm (PC G A1 As Wd) (qI A1 P) mc ms A1) (cw : CallB R s args own index y bytes maxL ret ws rm mc ms n ∧ (Cond.static y).before args s = true) (hC : cx G A s) (hS : va_S A s.heap H locs) (hAA : ∀ q, A1 q → A q) (hA1 : ∀ q : Nat, H.size ≤ q → A1 q)
    (hW : Wd H) (hst : st0 = As.reverse ++ rest) (hn : As.length = n) (hl : ls.size = nL) (hrm : (rest.map fun v => v.category).sum ≤ 8) (hf : cells + mc ≤ R.cells ∧ slots + ms ≤ R.slots) (hdg : decode cc pc = .ok (.invokestatic index, 3))
    (kk : ∀ (r : Int32) (H1 : Heap) (locs1 : List Loc), P r H1 → kp A1 H H1 → va_S A s.heap H1 locs1 → W p l e R s m args below meth c H1 locs1 (cells + mc) (slots + ms) Q (F0 m (pc + 3) ls (.int r :: rest))) : W p l e R s m args below meth c H locs cells slots Q (F0 m pc ls st0) := by
  subst hst
  exact va_calli (va_runS (As := As) (rest := rest) (g := F0 m pc ls (As.reverse ++ rest)) S hM cw ⟨PC.blind, PC.go hC hS hAA hA1 hW⟩ rfl hn hl rfl (lv_room hrm) hdg hf) hS (fun q _ h => hAA q h) hAA (fun r u t H1 locs1 ht _ hp hB hz hk hS1 => by subst hp; exact kk r H1 locs1 (show P r H1 from ht ▸ hB) ⟨hz, hk⟩ hS1)
theorem qL_S {P : Int64 → Heap → Prop} (S : CallFix p m c cc nL s args GW own) (hM : Met l y ws rm (PC G A1 As Wd) (qL A1 P) mc ms A1) (cw : CallB R s args own index y bytes maxL ret ws rm mc ms n ∧ (Cond.static y).before args s = true) (hC : cx G A s) (hS : va_S A s.heap H locs) (hAA : ∀ q, A1 q → A q) (hA1 : ∀ q : Nat, H.size ≤ q → A1 q)
    (hW : Wd H) (hst : st0 = As.reverse ++ rest) (hn : As.length = n) (hl : ls.size = nL) (hrm : (rest.map fun v => v.category).sum ≤ 8) (hf : cells + mc ≤ R.cells ∧ slots + ms ≤ R.slots) (hdg : decode cc pc = .ok (.invokestatic index, 3))
    (kk : ∀ (r : Int64) (H1 : Heap) (locs1 : List Loc), P r H1 → kp A1 H H1 → va_S A s.heap H1 locs1 → W p l e R s m args below meth c H1 locs1 (cells + mc) (slots + ms) Q (F0 m (pc + 3) ls (.long r :: rest))) : W p l e R s m args below meth c H locs cells slots Q (F0 m pc ls st0) := by
  subst hst
  exact va_calll (va_runS (As := As) (rest := rest) (g := F0 m pc ls (As.reverse ++ rest)) S hM cw ⟨PC.blind, PC.go hC hS hAA hA1 hW⟩ rfl hn hl rfl (lv_room hrm) hdg hf) hS (fun q _ h => hAA q h) hAA (fun r u t H1 locs1 ht _ hp hB hz hk hS1 => by subst hp; exact kk r H1 locs1 (show P r H1 from ht ▸ hB) ⟨hz, hk⟩ hS1)
theorem qL_V {P : Int64 → Heap → Prop} (S : CallFix p m c cc nL s args GW own) (hM : Met l y ws rm (PC G A1 (.ref b :: As) Wd) (qL A1 P) mc ms A1) (cw : CallW R s args own C index y bytes maxL ret ws rm mc ms n) (hC : cx G A s) (hS : va_S A s.heap H locs) (hAA : ∀ q, A1 q → A q) (hA1 : ∀ q : Nat, H.size ≤ q → A1 q)
    (hr : ∃ cell : Cell, H[b]? = some cell ∧ cell.vm.isStatics = false ∧ s.vm.findClass C = some cell.cls) (hW : Wd H) (hst : st0 = As.reverse ++ .ref b :: rest) (hn : As.length = n) (hl : ls.size = nL) (hrm : (rest.map fun v => v.category).sum ≤ 8) (hf : cells + mc ≤ R.cells ∧ slots + ms ≤ R.slots) (hdg : decode cc pc = .ok (.invokevirtual index, 3))
    (kk : ∀ (r : Int64) (H1 : Heap) (locs1 : List Loc), P r H1 → kp A1 H H1 → va_S A s.heap H1 locs1 → W p l e R s m args below meth c H1 locs1 (cells + mc) (slots + ms) Q (F0 m (pc + 3) ls (.long r :: rest))) : W p l e R s m args below meth c H locs cells slots Q (F0 m pc ls st0) := by
  subst hst
  exact va_calll (va_runV (As := As) (rest := rest) (g := F0 m pc ls (As.reverse ++ .ref b :: rest)) S hM cw ⟨PC.blind, hr, PC.go hC hS hAA hA1 hW⟩ rfl hn hl rfl (lv_room hrm) hdg hf) hS (fun q _ h => hAA q h) hAA (fun r u t H1 locs1 ht _ hp hB hz hk hS1 => by subst hp; exact kk r H1 locs1 (show P r H1 from ht ▸ hB) ⟨hz, hk⟩ hS1)
theorem qV_I {P : Heap → Prop} (S : CallFix p m c cc nL s args GW own) (hM : Met l y ws rm (PC G A1 (.ref b :: As) Wd) (qV A1 P) mc ms A1) (cw : CallB R s args own index y bytes maxL none ws rm mc ms n ∧ y.name = "<init>" ∧ (Cond.instanceMethod y).before args s = true) (hC : cx G A s) (hS : va_S A s.heap H locs) (hAA : ∀ q, A1 q → A q) (hA1 : ∀ q : Nat, H.size ≤ q → A1 q)
    (hW : Wd H) (hst : st0 = As.reverse ++ .ref b :: rest) (hn : As.length = n) (hl : ls.size = nL) (hrm : (rest.map fun v => v.category).sum ≤ 8) (hf : cells + mc ≤ R.cells ∧ slots + ms ≤ R.slots) (hdg : decode cc pc = .ok (.invokespecial index, 3))
    (kk : ∀ (H1 : Heap) (locs1 : List Loc), P H1 → kp A1 H H1 → va_S A s.heap H1 locs1 → W p l e R s m args below meth c H1 locs1 (cells + mc) (slots + ms) Q (F0 m (pc + 3) ls rest)) : W p l e R s m args below meth c H locs cells slots Q (F0 m pc ls st0) :=
  eI_v (S9 := Unit) (post := fun _ => True) (B := fun _ H => P H) S hM cw hC hS hAA hA1 hW hst hn hl hrm hf hdg (fun _ H1 locs1 _ hB hk hS1 => kk H1 locs1 hB hk hS1)
/-- ends -/
theorem q_v {P : Heap → Prop} (hx : p.tables.exec = Jvm.exec) (hb : c.code = cc) (hr : meth.sig.returnType = none) (hlocks : meth.locks = false) (hd : decode cc pc = .ok (.return_, 1)) (hS : va_S A s.heap H locs) (hc : cells ≤ mc) (hs : slots ≤ ms) (hP : P H) : W p l e R s m args below meth c H locs cells slots (MQ below (qV A P) args s mc ms A) (F0 m pc ls []) :=
  W.widen hc hs (W.vret hx hb hr (fun t ht hW => ⟨⟨(), rfl, trivial, show P t.heap from ht ▸ hP⟩, hS.F ht⟩) hS.2.2 hd)
theorem q_i {P : Int32 → Heap → Prop} {v : Int32} (hx : p.tables.exec = Jvm.exec) (hb : c.code = cc) (hr : meth.sig.returnType = some .int) (hlocks : meth.locks = false) (hd : decode cc pc = .ok (.ireturn, 1)) (hS : va_S A s.heap H locs) (hc : cells ≤ mc) (hs : slots ≤ ms) (hP : P v H) : W p l e R s m args below meth c H locs cells slots (MQ below (qI A P) args s mc ms A) (F0 m pc ls [.int v]) :=
  W.widen hc hs (W.iret hx hb hr (fun t ht hW => ⟨⟨v, v, rfl, rfl, show P v t.heap from ht ▸ hP⟩, hS.F ht⟩) hS.2.2 hd)
theorem q_z {P : Int32 → Heap → Prop} {b9 : Bool} (hx : p.tables.exec = Jvm.exec) (hb : c.code = cc) (hr : meth.sig.returnType = some .boolean) (hlocks : meth.locks = false) (hd : decode cc pc = .ok (.ireturn, 1)) (hS : va_S A s.heap H locs) (hc : cells ≤ mc) (hs : slots ≤ ms) (hP : P (bI b9) H) : W p l e R s m args below meth c H locs cells slots (MQ below (qI A P) args s mc ms A) (F0 m pc ls [.int (bI b9)]) :=
  W.widen hc hs (W.zret hx hb hr (nar_bI b9) (fun t ht hW => ⟨⟨_, _, rfl, rfl, show P _ t.heap from ht ▸ hP⟩, hS.F ht⟩) hS.2.2 hd)
theorem q_l {P : Int64 → Heap → Prop} {v : Int64} (hx : p.tables.exec = Jvm.exec) (hb : c.code = cc) (hr : meth.sig.returnType = some .long) (hlocks : meth.locks = false) (hd : decode cc pc = .ok (.lreturn, 1)) (hS : va_S A s.heap H locs) (hc : cells ≤ mc) (hs : slots ≤ ms) (hP : P v H) : W p l e R s m args below meth c H locs cells slots (MQ below (qL A P) args s mc ms A) (F0 m pc ls [.long v]) :=
  W.widen hc hs (W.lret hx hb hr (fun t ht hW => ⟨⟨v, v, rfl, rfl, show P v t.heap from ht ▸ hP⟩, hS.F ht⟩) hS.2.2 hd)
theorem q_a {P : Nat → Heap → Prop} {a : Nat} {rt : FieldType} (hx : p.tables.exec = Jvm.exec) (hb : c.code = cc) (hr : meth.sig.returnType = some rt) (hrt : (∃ n, rt = FieldType.object n) ∨ ∃ t, rt = FieldType.array t) (hlocks : meth.locks = false) (hd : decode cc pc = .ok (.areturn, 1)) (hS : va_S A s.heap H locs) (hc : cells ≤ mc) (hs : slots ≤ ms) (hP : P a H) : W p l e R s m args below meth c H locs cells slots (MQ below (qR A P) args s mc ms A) (F0 m pc ls [.ref a]) :=
  W.widen hc hs (W.aret hx hb hr hrt (Or.inr ⟨a, rfl⟩) (fun t ht hW => ⟨⟨(), a, rfl, trivial, show P a t.heap from ht ▸ hP⟩, hS.F ht⟩) hS.2.2 hd)
/-- a pure answer that is a cell -/
def pR (P : Nat → Prop) : Array Value → State → Outcome → State → Prop := fun _ st o t => ∃ a : Nat, o = .returned (some (.ref a)) ∧ P a ∧ t.heap = st.heap
theorem p_a {P : Nat → Prop} {a : Nat} {rt : FieldType} (hx : p.tables.exec = Jvm.exec) (hb : c.code = cc) (hr : meth.sig.returnType = some rt) (hrt : (∃ n, rt = FieldType.object n) ∨ ∃ t, rt = FieldType.array t) (hlocks : meth.locks = false) (hd : decode cc pc = .ok (.areturn, 1)) (hP : P a) : W p l e R s m args below meth c s.heap [] 0 0 (MQ below (pR P) args s 0 0 (fun _ => False)) (F0 m pc ls [.ref a]) :=
  W.aret hx hb hr hrt (Or.inr ⟨a, rfl⟩) (fun t ht hW => ⟨a, rfl, hP, ht⟩) (fun q h => by cases h) hd
end QR
end
/-! 11.line4 -/
section
/-! Line, 4: writers -/
theorem LA.o {G : Cx} {a ca b : Nat} {t : List Nat} {H H1 : Heap} (h : LA G a ca t H) (oq : ∀ q : Nat, q ≠ b → H1[q]? = H[q]?) (n1 : a ≠ b) (n2 : ca ≠ b) : LA G a ca t H1 := by
  obtain ⟨q1, q2, q3, q4, f, q5, q6⟩ := h
  exact ⟨q1, q2, q3, at_o q4 oq n1, f, at_o q5 oq n2, q6⟩
theorem LA.n {G : Cx} {a ca : Nat} {t : List Nat} {H H1 : Heap} (h : LA G a ca t H) (oq : ∀ q : Nat, q < H.size → H1[q]? = H[q]?) : LA G a ca t H1 := by
  obtain ⟨q1, q2, q3, q4, f, q5, q6⟩ := h
  exact ⟨q1, q2, q3, at_n q4 oq, f, at_n q5 oq, q6⟩
theorem okc_set {t : List Nat} {i k0 : Nat} (h : okc t) (hk : k0 < 256) : okc (t.set i k0) := fun j => by
  rw [List.getD_eq_getElem?_getD, List.getElem?_set]
  split
  · split
    · exact hk
    · decide
  · rw [← List.getD_eq_getElem?_getD]; exact h j
theorem LA.put {G : Cx} {a ca i k0 : Nat} {t : List Nat} {f : Nat → Int32} {H : Heap} (t60 : t.length ≤ 60) (tok : okc t) (hi : i < t.length) (hk0 : k0 < 256) (tne : a ≠ ca) (hO : va_at G.1 vwCl (a, .inr (4, [.ref ca, .int (nI t.length)])) H) (hF : va_at G.1 vwCl (ca, .inl (G.2.1 1, 60, .inl (upd f i (vp_nar .char (nI k0))))) H) (hf : ∀ j : Nat, j < t.length → f j = nI (t.getD j 0)) : LA G a ca (t.set i k0) H := by
  refine ⟨by rw [List.length_set]; exact t60, okc_set tok hk0, tne, by rw [List.length_set]; exact hO, _, hF, fun j hj => ?_⟩
  rw [List.length_set] at hj
  by_cases h : j = i
  · subst h
    rw [pk_us, nar_char (by omega), List.getD_eq_getElem?_getD, List.getElem?_set_self hj]; rfl
  · rw [pk_un h, hf j hj, List.getD_eq_getElem?_getD, List.getD_eq_getElem?_getD, List.getElem?_set_ne (fun q => h q.symm)]
theorem LA.push {G : Cx} {a ca k0 : Nat} {t : List Nat} {f : Nat → Int32} {H : Heap} (t60 : t.length < 60) (tok : okc t) (hk0 : k0 < 256) (tne : a ≠ ca) (hO : va_at G.1 vwCl (a, .inr (4, [.ref ca, .int (nI (t.length + 1))])) H) (hF : va_at G.1 vwCl (ca, .inl (G.2.1 1, 60, .inl (upd f t.length (vp_nar .char (nI k0))))) H) (hf : ∀ j : Nat, j < t.length → f j = nI (t.getD j 0)) : LA G a ca (t ++ [k0]) H := by
  have hl : (t ++ [k0]).length = t.length + 1 := by rw [List.length_append]; rfl
  refine ⟨by rw [hl]; omega, okc_app tok (okc_one hk0), tne, by rw [hl]; exact hO, _, hF, fun j hj => ?_⟩
  rw [hl] at hj
  by_cases h : j = t.length
  · subst h
    rw [pk_us, nar_char (by omega), getD_last]
  · rw [pk_un h, hf j (by omega), getD_app1 (by omega)]
theorem take_full {t : List Nat} {k0 : Nat} (h : 60 ≤ t.length) (h2 : t.length ≤ 60 := by omega) : (t ++ [k0]).take 60 = t := by
  rw [List.take_append_of_le_length h, List.take_of_length_le h2]
theorem take_room {t : List Nat} {k0 : Nat} (h : t.length < 60) : (t ++ [k0]).take 60 = t ++ [k0] := List.take_of_length_le (by rw [List.length_append]; show t.length + 1 ≤ 60; omega)
theorem take_take60 (l r : List Nat) : (l.take 60 ++ r).take 60 = (l ++ r).take 60 := by
  rcases Nat.lt_or_ge l.length 60 with h | h
  · rw [List.take_of_length_le (Nat.le_of_lt h)]
  · rw [List.take_append_of_le_length (by rw [List.length_take]; omega), List.take_take, Nat.min_self, List.take_append_of_le_length h]
theorem dX0_init_0 : decode cX0_init 0 = .ok (.aload_n 0, 1) := by decide +kernel
theorem dX0_init_1 : decode cX0_init 1 = .ok (.invokespecial 3, 3) := by decide +kernel
theorem dX0_init_4 : decode cX0_init 4 = .ok (.aload_n 0, 1) := by decide +kernel
theorem dX0_init_5 : decode cX0_init 5 = .ok (.bipush 60, 2) := by decide +kernel
theorem dX0_init_7 : decode cX0_init 7 = .ok (.newarray .char, 2) := by decide +kernel
theorem dX0_init_9 : decode cX0_init 9 = .ok (.putfield 9, 3) := by decide +kernel
theorem dX0_init_12 : decode cX0_init 12 = .ok (.aload_n 0, 1) := by decide +kernel
theorem dX0_init_13 : decode cX0_init 13 = .ok (.iconst 0, 1) := by decide +kernel
theorem dX0_init_14 : decode cX0_init 14 = .ok (.putfield 15, 3) := by decide +kernel
theorem dX0_init_17 : decode cX0_init 17 = .ok (.return_, 1) := by decide +kernel
theorem dX0_empty_0 : decode cX0_empty 0 = .ok (.aload_n 0, 1) := by decide +kernel
theorem dX0_empty_1 : decode cX0_empty 1 = .ok (.iconst 0, 1) := by decide +kernel
theorem dX0_empty_2 : decode cX0_empty 2 = .ok (.putfield 15, 3) := by decide +kernel
theorem dX0_empty_5 : decode cX0_empty 5 = .ok (.return_, 1) := by decide +kernel
theorem dX0_change_0 : decode cX0_change 0 = .ok (.iload_n 1, 1) := by decide +kernel
theorem dX0_change_1 : decode cX0_change 1 = .ok (.ifCond .lt 19, 3) := by decide +kernel
theorem dX0_change_4 : decode cX0_change 4 = .ok (.iload_n 1, 1) := by decide +kernel
theorem dX0_change_5 : decode cX0_change 5 = .ok (.aload_n 0, 1) := by decide +kernel
theorem dX0_change_6 : decode cX0_change 6 = .ok (.getfield 15, 3) := by decide +kernel
theorem dX0_change_9 : decode cX0_change 9 = .ok (.if_icmp .ge 11, 3) := by decide +kernel
theorem dX0_change_12 : decode cX0_change 12 = .ok (.aload_n 0, 1) := by decide +kernel
theorem dX0_change_13 : decode cX0_change 13 = .ok (.getfield 9, 3) := by decide +kernel
theorem dX0_change_16 : decode cX0_change 16 = .ok (.iload_n 1, 1) := by decide +kernel
theorem dX0_change_17 : decode cX0_change 17 = .ok (.iload_n 2, 1) := by decide +kernel
theorem dX0_change_18 : decode cX0_change 18 = .ok (.i2c, 1) := by decide +kernel
theorem dX0_change_19 : decode cX0_change 19 = .ok (.castore, 1) := by decide +kernel
theorem dX0_change_20 : decode cX0_change 20 = .ok (.return_, 1) := by decide +kernel
theorem dX0_addCode_0 : decode cX0_addCode 0 = .ok (.aload_n 0, 1) := by decide +kernel
theorem dX0_addCode_1 : decode cX0_addCode 1 = .ok (.getfield 15, 3) := by decide +kernel
theorem dX0_addCode_4 : decode cX0_addCode 4 = .ok (.bipush 60, 2) := by decide +kernel
theorem dX0_addCode_6 : decode cX0_addCode 6 = .ok (.if_icmp .ge 24, 3) := by decide +kernel
theorem dX0_addCode_9 : decode cX0_addCode 9 = .ok (.aload_n 0, 1) := by decide +kernel
theorem dX0_addCode_10 : decode cX0_addCode 10 = .ok (.getfield 9, 3) := by decide +kernel
theorem dX0_addCode_13 : decode cX0_addCode 13 = .ok (.aload_n 0, 1) := by decide +kernel
theorem dX0_addCode_14 : decode cX0_addCode 14 = .ok (.getfield 15, 3) := by decide +kernel
theorem dX0_addCode_17 : decode cX0_addCode 17 = .ok (.iload_n 1, 1) := by decide +kernel
theorem dX0_addCode_18 : decode cX0_addCode 18 = .ok (.i2c, 1) := by decide +kernel
theorem dX0_addCode_19 : decode cX0_addCode 19 = .ok (.castore, 1) := by decide +kernel
theorem dX0_addCode_20 : decode cX0_addCode 20 = .ok (.aload_n 0, 1) := by decide +kernel
theorem dX0_addCode_21 : decode cX0_addCode 21 = .ok (.dup, 1) := by decide +kernel
theorem dX0_addCode_22 : decode cX0_addCode 22 = .ok (.getfield 15, 3) := by decide +kernel
theorem dX0_addCode_25 : decode cX0_addCode 25 = .ok (.iconst 1, 1) := by decide +kernel
theorem dX0_addCode_26 : decode cX0_addCode 26 = .ok (.iadd, 1) := by decide +kernel
theorem dX0_addCode_27 : decode cX0_addCode 27 = .ok (.putfield 15, 3) := by decide +kernel
theorem dX0_addCode_30 : decode cX0_addCode 30 = .ok (.return_, 1) := by decide +kernel
theorem dX0_addPart_0 : decode cX0_addPart 0 = .ok (.iload_n 2, 1) := by decide +kernel
theorem dX0_addPart_1 : decode cX0_addPart 1 = .ok (.istore 4, 2) := by decide +kernel
theorem dX0_addPart_3 : decode cX0_addPart 3 = .ok (.iload 4, 2) := by decide +kernel
theorem dX0_addPart_5 : decode cX0_addPart 5 = .ok (.iload_n 3, 1) := by decide +kernel
theorem dX0_addPart_6 : decode cX0_addPart 6 = .ok (.if_icmp .ge 19, 3) := by decide +kernel
theorem dX0_addPart_9 : decode cX0_addPart 9 = .ok (.aload_n 0, 1) := by decide +kernel
theorem dX0_addPart_10 : decode cX0_addPart 10 = .ok (.aload_n 1, 1) := by decide +kernel
theorem dX0_addPart_11 : decode cX0_addPart 11 = .ok (.iload 4, 2) := by decide +kernel
theorem dX0_addPart_13 : decode cX0_addPart 13 = .ok (.invokevirtual 19, 3) := by decide +kernel
theorem dX0_addPart_16 : decode cX0_addPart 16 = .ok (.invokevirtual 23, 3) := by decide +kernel
theorem dX0_addPart_19 : decode cX0_addPart 19 = .ok (.iinc 4 1, 3) := by decide +kernel
theorem dX0_addPart_22 : decode cX0_addPart 22 = .ok (.goto (-19), 3) := by decide +kernel
theorem dX0_addPart_25 : decode cX0_addPart 25 = .ok (.return_, 1) := by decide +kernel
theorem dX0_addAll_0 : decode cX0_addAll 0 = .ok (.aload_n 0, 1) := by decide +kernel
theorem dX0_addAll_1 : decode cX0_addAll 1 = .ok (.aload_n 1, 1) := by decide +kernel
theorem dX0_addAll_2 : decode cX0_addAll 2 = .ok (.iconst 0, 1) := by decide +kernel
theorem dX0_addAll_3 : decode cX0_addAll 3 = .ok (.aload_n 1, 1) := by decide +kernel
theorem dX0_addAll_4 : decode cX0_addAll 4 = .ok (.invokevirtual 27, 3) := by decide +kernel
theorem dX0_addAll_7 : decode cX0_addAll 7 = .ok (.invokevirtual 31, 3) := by decide +kernel
theorem dX0_addAll_10 : decode cX0_addAll 10 = .ok (.return_, 1) := by decide +kernel
theorem dX0_become_0 : decode cX0_become 0 = .ok (.aload_n 0, 1) := by decide +kernel
theorem dX0_become_1 : decode cX0_become 1 = .ok (.aload_n 1, 1) := by decide +kernel
theorem dX0_become_2 : decode cX0_become 2 = .ok (.getfield 15, 3) := by decide +kernel
theorem dX0_become_5 : decode cX0_become 5 = .ok (.putfield 15, 3) := by decide +kernel
theorem dX0_become_8 : decode cX0_become 8 = .ok (.iconst 0, 1) := by decide +kernel
theorem dX0_become_9 : decode cX0_become 9 = .ok (.istore_n 2, 1) := by decide +kernel
theorem dX0_become_10 : decode cX0_become 10 = .ok (.iload_n 2, 1) := by decide +kernel
theorem dX0_become_11 : decode cX0_become 11 = .ok (.aload_n 0, 1) := by decide +kernel
theorem dX0_become_12 : decode cX0_become 12 = .ok (.getfield 15, 3) := by decide +kernel
theorem dX0_become_15 : decode cX0_become 15 = .ok (.if_icmp .ge 21, 3) := by decide +kernel
theorem dX0_become_18 : decode cX0_become 18 = .ok (.aload_n 0, 1) := by decide +kernel
theorem dX0_become_19 : decode cX0_become 19 = .ok (.getfield 9, 3) := by decide +kernel
theorem dX0_become_22 : decode cX0_become 22 = .ok (.iload_n 2, 1) := by decide +kernel
theorem dX0_become_23 : decode cX0_become 23 = .ok (.aload_n 1, 1) := by decide +kernel
theorem dX0_become_24 : decode cX0_become 24 = .ok (.getfield 9, 3) := by decide +kernel
theorem dX0_become_27 : decode cX0_become 27 = .ok (.iload_n 2, 1) := by decide +kernel
theorem dX0_become_28 : decode cX0_become 28 = .ok (.caload, 1) := by decide +kernel
theorem dX0_become_29 : decode cX0_become 29 = .ok (.castore, 1) := by decide +kernel
theorem dX0_become_30 : decode cX0_become 30 = .ok (.iinc 2 1, 3) := by decide +kernel
theorem dX0_become_33 : decode cX0_become 33 = .ok (.goto (-23), 3) := by decide +kernel
theorem dX0_become_36 : decode cX0_become 36 = .ok (.return_, 1) := by decide +kernel
abbrev rmX0_empty : Room := { frames := 1, cells := 0, slots := 0, locals := 20 }
theorem mX0_empty {l : Launch} {G : Cx} {A : Nat → Prop} {a ca : Nat} {t : List Nat} (hAa : A a) : Met l yX0_empty (.code yX0_empty cX0_empty 1 (none : Option Jvm.ClassFile.FieldType) :: GW) rmX0_empty (PC G A [.ref a] (LA G a ca t)) (qV A (LA G a ca [])) 0 0 (A) := by
  refine mstart "Signtext$Line" (by decide +kernel) rfl (Nat.le_of_ble_eq_true rfl) ?_
  intro p e s m below meth c ls hx hb hr hts hown hml hlocks hname hC hA hW hl
  have hl : lv_has ls 1 [(0, .ref a)] := hl
  have hK := hC.1
  have hS : va_S A s.heap s.heap [] := va_S.rf
  have hq9 := hW
  obtain ⟨t60, tok, tne, hO, f, hF, hf⟩ := hq9
  refine lv_aload_n hx hb dX0_empty_0 rfl (lv_at hl 0 rfl) ?_
  refine lv_iconst (v := nI 0) hx hb dX0_empty_1 (by decide) ?_
  refine h_put (D := G.1) (ci := 4) (C := RX0) (T := TX0) (N := 2) hx hb hts inX0 tyX0 tyX0_ok nmX0 hown hK hO hS hAa rfl 1 (by decide) (hts _ tw_1_45) (fun _ h9 => h9) rfl (tyX0_ok 1 (by decide)) rfl rfl (Nat.le_of_ble_eq_true rfl) dX0_empty_2 (fun H1 L1 hO z1 o1 hS => ?_)
  have hO : va_at G.1 vwCl (a, .inr (4, [.ref ca, .int (nI 0)])) H1 := hO
  have hF := at_o hF o1 (Ne.symm tne)
  have hZ1 := hS.1
  exact q_v hx hb hr hlocks dX0_empty_5 hS (Nat.le_refl _) (Nat.le_refl _) ⟨Nat.zero_le _, okc_nil, tne, hO, f, hF, fun j hj => absurd hj (Nat.not_lt_zero j)⟩

abbrev rmX0_change : Room := { frames := 1, cells := 0, slots := 0, locals := 20 }
theorem mX0_change {l : Launch} {G : Cx} {A : Nat → Prop} {a ca : Nat} {t : List Nat} {i k0 : Nat} (hAca : A ca) (hi : i < t.length) (hk0 : k0 < 256) : Met l yX0_change (.code yX0_change cX0_change 3 (none : Option Jvm.ClassFile.FieldType) :: GW) rmX0_change (PC G A [.ref a, .int (nI i), .int (nI k0)] (LA G a ca t)) (qV A (LA G a ca (t.set i k0))) 0 0 (A) := by
  refine mstart "Signtext$Line" (by decide +kernel) rfl (Nat.le_of_ble_eq_true rfl) ?_
  intro p e s m below meth c ls hx hb hr hts hown hml hlocks hname hC hA hW hl
  have hl : lv_has ls 3 [(0, .ref a), (1, .int (nI i)), (2, .int (nI k0))] := hl
  have hK := hC.1
  have hS : va_S A s.heap s.heap [] := va_S.rf
  have hq9 := hW
  obtain ⟨t60, tok, tne, hO, f, hF, hf⟩ := hq9
  refine lv_iload_n hx hb dX0_change_0 rfl (lv_at hl 1 rfl) ?_
  refine z_lt (tgt := 20) hx hb dX0_change_1 (by decide) (by omega) ?_
  refine lv_iload_n hx hb dX0_change_4 rfl (lv_at hl 1 rfl) ?_
  refine lv_aload_n hx hb dX0_change_5 rfl (lv_at hl 0 rfl) ?_
  refine va_get (D := G.1) (ci := 4) (C := RX0) (T := TX0) (N := 2) hx hb hts inX0 hown hK (at_P hO) 0 rfl rfl 1 (by decide) (hts _ tw_1_45) (fun _ h9 => h9) rfl dX0_change_6 ?_
  refine b_ge (tgt := 20) hx hb dX0_change_9 (by decide) (by omega) (by omega) (fun c_3 => ?_) (fun c_3 => ?_)
  · exact absurd c_3 (by omega)
  · refine lv_aload_n hx hb dX0_change_12 rfl (lv_at hl 0 rfl) ?_
    refine va_get (D := G.1) (ci := 4) (C := RX0) (T := TX0) (N := 2) hx hb hts inX0 hown hK (at_P hO) 0 rfl rfl 0 (by decide) (hts _ tw_1_44) (fun _ h9 => h9) rfl dX0_change_13 ?_
    refine lv_iload_n hx hb dX0_change_16 rfl (lv_at hl 1 rfl) ?_
    refine lv_iload_n hx hb dX0_change_17 rfl (lv_at hl 2 rfl) ?_
    refine lv_i2c hx hb dX0_change_18 (show _ = nI k0 from (chr_id (n := k0) (by omega))) ?_
    refine h_cst (D := G.1) hx hb hK 1 hF rfl hS hAca (vp_in_nI (n := i) (N := 60) (by omega) (by omega)) dX0_change_19 (fun H4 L4 hF z4 o4 hS => ?_)
    rw [nI_clamp (n := i) (by omega)] at hF
    have hO := at_o hO o4 tne
    have hZ4 := hS.1
    exact q_v hx hb hr hlocks dX0_change_20 hS (Nat.le_refl _) (Nat.le_refl _) (LA.put t60 tok hi hk0 tne hO hF hf)

abbrev rmX0_addCode : Room := { frames := 1, cells := 0, slots := 0, locals := 20 }
theorem mX0_addCode {l : Launch} {G : Cx} {A : Nat → Prop} {a ca : Nat} {t : List Nat} {k0 : Nat} (hAa : A a) (hAca : A ca) (hk0 : k0 < 256) : Met l yX0_addCode (.code yX0_addCode cX0_addCode 2 (none : Option Jvm.ClassFile.FieldType) :: GW) rmX0_addCode (PC G A [.ref a, .int (nI k0)] (LA G a ca t)) (qV A (LA G a ca ((t ++ [k0]).take 60))) 0 0 (A) := by
  refine mstart "Signtext$Line" (by decide +kernel) rfl (Nat.le_of_ble_eq_true rfl) ?_
  intro p e s m below meth c ls hx hb hr hts hown hml hlocks hname hC hA hW hl
  have hl : lv_has ls 2 [(0, .ref a), (1, .int (nI k0))] := hl
  have hK := hC.1
  have hS : va_S A s.heap s.heap [] := va_S.rf
  have hW0 := hW
  have hq9 := hW
  obtain ⟨t60, tok, tne, hO, f, hF, hf⟩ := hq9
  refine lv_aload_n hx hb dX0_addCode_0 rfl (lv_at hl 0 rfl) ?_
  refine va_get (D := G.1) (ci := 4) (C := RX0) (T := TX0) (N := 2) hx hb hts inX0 hown hK (at_P hO) 0 rfl rfl 1 (by decide) (hts _ tw_1_45) (fun _ h9 => h9) rfl dX0_addCode_1 ?_
  refine lv_bipush (v := nI 60) hx hb dX0_addCode_4 (by decide) ?_
  refine b_ge (tgt := 30) hx hb dX0_addCode_6 (by decide) (by omega) (by omega) (fun c_5 => ?_) (fun c_5 => ?_)
  · exact q_v hx hb hr hlocks dX0_addCode_30 hS (Nat.le_refl _) (Nat.le_refl _) (by rw [take_full (by omega)]; exact hW0)
  · refine lv_aload_n hx hb dX0_addCode_9 rfl (lv_at hl 0 rfl) ?_
    refine va_get (D := G.1) (ci := 4) (C := RX0) (T := TX0) (N := 2) hx hb hts inX0 hown hK (at_P hO) 0 rfl rfl 0 (by decide) (hts _ tw_1_44) (fun _ h9 => h9) rfl dX0_addCode_10 ?_
    refine lv_aload_n hx hb dX0_addCode_13 rfl (lv_at hl 0 rfl) ?_
    refine va_get (D := G.1) (ci := 4) (C := RX0) (T := TX0) (N := 2) hx hb hts inX0 hown hK (at_P hO) 0 rfl rfl 1 (by decide) (hts _ tw_1_45) (fun _ h9 => h9) rfl dX0_addCode_14 ?_
    refine lv_iload_n hx hb dX0_addCode_17 rfl (lv_at hl 1 rfl) ?_
    refine lv_i2c hx hb dX0_addCode_18 (show _ = nI k0 from (chr_id (n := k0) (by omega))) ?_
    refine h_cst (D := G.1) hx hb hK 1 hF rfl hS hAca (vp_in_nI (n := t.length) (N := 60) (by omega) (by omega)) dX0_addCode_19 (fun H6 L6 hF z6 o6 hS => ?_)
    rw [nI_clamp (n := t.length) (by omega)] at hF
    have hO := at_o hO o6 tne
    have hZ6 := hS.1
    refine lv_aload_n hx hb dX0_addCode_20 rfl (lv_at hl 0 rfl) ?_
    refine lv_dup hx hb dX0_addCode_21 rfl ?_
    refine va_get (D := G.1) (ci := 4) (C := RX0) (T := TX0) (N := 2) hx hb hts inX0 hown hK (at_P hO) 0 rfl rfl 1 (by decide) (hts _ tw_1_45) (fun _ h9 => h9) rfl dX0_addCode_22 ?_
    refine lv_iconst (v := nI 1) hx hb dX0_addCode_25 (by decide) ?_
    refine lv_iadd hx hb dX0_addCode_26 ?_
    refine lv_cv (nI_add t.length 1) ?_
    refine h_put (D := G.1) (ci := 4) (C := RX0) (T := TX0) (N := 2) hx hb hts inX0 tyX0 tyX0_ok nmX0 hown hK hO hS hAa rfl 1 (by decide) (hts _ tw_1_45) (fun _ h9 => h9) rfl (tyX0_ok 1 (by decide)) rfl rfl (Nat.le_of_ble_eq_true rfl) dX0_addCode_27 (fun H7 L7 hO z7 o7 hS => ?_)
    have hO : va_at G.1 vwCl (a, .inr (4, [.ref ca, .int (nI (t.length + 1))])) H7 := hO
    have hF := at_o hF o7 (Ne.symm tne)
    have hZ7 := hS.1
    exact q_v hx hb hr hlocks dX0_addCode_30 hS (Nat.le_refl _) (Nat.le_refl _) (by rw [take_room c_5]; exact LA.push c_5 tok hk0 tne hO hF hf)

abbrev rmX0_become : Room := { frames := 1, cells := 0, slots := 0, locals := 20 }
theorem mX0_become {l : Launch} {G : Cx} {A : Nat → Prop} {a ca b cb : Nat} {t u : List Nat} (hAa : A a) (hAca : A ca) (hd : b ≠ a ∧ b ≠ ca ∧ cb ≠ a ∧ cb ≠ ca) : Met l yX0_become (.code yX0_become cX0_become 3 (none : Option Jvm.ClassFile.FieldType) :: GW) rmX0_become (PC G A [.ref a, .ref b] (fun H => LA G a ca t H ∧ LA G b cb u H)) (qV A (fun H => LA G a ca u H ∧ LA G b cb u H)) 0 0 (A) := by
  refine mstart "Signtext$Line" (by decide +kernel) rfl (Nat.le_of_ble_eq_true rfl) ?_
  intro p e s m below meth c ls hx hb hr hts hown hml hlocks hname hC hA hW hl
  have hl : lv_has ls 3 [(0, .ref a), (1, .ref b)] := hl
  have hK := hC.1
  have hS : va_S A s.heap s.heap [] := va_S.rf
  obtain ⟨hWa, hWb⟩ := hW
  obtain ⟨d1, d2, d3, d4⟩ := hd
  have hq9 := hWa
  obtain ⟨t60, tok, tne, hO, f, hF, hf⟩ := hq9
  have hq9 := hWb
  obtain ⟨t60u, toku, tneu, hOu, fu, hFu, hfu⟩ := hq9
  refine lv_aload_n hx hb dX0_become_0 rfl (lv_at hl 0 rfl) ?_
  refine lv_aload_n hx hb dX0_become_1 rfl (lv_at hl 1 rfl) ?_
  refine va_get (D := G.1) (ci := 4) (C := RX0) (T := TX0) (N := 2) hx hb hts inX0 hown hK (at_P hOu) 0 rfl rfl 1 (by decide) (hts _ tw_1_45) (fun _ h9 => h9) rfl dX0_become_2 ?_
  refine h_put (D := G.1) (ci := 4) (C := RX0) (T := TX0) (N := 2) hx hb hts inX0 tyX0 tyX0_ok nmX0 hown hK hO hS hAa rfl 1 (by decide) (hts _ tw_1_45) (fun _ h9 => h9) rfl (tyX0_ok 1 (by decide)) rfl rfl (Nat.le_of_ble_eq_true rfl) dX0_become_5 (fun H8 L8 hO z8 o8 hS => ?_)
  have hO : va_at G.1 vwCl (a, .inr (4, [.ref ca, .int (nI u.length)])) H8 := hO
  have hOu := at_o hOu o8 d1
  have hF := at_o hF o8 (Ne.symm tne)
  have hFu := at_o hFu o8 d3
  have hZ8 := hS.1
  refine lv_iconst (v := nI 0) hx hb dX0_become_8 (by decide) ?_
  refine lv_istore_n (lv' := [(2, .int (nI 0)), (0, .ref a), (1, .ref b)]) hx hb dX0_become_9 rfl hl (by decide) rfl (fun ls hl => ?_)
  refine nloop (P := fun j => ∀ (ls : Array Slot) (H : Heap) (L : List Loc) (f : Nat → Int32), lv_has ls 3 [(2, .int (nI j)), (0, .ref a), (1, .ref b)] → va_S A s.heap H L → va_at G.1 vwCl (a, .inr (4, [.ref ca, .int (nI u.length)])) H → va_at G.1 vwCl (ca, .inl (G.2.1 1, 60, .inl f)) H → (∀ k : Nat, k < j → f k = nI (u.getD k 0)) → va_at G.1 vwCl (b, .inr (4, [.ref cb, .int (nI u.length)])) H → va_at G.1 vwCl (cb, .inl (G.2.1 1, 60, .inl fu)) H → W p l e rmX0_become s m [.ref a, .ref b].toArray below meth c H L 0 0 (MQ below (qV A (fun H => LA G a ca u H ∧ LA G b cb u H)) [.ref a, .ref b].toArray s 0 0 (A)) (F0 m 10 ls [])) u.length ?_ 0 (Nat.zero_le _) ls H8 L8 f hl hS hO hF (fun k hk => absurd hk (Nat.not_lt_zero k)) hOu hFu
  clear hl
  intro j hj ih ls H L f hl
  clear hS hO hF hf hOu hFu
  intro hS hO hF hf hOu hFu
  refine lv_iload_n hx hb dX0_become_10 rfl (lv_at hl 0 rfl) ?_
  refine lv_aload_n hx hb dX0_become_11 rfl (lv_at hl 1 rfl) ?_
  refine va_get (D := G.1) (ci := 4) (C := RX0) (T := TX0) (N := 2) hx hb hts inX0 hown hK (at_P hO) 0 rfl rfl 1 (by decide) (hts _ tw_1_45) (fun _ h9 => h9) rfl dX0_become_12 ?_
  refine b_ge (tgt := 36) hx hb dX0_become_15 (by decide) (by omega) (by omega) (fun c_9 => ?_) (fun c_9 => ?_)
  · exact q_v hx hb hr hlocks dX0_become_36 hS (Nat.le_refl _) (Nat.le_refl _) ⟨⟨t60u, toku, tne, hO, f, hF, fun k hk => hf k (by omega)⟩, ⟨t60u, toku, tneu, hOu, fu, hFu, hfu⟩⟩
  · refine lv_aload_n hx hb dX0_become_18 rfl (lv_at hl 1 rfl) ?_
    refine va_get (D := G.1) (ci := 4) (C := RX0) (T := TX0) (N := 2) hx hb hts inX0 hown hK (at_P hO) 0 rfl rfl 0 (by decide) (hts _ tw_1_44) (fun _ h9 => h9) rfl dX0_become_19 ?_
    refine lv_iload_n hx hb dX0_become_22 rfl (lv_at hl 0 rfl) ?_
    refine lv_aload_n hx hb dX0_become_23 rfl (lv_at hl 2 rfl) ?_
    refine va_get (D := G.1) (ci := 4) (C := RX0) (T := TX0) (N := 2) hx hb hts inX0 hown hK (at_P hOu) 0 rfl rfl 0 (by decide) (hts _ tw_1_44) (fun _ h9 => h9) rfl dX0_become_24 ?_
    refine lv_iload_n hx hb dX0_become_27 rfl (lv_at hl 0 rfl) ?_
    refine va_cald hx hb hK (at_P hFu) 0 1 rfl rfl (vp_in_nI (n := j) (N := 60) (by omega) (by omega)) dX0_become_28 ?_
    refine lv_cv (show _ = nI (u.getD j 0) from by rw [nI_clamp (by omega)]; exact hfu _ (by omega)) ?_
    have tokj := toku j
    refine h_cst (D := G.1) hx hb hK 1 hF rfl hS hAca (vp_in_nI (n := j) (N := 60) (by omega) (by omega)) dX0_become_29 (fun H10 L10 hF z10 o10 hS => ?_)
    rw [nI_clamp (n := j) (by omega)] at hF
    have hO := at_o hO o10 tne
    have hOu := at_o hOu o10 d2
    have hFu := at_o hFu o10 d4
    have hZ10 := hS.1
    refine lv_iinc (v := nI (j + 1)) (lv' := [(2, .int (nI (j + 1))), (0, .ref a), (1, .ref b)]) hx hb dX0_become_30 hl (k := 0) rfl (nI_add j 1) (by decide) rfl (fun ls hl => ?_)
    refine lv_goto (tgt := 10) hx hb dX0_become_33 (by decide) ?_
    exact ih (j + 1) (by omega) (by omega) ls H10 L10 _ hl hS hO hF (fun k hk => by rcases Nat.lt_succ_iff_lt_or_eq.mp hk with q | q; rw [pk_un (by omega)]; exact hf k q; rw [q, pk_us, nar_char (by omega)]) hOu hFu

abbrev rmX0_addPart : Room := { frames := 2, cells := 0, slots := 0, locals := 41 }
theorem mX0_addPart {l : Launch} {G : Cx} {A : Nat → Prop} {a ca b cb : Nat} {t u : List Nat} {i i2 : Nat} (hAa : A a) (hAca : A ca) (hd : b ≠ a ∧ b ≠ ca ∧ cb ≠ a ∧ cb ≠ ca) (hi : i ≤ i2) (hi2 : i2 ≤ u.length) : Met l yX0_addPart (.code yX0_addPart cX0_addPart 5 (none : Option Jvm.ClassFile.FieldType) :: GW) rmX0_addPart (PC G A [.ref a, .ref b, .int (nI i), .int (nI i2)] (fun H => LA G a ca t H ∧ LA G b cb u H)) (qV A (fun H => LA G a ca ((t ++ cutL u i i2).take 60) H ∧ LA G b cb u H)) 0 0 (A) := by
  refine mstart "Signtext$Line" (by decide +kernel) rfl (Nat.le_of_ble_eq_true rfl) ?_
  intro p e s m below meth c ls hx hb hr hts hown hml hlocks hname hC hA hW hl
  have hl : lv_has ls 5 [(0, .ref a), (1, .ref b), (2, .int (nI i)), (3, .int (nI i2))] := hl
  have hK := hC.1
  have hS : va_S A s.heap s.heap [] := va_S.rf
  obtain ⟨hWa, hWb⟩ := hW
  have t60 := hWa.1
  have u60 := hWb.1
  have uok := hWb.2.1
  obtain ⟨d1, d2, d3, d4⟩ := hd
  refine lv_iload_n hx hb dX0_addPart_0 rfl (lv_at hl 2 rfl) ?_
  refine lv_istore (lv' := [(4, .int (nI i)), (0, .ref a), (1, .ref b), (2, .int (nI i)), (3, .int (nI i2))]) hx hb dX0_addPart_1 hl (by decide) rfl (fun ls hl => ?_)
  refine nloop (P := fun j => ∀ (ls : Array Slot) (H : Heap) (L : List Loc), lv_has ls 5 [(4, .int (nI j)), (0, .ref a), (1, .ref b), (2, .int (nI i)), (3, .int (nI i2))] → va_S A s.heap H L → LA G a ca ((t ++ cutL u i j).take 60) H → LA G b cb u H → i ≤ j → W p l e rmX0_addPart s m [.ref a, .ref b, .int (nI i), .int (nI i2)].toArray below meth c H L 0 0 (MQ below (qV A (fun H => LA G a ca ((t ++ cutL u i i2).take 60) H ∧ LA G b cb u H)) [.ref a, .ref b, .int (nI i), .int (nI i2)].toArray s 0 0 (A)) (F0 m 3 ls [])) i2 ?_ i hi ls s.heap [] hl hS (by rw [cutL_nil, List.append_nil, List.take_of_length_le t60]; exact hWa) hWb (Nat.le_refl _)
  clear hl
  intro j hj ih ls H L hl
  clear hS hWa hWb
  intro hS hWa hWb hij
  have hZ0 := hS.1
  refine lv_iload hx hb dX0_addPart_3 (lv_at hl 0 rfl) ?_
  refine lv_iload_n hx hb dX0_addPart_5 rfl (lv_at hl 4 rfl) ?_
  refine b_ge (tgt := 25) hx hb dX0_addPart_6 (by decide) (by omega) (by omega) (fun c_11 => ?_) (fun c_11 => ?_)
  · obtain rfl : j = i2 := by omega
    exact q_v hx hb hr hlocks dX0_addPart_25 hS (Nat.le_refl _) (Nat.le_refl _) ⟨hWa, hWb⟩
  · refine lv_aload_n hx hb dX0_addPart_9 rfl (lv_at hl 1 rfl) ?_
    refine lv_aload_n hx hb dX0_addPart_10 rfl (lv_at hl 2 rfl) ?_
    refine lv_iload hx hb dX0_addPart_11 (lv_at hl 0 rfl) ?_
    refine kV_i (A := A) (b := b) (As := [.int (nI j)]) (rest := .ref a :: []) ⟨hx, hb, hml, hown, hts⟩ (mX0_codeAt (A := A) (ca := cb) (i := j) (by omega)) (cwV 1 hts (gV tw_2_19 tw_2_20 tw_2_21 tw_1_2 tw_2_22) rfl rfl rfl (by decide +kernel) ⟨Nat.le_of_ble_eq_true rfl, Nat.le_of_ble_eq_true rfl⟩) hC hS hA (hWb.recv hK) hWb rfl rfl hl.1 (Nat.le_of_ble_eq_true rfl) ⟨Nat.zero_le _, Nat.zero_le _⟩ dX0_addPart_13 (fun r9 h9 => lv_cv h9 ?_)
    refine qV_V (A := A) (A1 := ow a ca H.size) (b := a) (As := [.int (nI (u.getD j 0))]) (rest := []) ⟨hx, hb, hml, hown, hts⟩ (mX0_addCode (A := ow a ca H.size) (ca := ca) (k0 := u.getD j 0) (Or.inl rfl) (Or.inr (Or.inl rfl)) (uok j)) (cwV 1 hts (gV tw_1_133 tw_1_134 tw_1_135 tw_1_2 tw_1_136) rfl rfl rfl (by decide +kernel) ⟨Nat.le_of_ble_eq_true rfl, Nat.le_of_ble_eq_true rfl⟩) hC hS (ow_in hAa hAca hA hZ0) ow_n (hWa.recv hK) hWa rfl rfl hl.1 (Nat.le_of_ble_eq_true rfl) ⟨Nat.zero_le _, Nat.zero_le _⟩ dX0_addPart_16 (fun H12 L12 hP12 hk12 hS => ?_)
    have hZ12 := hS.1
    have hWb := hWb.kp hk12 (ow_no d1 d2 hWb.lt.1) (ow_no d3 d4 hWb.lt.2)
    refine lv_iinc (v := nI (j + 1)) (lv' := [(4, .int (nI (j + 1))), (0, .ref a), (1, .ref b), (2, .int (nI i)), (3, .int (nI i2))]) hx hb dX0_addPart_19 hl (k := 0) rfl (nI_add j 1) (by decide) rfl (fun ls hl => ?_)
    refine lv_goto (tgt := 3) hx hb dX0_addPart_22 (by decide) ?_
    exact ih (j + 1) (by omega) (by omega) ls H12 L12 hl hS (by rw [cutL_succ hij (by omega), ← List.append_assoc, ← take_take60]; exact hP12) hWb (by omega)

abbrev rmX0_addAll : Room := { frames := 3, cells := 0, slots := 0, locals := 65 }
theorem mX0_addAll {l : Launch} {G : Cx} {A : Nat → Prop} {a ca b cb : Nat} {t u : List Nat} (hAa : A a) (hAca : A ca) (hd : b ≠ a ∧ b ≠ ca ∧ cb ≠ a ∧ cb ≠ ca) : Met l yX0_addAll (.code yX0_addAll cX0_addAll 2 (none : Option Jvm.ClassFile.FieldType) :: GW) rmX0_addAll (PC G A [.ref a, .ref b] (fun H => LA G a ca t H ∧ LA G b cb u H)) (qV A (fun H => LA G a ca ((t ++ u).take 60) H ∧ LA G b cb u H)) 0 0 (A) := by
  refine mstart "Signtext$Line" (by decide +kernel) rfl (Nat.le_of_ble_eq_true rfl) ?_
  intro p e s m below meth c ls hx hb hr hts hown hml hlocks hname hC hA hW hl
  have hl : lv_has ls 2 [(0, .ref a), (1, .ref b)] := hl
  have hK := hC.1
  have hS : va_S A s.heap s.heap [] := va_S.rf
  obtain ⟨hWa, hWb⟩ := hW
  refine lv_aload_n hx hb dX0_addAll_0 rfl (lv_at hl 0 rfl) ?_
  refine lv_aload_n hx hb dX0_addAll_1 rfl (lv_at hl 1 rfl) ?_
  refine lv_iconst (v := nI 0) hx hb dX0_addAll_2 (by decide) ?_
  refine lv_aload_n hx hb dX0_addAll_3 rfl (lv_at hl 1 rfl) ?_
  refine kV_i (A := A) (b := b) (As := []) (rest := .int (nI 0) :: .ref b :: .ref a :: []) ⟨hx, hb, hml, hown, hts⟩ (mX0_size (A := A) (ca := cb)) (cwV 0 hts (gV tw_2_11 tw_2_12 tw_2_13 tw_1_2 tw_2_14) rfl rfl rfl (by decide +kernel) ⟨Nat.le_of_ble_eq_true rfl, Nat.le_of_ble_eq_true rfl⟩) hC hS hA (hWb.recv hK) hWb rfl rfl hl.1 (Nat.le_of_ble_eq_true rfl) ⟨Nat.zero_le _, Nat.zero_le _⟩ dX0_addAll_4 (fun r9 h9 => lv_cv h9 ?_)
  refine qV_V (A := A) (A1 := ow a ca s.heap.size) (b := a) (As := [.ref b, .int (nI 0), .int (nI u.length)]) (rest := []) ⟨hx, hb, hml, hown, hts⟩ (mX0_addPart (A := ow a ca s.heap.size) (ca := ca) (cb := cb) (t := t) (u := u) (i := 0) (i2 := u.length) (Or.inl rfl) (Or.inr (Or.inl rfl)) hd (Nat.zero_le _) (Nat.le_refl _)) (cwV 3 hts (gV tw_3_58 tw_2_36 tw_2_37 tw_1_2 tw_2_38) rfl rfl rfl (by decide +kernel) ⟨Nat.le_of_ble_eq_true rfl, Nat.le_of_ble_eq_true rfl⟩) hC hS (ow_in hAa hAca hA (Nat.le_refl _)) ow_n (hWa.recv hK) ⟨hWa, hWb⟩ rfl rfl hl.1 (Nat.le_of_ble_eq_true rfl) ⟨Nat.zero_le _, Nat.zero_le _⟩ dX0_addAll_7 (fun H13 L13 hP13 hk13 hS => ?_)
  have hZ13 := hS.1
  rw [cutL_all] at hP13
  exact q_v hx hb hr hlocks dX0_addAll_10 hS (Nat.le_refl _) (Nat.le_refl _) hP13

abbrev rmX0_init : Room := { frames := 1, cells := 1, slots := 60, locals := 20 }
theorem mX0_init {l : Launch} {G : Cx} {A : Nat → Prop} {a sz : Nat} (hAa : A a) : Met l yX0_init (.code yX0_init cX0_init 1 (none : Option Jvm.ClassFile.FieldType) :: GW) rmX0_init (PC G A [.ref a] (fun H => H.size = sz ∧ va_at G.1 vwCl (a, .inr (4, [.null, .int 0])) H)) (qV A (fun H => ∃ ca, sz ≤ ca ∧ H.size = sz + 1 ∧ LA G a ca [] H)) 1 60 (A) := by
  refine mstart "Signtext$Line" (by decide +kernel) rfl (Nat.le_of_ble_eq_true rfl) ?_
  intro p e s m below meth c ls hx hb hr hts hown hml hlocks hname hC hA hW hl
  have hl : lv_has ls 1 [(0, .ref a)] := hl
  have hK := hC.1
  have hS : va_S A s.heap s.heap [] := va_S.rf
  obtain ⟨hsz, hO⟩ := hW
  refine lv_aload_n hx hb dX0_init_0 rfl (lv_at hl 0 rfl) ?_
  refine W.objInit hx hb hown (hts _ tw_1_43) (hts _ tw_1_35) (hts _ tw_1_36) rfl (by rw [hml]; exact hl.1) rfl dX0_init_1 (Nat.le_of_ble_eq_true rfl) (Nat.le_of_ble_eq_true rfl) ?_
  refine W.eq (g2 := F0 m 4 ls []) rfl ?_
  refine lv_aload_n hx hb dX0_init_4 rfl (lv_at hl 0 rfl) ?_
  refine lv_bipush (v := nI 60) hx hb dX0_init_5 (by decide) ?_
  refine h_newa (D := G.1) (atype := .char) (N := 60) (z := (60, .inl (fun _ => 0))) hx hb (hts _ tw_1_51) rfl (fun h => h) hK 1 rfl hS rfl (by decide) (by decide) (Nat.le_of_ble_eq_true rfl) (Nat.le_of_ble_eq_true rfl) (Nat.le_of_ble_eq_true rfl) dX0_init_7 (fun ca H1 hca hF z1 o1 hS => ?_)
  have nac : a ≠ ca := fun q => absurd hO.lt (by rw [q, hca]; exact Nat.lt_irrefl _)
  have hO := at_n hO o1
  refine h_putF (D := G.1) (ci := 4) (C := RX0) (T := TX0) (N := 2) hx hb hts inX0 tyX0 tyX0_ok nmX0 hown hK hO hS hAa rfl 0 (by decide) (hts _ tw_1_44) (fun _ h9 => h9) rfl hname rfl (tyX0_ok 0 (by decide)) rfl rfl (Nat.le_of_ble_eq_true rfl) dX0_init_9 (fun H14 L14 hO z14 o14 hS => ?_)
  have hO : va_at G.1 vwCl (a, .inr (4, [.ref ca, .int (nI 0)])) H14 := hO
  have hF := at_o hF o14 (Ne.symm nac)
  have hZ14 := hS.1
  refine lv_aload_n hx hb dX0_init_12 rfl (lv_at hl 0 rfl) ?_
  refine lv_iconst (v := nI 0) hx hb dX0_init_13 (by decide) ?_
  refine h_put (D := G.1) (ci := 4) (C := RX0) (T := TX0) (N := 2) hx hb hts inX0 tyX0 tyX0_ok nmX0 hown hK hO hS hAa rfl 1 (by decide) (hts _ tw_1_45) (fun _ h9 => h9) rfl (tyX0_ok 1 (by decide)) rfl rfl (Nat.le_of_ble_eq_true rfl) dX0_init_14 (fun H15 L15 hO z15 o15 hS => ?_)
  have hO : va_at G.1 vwCl (a, .inr (4, [.ref ca, .int (nI 0)])) H15 := hO
  have hF := at_o hF o15 (Ne.symm nac)
  have hZ15 := hS.1
  exact q_v hx hb hr hlocks dX0_init_17 hS (by omega) (by omega) ⟨ca, by rw [hca, hsz]; exact Nat.le_refl _, by rw [z15, z14, z1, hsz], Nat.zero_le _, okc_nil, nac, hO, _, hF, fun j hj => absurd hj (Nat.not_lt_zero j)⟩
end
/-! 12.pure2 -/
section
/-! OWN LAYER, 5: more pure calls (nothing, a cell, a long), their ends -/
def pV : Array Value → State → Outcome → State → Prop := fun _ st o t => o = .returned none ∧ t.heap = st.heap
section P2
variable {p : Program} {l : Launch} {e : Env} {R : Room} {s : State} {m : MethodId} {args : Array Value} {below : List Frame} {meth : Method} {c : Code} {H : Heap} {locs : List Loc} {cells slots : Nat} {Q : State → Prop}
variable {cc bytes : ByteArray} {pc nL maxL index n mc ms : Nat} {ls : Array Slot} {rest st0 : List Value} {G : Cx} {A A1 : Nat → Prop} {own C : String} {y : MethodName} {ret : Option FieldType} {ws : List Cond} {rm : Room} {b : Nat} {As : List Value} {Wd : Heap → Prop}
theorem callSv {a : Array Value} {st0 : List Value} (hr : CallRun p l e R s m args below meth c H locs cells slots 0 0 (F0 m pc ls st0) rest (pV a) (fun _ => False))
    (kk : W p l e R s m args below meth c H locs cells slots Q (F0 m (pc + 3) ls rest)) : W p l e R s m args below meth c H locs cells slots Q (F0 m pc ls st0) := by
  intro T hT X
  obtain ⟨v, st₀, t, T', L, h0, X', hL, e1, ⟨hv, hh⟩, st⟩ := hr T hT X
  cases hv
  obtain ⟨t2, a1, b1⟩ := kk T' (by rw [e1, hh, h0]) (Stand.forget X' (fun q h => (hL q h).elim))
  exact ⟨t2, st t2 a1, b1⟩
theorem callSr {P : Nat → Prop} {a : Array Value} {st0 : List Value} (hr : CallRun p l e R s m args below meth c H locs cells slots 0 0 (F0 m pc ls st0) rest (pR P a) (fun _ => False))
    (kk : ∀ r : Nat, P r → W p l e R s m args below meth c H locs cells slots Q (F0 m (pc + 3) ls (.ref r :: rest))) : W p l e R s m args below meth c H locs cells slots Q (F0 m pc ls st0) := by
  intro T hT X
  obtain ⟨v, st₀, t, T', L, h0, X', hL, e1, ⟨r, hv, hp, hh⟩, st⟩ := hr T hT X
  cases hv
  obtain ⟨t2, a1, b1⟩ := kk r hp T' (by rw [e1, hh, h0]) (Stand.forget X' (fun q h => (hL q h).elim))
  exact ⟨t2, st t2 a1, b1⟩
theorem kS_v (S : CallFix p m c cc nL s args GW own) (hM : Met l y ws rm (PC G A As Wd) pV 0 0 (fun _ => False)) (cw : CallB R s args own index y bytes maxL ret ws rm 0 0 n ∧ (Cond.static y).before args s = true) (hC : cx G A s) (hS : va_S A s.heap H locs) (hA : ∀ q : Nat, s.heap.size ≤ q → A q)
    (hW : Wd H) (hst : st0 = As.reverse ++ rest) (hn : As.length = n) (hl : ls.size = nL) (hrm : (rest.map fun v => v.category).sum ≤ 8) (hf : cells ≤ R.cells ∧ slots ≤ R.slots) (hdg : decode cc pc = .ok (.invokestatic index, 3))
    (kk : W p l e R s m args below meth c H locs cells slots Q (F0 m (pc + 3) ls rest)) : W p l e R s m args below meth c H locs cells slots Q (F0 m pc ls st0) := by
  subst hst
  exact callSv (W.runS (As := As) (rest := rest) (g := F0 m pc ls (As.reverse ++ rest)) S hM cw ⟨PC.blind, PC.go hC hS (fun _ z => z) (fun q h => hA q (Nat.le_trans hS.1 h)) hW⟩ rfl hn hl rfl (lv_room hrm) hdg hf) kk
theorem kV_v (S : CallFix p m c cc nL s args GW own) (hM : Met l y ws rm (PC G A (.ref b :: As) Wd) pV 0 0 (fun _ => False)) (cw : CallW R s args own C index y bytes maxL ret ws rm 0 0 n) (hC : cx G A s) (hS : va_S A s.heap H locs) (hA : ∀ q : Nat, s.heap.size ≤ q → A q)
    (hr : ∃ cell : Cell, H[b]? = some cell ∧ cell.vm.isStatics = false ∧ s.vm.findClass C = some cell.cls) (hW : Wd H) (hst : st0 = As.reverse ++ .ref b :: rest) (hn : As.length = n) (hl : ls.size = nL) (hrm : (rest.map fun v => v.category).sum ≤ 8) (hf : cells ≤ R.cells ∧ slots ≤ R.slots) (hdg : decode cc pc = .ok (.invokevirtual index, 3))
    (kk : W p l e R s m args below meth c H locs cells slots Q (F0 m (pc + 3) ls rest)) : W p l e R s m args below meth c H locs cells slots Q (F0 m pc ls st0) := by
  subst hst
  exact callSv (W.runV (As := As) (rest := rest) (g := F0 m pc ls (As.reverse ++ .ref b :: rest)) S hM cw ⟨PC.blind, hr, PC.go hC hS (fun _ z => z) (fun q h => hA q (Nat.le_trans hS.1 h)) hW⟩ rfl hn hl rfl (lv_room hrm) hdg hf) kk
theorem kV_a {P : Nat → Prop} (S : CallFix p m c cc nL s args GW own) (hM : Met l y ws rm (PC G A (.ref b :: As) Wd) (pR P) 0 0 (fun _ => False)) (cw : CallW R s args own C index y bytes maxL ret ws rm 0 0 n) (hC : cx G A s) (hS : va_S A s.heap H locs) (hA : ∀ q : Nat, s.heap.size ≤ q → A q)
    (hr : ∃ cell : Cell, H[b]? = some cell ∧ cell.vm.isStatics = false ∧ s.vm.findClass C = some cell.cls) (hW : Wd H) (hst : st0 = As.reverse ++ .ref b :: rest) (hn : As.length = n) (hl : ls.size = nL) (hrm : (rest.map fun v => v.category).sum ≤ 8) (hf : cells ≤ R.cells ∧ slots ≤ R.slots) (hdg : decode cc pc = .ok (.invokevirtual index, 3))
    (kk : ∀ r : Nat, P r → W p l e R s m args below meth c H locs cells slots Q (F0 m (pc + 3) ls (.ref r :: rest))) : W p l e R s m args below meth c H locs cells slots Q (F0 m pc ls st0) := by
  subst hst
  exact callSr (W.runV (As := As) (rest := rest) (g := F0 m pc ls (As.reverse ++ .ref b :: rest)) S hM cw ⟨PC.blind, hr, PC.go hC hS (fun _ z => z) (fun q h => hA q (Nat.le_trans hS.1 h)) hW⟩ rfl hn hl rfl (lv_room hrm) hdg hf) kk
theorem kS_a {P : Nat → Prop} (S : CallFix p m c cc nL s args GW own) (hM : Met l y ws rm (PC G A As Wd) (pR P) 0 0 (fun _ => False)) (cw : CallB R s args own index y bytes maxL ret ws rm 0 0 n ∧ (Cond.static y).before args s = true) (hC : cx G A s) (hS : va_S A s.heap H locs) (hA : ∀ q : Nat, s.heap.size ≤ q → A q)
    (hW : Wd H) (hst : st0 = As.reverse ++ rest) (hn : As.length = n) (hl : ls.size = nL) (hrm : (rest.map fun v => v.category).sum ≤ 8) (hf : cells ≤ R.cells ∧ slots ≤ R.slots) (hdg : decode cc pc = .ok (.invokestatic index, 3))
    (kk : ∀ r : Nat, P r → W p l e R s m args below meth c H locs cells slots Q (F0 m (pc + 3) ls (.ref r :: rest))) : W p l e R s m args below meth c H locs cells slots Q (F0 m pc ls st0) := by
  subst hst
  exact callSr (W.runS (As := As) (rest := rest) (g := F0 m pc ls (As.reverse ++ rest)) S hM cw ⟨PC.blind, PC.go hC hS (fun _ z => z) (fun q h => hA q (Nat.le_trans hS.1 h)) hW⟩ rfl hn hl rfl (lv_room hrm) hdg hf) kk
theorem kS_l {post : Int64 → Prop} (S : CallFix p m c cc nL s args GW own) (hM : Met l y ws rm (PC G A As Wd) (vp_Sl post) 0 0 (fun _ => False)) (cw : CallB R s args own index y bytes maxL ret ws rm 0 0 n ∧ (Cond.static y).before args s = true) (hC : cx G A s) (hS : va_S A s.heap H locs) (hA : ∀ q : Nat, s.heap.size ≤ q → A q)
    (hW : Wd H) (hst : st0 = As.reverse ++ rest) (hn : As.length = n) (hl : ls.size = nL) (hrm : (rest.map fun v => v.category).sum ≤ 8) (hf : cells ≤ R.cells ∧ slots ≤ R.slots) (hdg : decode cc pc = .ok (.invokestatic index, 3))
    (kk : ∀ r : Int64, post r → W p l e R s m args below meth c H locs cells slots Q (F0 m (pc + 3) ls (.long r :: rest))) : W p l e R s m args below meth c H locs cells slots Q (F0 m pc ls st0) := by
  subst hst
  exact vp_callSl (W.runS (As := As) (rest := rest) (g := F0 m pc ls (As.reverse ++ rest)) S hM cw ⟨PC.blind, PC.go hC hS (fun _ z => z) (fun q h => hA q (Nat.le_trans hS.1 h)) hW⟩ rfl hn hl rfl (lv_room hrm) hdg hf) kk
theorem p_v (hx : p.tables.exec = Jvm.exec) (hb : c.code = cc) (hr : meth.sig.returnType = none) (hlocks : meth.locks = false) (hd : decode cc pc = .ok (.return_, 1)) : W p l e R s m args below meth c s.heap [] 0 0 (MQ below pV args s 0 0 (fun _ => False)) (F0 m pc ls []) :=
  W.vret hx hb hr (fun t ht hW => ⟨rfl, ht⟩) (fun q h => by cases h) hd
theorem p_l {post : Int64 → Prop} {v : Int64} (hx : p.tables.exec = Jvm.exec) (hb : c.code = cc) (hr : meth.sig.returnType = some .long) (hlocks : meth.locks = false) (hd : decode cc pc = .ok (.lreturn, 1)) (hp : post v) : W p l e R s m args below meth c s.heap [] 0 0 (MQ below (vp_Sl post) args s 0 0 (fun _ => False)) (F0 m pc ls [.long v]) :=
  W.lret hx hb hr (fun t ht hW => ⟨v, rfl, hp, ht⟩) (fun q h => by cases h) hd
theorem p_g {post : Int32 → Prop} {v : Int32} {ty : FieldType} (hx : p.tables.exec = Jvm.exec) (hb : c.code = cc) (hr : meth.sig.returnType = some ty) (hn : narrow ty (.int v) = .int v) (hlocks : meth.locks = false) (hd : decode cc pc = .ok (.ireturn, 1)) (hp : post v) : W p l e R s m args below meth c s.heap [] 0 0 (MQ below (vp_Si post) args s 0 0 (fun _ => False)) (F0 m pc ls [.int v]) :=
  W.zret hx hb hr hn (fun t ht hW => ⟨v, rfl, hp, ht⟩) (fun q h => by cases h) hd
end P2
end
/-! 13.jdk1 -/
section
/-! The JDK, 1: length and charAt of the text constants -/
theorem sh0 (x : Int32) : x >>> ((0 : Int32) &&& 31) = x := by
  rw [show ((0 : Int32) &&& 31) = 0 from rfl]; simp
theorem and255 {c9 : Nat} (h : c9 < 256) : nI c9 &&& nI 255 = nI c9 := by
  have k : ∀ x : Fin 256, nI x.1 &&& nI 255 = nI x.1 := by decide +kernel
  exact k ⟨c9, h⟩
theorem stx_len {i : Nat} (h : i < 9) : (stx i).length < 6 := by
  have k : ∀ x : Fin 9, (stx x.1).length < 6 := by decide +kernel
  exact k ⟨i, h⟩
theorem stx_ok {i : Nat} (h : i < 9) : okc (stx i) := by
  have k : ∀ x : Fin 9, ∀ j : Fin 6, (stx x.1).getD j.1 0 < 256 := by decide +kernel
  intro j
  rcases Nat.lt_or_ge j 6 with q | q
  · exact k ⟨i, h⟩ ⟨j, q⟩
  · rw [List.getD_eq_getElem?_getD, List.getElem?_eq_none (by have := stx_len h; omega)]; decide
theorem stx_lt {i : Nat} (h : i < 9) (j : Nat) : (stx i).getD j 0 < 256 := stx_ok h j
theorem nar_charN {n : Nat} (h : n < 65536) : narrow .char (.int (nI n)) = .int (nI n) := (pk_charN h).1
theorem dJ0_length_8abf5_0 : decode cJ0_length_8abf5 0 = .ok (.aload_n 0, 1) := by decide +kernel
theorem dJ0_length_8abf5_1 : decode cJ0_length_8abf5 1 = .ok (.getfield 9, 3) := by decide +kernel
theorem dJ0_length_8abf5_4 : decode cJ0_length_8abf5 4 = .ok (.arraylength, 1) := by decide +kernel
theorem dJ0_length_8abf5_5 : decode cJ0_length_8abf5 5 = .ok (.aload_n 0, 1) := by decide +kernel
theorem dJ0_length_8abf5_6 : decode cJ0_length_8abf5 6 = .ok (.invokevirtual 335, 3) := by decide +kernel
theorem dJ0_length_8abf5_9 : decode cJ0_length_8abf5 9 = .ok (.ishr, 1) := by decide +kernel
theorem dJ0_length_8abf5_10 : decode cJ0_length_8abf5 10 = .ok (.ireturn, 1) := by decide +kernel
theorem dJ0_charAt_5068e_0 : decode cJ0_charAt_5068e 0 = .ok (.aload_n 0, 1) := by decide +kernel
theorem dJ0_charAt_5068e_1 : decode cJ0_charAt_5068e 1 = .ok (.invokevirtual 492, 3) := by decide +kernel
theorem dJ0_charAt_5068e_4 : decode cJ0_charAt_5068e 4 = .ok (.ifCond .eq 12, 3) := by decide +kernel
theorem dJ0_charAt_5068e_7 : decode cJ0_charAt_5068e 7 = .ok (.aload_n 0, 1) := by decide +kernel
theorem dJ0_charAt_5068e_8 : decode cJ0_charAt_5068e 8 = .ok (.getfield 9, 3) := by decide +kernel
theorem dJ0_charAt_5068e_11 : decode cJ0_charAt_5068e 11 = .ok (.iload_n 1, 1) := by decide +kernel
theorem dJ0_charAt_5068e_12 : decode cJ0_charAt_5068e 12 = .ok (.invokestatic 495, 3) := by decide +kernel
theorem dJ0_charAt_5068e_15 : decode cJ0_charAt_5068e 15 = .ok (.ireturn, 1) := by decide +kernel
theorem dJ0_charAt_5068e_16 : decode cJ0_charAt_5068e 16 = .ok (.aload_n 0, 1) := by decide +kernel
theorem dJ0_charAt_5068e_17 : decode cJ0_charAt_5068e 17 = .ok (.getfield 9, 3) := by decide +kernel
theorem dJ0_charAt_5068e_20 : decode cJ0_charAt_5068e 20 = .ok (.iload_n 1, 1) := by decide +kernel
theorem dJ0_charAt_5068e_21 : decode cJ0_charAt_5068e 21 = .ok (.invokestatic 498, 3) := by decide +kernel
theorem dJ0_charAt_5068e_24 : decode cJ0_charAt_5068e 24 = .ok (.ireturn, 1) := by decide +kernel
theorem dJ0_coder_7d493_0 : decode cJ0_coder_7d493 0 = .ok (.getstatic 38, 3) := by decide +kernel
theorem dJ0_coder_7d493_3 : decode cJ0_coder_7d493 3 = .ok (.ifCond .eq 10, 3) := by decide +kernel
theorem dJ0_coder_7d493_6 : decode cJ0_coder_7d493 6 = .ok (.aload_n 0, 1) := by decide +kernel
theorem dJ0_coder_7d493_7 : decode cJ0_coder_7d493 7 = .ok (.getfield 15, 3) := by decide +kernel
theorem dJ0_coder_7d493_10 : decode cJ0_coder_7d493 10 = .ok (.goto 4, 3) := by decide +kernel
theorem dJ0_coder_7d493_13 : decode cJ0_coder_7d493 13 = .ok (.iconst 1, 1) := by decide +kernel
theorem dJ0_coder_7d493_14 : decode cJ0_coder_7d493 14 = .ok (.ireturn, 1) := by decide +kernel
theorem dJ0_isLatin1_aae02_0 : decode cJ0_isLatin1_aae02 0 = .ok (.getstatic 38, 3) := by decide +kernel
theorem dJ0_isLatin1_aae02_3 : decode cJ0_isLatin1_aae02 3 = .ok (.ifCond .eq 14, 3) := by decide +kernel
theorem dJ0_isLatin1_aae02_6 : decode cJ0_isLatin1_aae02 6 = .ok (.aload_n 0, 1) := by decide +kernel
theorem dJ0_isLatin1_aae02_7 : decode cJ0_isLatin1_aae02 7 = .ok (.getfield 15, 3) := by decide +kernel
theorem dJ0_isLatin1_aae02_10 : decode cJ0_isLatin1_aae02 10 = .ok (.ifCond .ne 7, 3) := by decide +kernel
theorem dJ0_isLatin1_aae02_13 : decode cJ0_isLatin1_aae02 13 = .ok (.iconst 1, 1) := by decide +kernel
theorem dJ0_isLatin1_aae02_14 : decode cJ0_isLatin1_aae02 14 = .ok (.goto 4, 3) := by decide +kernel
theorem dJ0_isLatin1_aae02_17 : decode cJ0_isLatin1_aae02 17 = .ok (.iconst 0, 1) := by decide +kernel
theorem dJ0_isLatin1_aae02_18 : decode cJ0_isLatin1_aae02 18 = .ok (.ireturn, 1) := by decide +kernel
theorem dJ0_checkIndex_df160_0 : decode cJ0_checkIndex_df160 0 = .ok (.iload_n 0, 1) := by decide +kernel
theorem dJ0_checkIndex_df160_1 : decode cJ0_checkIndex_df160 1 = .ok (.iload_n 1, 1) := by decide +kernel
theorem dJ0_checkIndex_df160_2 : decode cJ0_checkIndex_df160 2 = .ok (.getstatic 1053, 3) := by decide +kernel
theorem dJ0_checkIndex_df160_5 : decode cJ0_checkIndex_df160 5 = .ok (.invokestatic 1059, 3) := by decide +kernel
theorem dJ0_checkIndex_df160_8 : decode cJ0_checkIndex_df160 8 = .ok (.pop, 1) := by decide +kernel
theorem dJ0_checkIndex_df160_9 : decode cJ0_checkIndex_df160 9 = .ok (.return_, 1) := by decide +kernel
theorem dJ1_charAt_3b067_0 : decode cJ1_charAt_3b067 0 = .ok (.iload_n 1, 1) := by decide +kernel
theorem dJ1_charAt_3b067_1 : decode cJ1_charAt_3b067 1 = .ok (.aload_n 0, 1) := by decide +kernel
theorem dJ1_charAt_3b067_2 : decode cJ1_charAt_3b067 2 = .ok (.arraylength, 1) := by decide +kernel
theorem dJ1_charAt_3b067_3 : decode cJ1_charAt_3b067 3 = .ok (.invokestatic 9, 3) := by decide +kernel
theorem dJ1_charAt_3b067_6 : decode cJ1_charAt_3b067 6 = .ok (.aload_n 0, 1) := by decide +kernel
theorem dJ1_charAt_3b067_7 : decode cJ1_charAt_3b067 7 = .ok (.iload_n 1, 1) := by decide +kernel
theorem dJ1_charAt_3b067_8 : decode cJ1_charAt_3b067 8 = .ok (.baload, 1) := by decide +kernel
theorem dJ1_charAt_3b067_9 : decode cJ1_charAt_3b067 9 = .ok (.sipush 255, 3) := by decide +kernel
theorem dJ1_charAt_3b067_12 : decode cJ1_charAt_3b067 12 = .ok (.iand, 1) := by decide +kernel
theorem dJ1_charAt_3b067_13 : decode cJ1_charAt_3b067 13 = .ok (.i2c, 1) := by decide +kernel
theorem dJ1_charAt_3b067_14 : decode cJ1_charAt_3b067 14 = .ok (.ireturn, 1) := by decide +kernel
theorem dJ3_checkIndex_8e157_0 : decode cJ3_checkIndex_8e157 0 = .ok (.iload_n 0, 1) := by decide +kernel
theorem dJ3_checkIndex_8e157_1 : decode cJ3_checkIndex_8e157 1 = .ok (.ifCond .lt 8, 3) := by decide +kernel
theorem dJ3_checkIndex_8e157_4 : decode cJ3_checkIndex_8e157 4 = .ok (.iload_n 0, 1) := by decide +kernel
theorem dJ3_checkIndex_8e157_5 : decode cJ3_checkIndex_8e157 5 = .ok (.iload_n 1, 1) := by decide +kernel
theorem dJ3_checkIndex_8e157_6 : decode cJ3_checkIndex_8e157 6 = .ok (.if_icmp .lt 10, 3) := by decide +kernel
theorem dJ3_checkIndex_8e157_9 : decode cJ3_checkIndex_8e157 9 = .ok (.aload_n 2, 1) := by decide +kernel
theorem dJ3_checkIndex_8e157_10 : decode cJ3_checkIndex_8e157 10 = .ok (.iload_n 0, 1) := by decide +kernel
theorem dJ3_checkIndex_8e157_11 : decode cJ3_checkIndex_8e157 11 = .ok (.iload_n 1, 1) := by decide +kernel
theorem dJ3_checkIndex_8e157_12 : decode cJ3_checkIndex_8e157 12 = .ok (.invokestatic 95, 3) := by decide +kernel
theorem dJ3_checkIndex_8e157_15 : decode cJ3_checkIndex_8e157 15 = .ok (.athrow, 1) := by decide +kernel
theorem dJ3_checkIndex_8e157_16 : decode cJ3_checkIndex_8e157 16 = .ok (.iload_n 0, 1) := by decide +kernel
theorem dJ3_checkIndex_8e157_17 : decode cJ3_checkIndex_8e157 17 = .ok (.ireturn, 1) := by decide +kernel
abbrev rmJ0_coder_7d493 : Room := { frames := 1, cells := 0, slots := 0, locals := 20 }
theorem mJ0_coder_7d493 {l : Launch} {G : Cx} {A : Nat → Prop} {i : Nat} (hi : i < 9) : Met l yJ0_coder_7d493 (.code yJ0_coder_7d493 cJ0_coder_7d493 1 (some .byte) :: GW) rmJ0_coder_7d493 (PC G A [.ref (G.2.2 (20 + i))] (fun _ => True)) (vp_Si (fun r => r = 0)) 0 0 (fun _ => False) := by
  refine mstart "java/lang/String" (by decide +kernel) rfl (Nat.le_of_ble_eq_true rfl) ?_
  intro p e s m below meth c ls hx hb hr hts hown hml hlocks hname hC hA hW hl
  have hl : lv_has ls 1 [(0, .ref (G.2.2 (20 + i)))] := hl
  have hK := hC.1
  have hS : va_S A s.heap s.heap [] := va_S.rf
  obtain ⟨z1, z2, z3, z4, z5, z6, z7, z8, z9, z10, z11, z12, z13⟩ := hC.2.2.1
  obtain ⟨c1, c2, c3, c4⟩ := hC.2.2.2.1 i hi
  refine va_gets (v := .int 1) hx hb z8 hS hown (hts _ tw_1_93) (fun _ h9 => h9) dJ0_coder_7d493_0 ?_
  refine lv_if_eq (tgt := 13) hx hb dJ0_coder_7d493_3 (by decide) (fun c_1 => ?_) (fun c_1 => ?_)
  · exact absurd c_1 (by decide)
  · refine lv_aload_n hx hb dJ0_coder_7d493_6 rfl (lv_at hl 0 rfl) ?_
    refine vk_getf hx hb c2 hS hown (hts _ tw_1_221) (fun _ h9 => h9) dJ0_coder_7d493_7 ?_
    refine lv_goto (tgt := 14) hx hb dJ0_coder_7d493_10 (by decide) ?_
    exact p_g hx hb hr rfl hlocks dJ0_coder_7d493_14 rfl

abbrev rmJ0_length_8abf5 : Room := { frames := 2, cells := 0, slots := 0, locals := 40 }
theorem mJ0_length_8abf5 {l : Launch} {G : Cx} {A : Nat → Prop} {i : Nat} (hi : i < 9) : Met l yJ0_length_8abf5 (.code yJ0_length_8abf5 cJ0_length_8abf5 1 (some .int) :: GW) rmJ0_length_8abf5 (PC G A [.ref (G.2.2 (20 + i))] (fun _ => True)) (vp_Si (fun r => r = nI (stx i).length)) 0 0 (fun _ => False) := by
  refine mstart "java/lang/String" (by decide +kernel) rfl (Nat.le_of_ble_eq_true rfl) ?_
  intro p e s m below meth c ls hx hb hr hts hown hml hlocks hname hC hA hW hl
  have hl : lv_has ls 1 [(0, .ref (G.2.2 (20 + i)))] := hl
  have hK := hC.1
  have hS : va_S A s.heap s.heap [] := va_S.rf
  obtain ⟨z1, z2, z3, z4, z5, z6, z7, z8, z9, z10, z11, z12, z13⟩ := hC.2.2.1
  obtain ⟨c1, c2, c3, c4⟩ := hC.2.2.2.1 i hi
  refine lv_aload_n hx hb dJ0_length_8abf5_0 rfl (lv_at hl 0 rfl) ?_
  refine vk_getf hx hb c3 hS hown (hts _ tw_1_220) (fun _ h9 => h9) dJ0_length_8abf5_1 ?_
  refine va_tlen (v := nI ((stx i).length)) hx hb c4 hS rfl dJ0_length_8abf5_4 ?_
  refine lv_aload_n hx hb dJ0_length_8abf5_5 rfl (lv_at hl 0 rfl) ?_
  refine kV_i (A := A) (b := (G.2.2 (20 + i))) (As := []) (rest := .int (nI ((stx i).length)) :: []) ⟨hx, hb, hml, hown, hts⟩ (mJ0_coder_7d493 (A := A) hi) (cwV 0 hts (gV tw_1_89 tw_1_90 tw_1_91 tw_1_4 tw_1_92) rfl rfl rfl (by decide +kernel) ⟨Nat.le_of_ble_eq_true rfl, Nat.le_of_ble_eq_true rfl⟩) hC hS hA (va_Orecv c1 hS) trivial rfl rfl hl.1 (Nat.le_of_ble_eq_true rfl) ⟨Nat.zero_le _, Nat.zero_le _⟩ dJ0_length_8abf5_6 (fun r9 h9 => lv_cv h9 ?_)
  refine lv_ishr hx hb dJ0_length_8abf5_9 ?_
  refine lv_cv (sh0 _) ?_
  exact p_i hx hb hr hlocks dJ0_length_8abf5_10 rfl

abbrev rmJ0_isLatin1_aae02 : Room := { frames := 1, cells := 0, slots := 0, locals := 20 }
theorem mJ0_isLatin1_aae02 {l : Launch} {G : Cx} {A : Nat → Prop} {i : Nat} (hi : i < 9) : Met l yJ0_isLatin1_aae02 (.code yJ0_isLatin1_aae02 cJ0_isLatin1_aae02 1 (some .boolean) :: GW) rmJ0_isLatin1_aae02 (PC G A [.ref (G.2.2 (20 + i))] (fun _ => True)) (vp_Si (fun r => r = bI true)) 0 0 (fun _ => False) := by
  refine mstart "java/lang/String" (by decide +kernel) rfl (Nat.le_of_ble_eq_true rfl) ?_
  intro p e s m below meth c ls hx hb hr hts hown hml hlocks hname hC hA hW hl
  have hl : lv_has ls 1 [(0, .ref (G.2.2 (20 + i)))] := hl
  have hK := hC.1
  have hS : va_S A s.heap s.heap [] := va_S.rf
  obtain ⟨z1, z2, z3, z4, z5, z6, z7, z8, z9, z10, z11, z12, z13⟩ := hC.2.2.1
  obtain ⟨c1, c2, c3, c4⟩ := hC.2.2.2.1 i hi
  refine va_gets (v := .int 1) hx hb z8 hS hown (hts _ tw_1_93) (fun _ h9 => h9) dJ0_isLatin1_aae02_0 ?_
  refine lv_if_eq (tgt := 17) hx hb dJ0_isLatin1_aae02_3 (by decide) (fun c_2 => ?_) (fun c_2 => ?_)
  · exact absurd c_2 (by decide)
  · refine lv_aload_n hx hb dJ0_isLatin1_aae02_6 rfl (lv_at hl 0 rfl) ?_
    refine vk_getf hx hb c2 hS hown (hts _ tw_1_221) (fun _ h9 => h9) dJ0_isLatin1_aae02_7 ?_
    refine lv_if_ne (tgt := 17) hx hb dJ0_isLatin1_aae02_10 (by decide) (fun c_3 => ?_) (fun c_3 => ?_)
    · exact absurd rfl c_3
    · refine lv_iconst (v := nI 1) hx hb dJ0_isLatin1_aae02_13 (by decide) ?_
      refine lv_goto (tgt := 18) hx hb dJ0_isLatin1_aae02_14 (by decide) ?_
      exact p_z (b := true) hx hb hr hlocks dJ0_isLatin1_aae02_18 rfl

abbrev rmJ3_checkIndex_8e157 : Room := { frames := 0, cells := 0, slots := 0, locals := 0 }
theorem mJ3_checkIndex_8e157 {l : Launch} {G : Cx} {A : Nat → Prop} {j n fa : Nat} (hj : j < n) (hn : n < 2 ^ 31) : Met l yJ3_checkIndex_8e157 (.code yJ3_checkIndex_8e157 cJ3_checkIndex_8e157 3 (some .int) :: GW) rmJ3_checkIndex_8e157 (PC G A [.int (nI j), .int (nI n), .ref fa] (fun _ => True)) (vp_Si (fun r => r = nI j)) 0 0 (fun _ => False) := by
  refine mstart "jdk/internal/util/Preconditions" (by decide +kernel) rfl (Nat.le_of_ble_eq_true rfl) ?_
  intro p e s m below meth c ls hx hb hr hts hown hml hlocks hname hC hA hW hl
  have hl : lv_has ls 3 [(0, .int (nI j)), (1, .int (nI n)), (2, .ref fa)] := hl
  have hK := hC.1
  have hS : va_S A s.heap s.heap [] := va_S.rf
  refine lv_iload_n hx hb dJ3_checkIndex_8e157_0 rfl (lv_at hl 0 rfl) ?_
  refine z_lt (tgt := 9) hx hb dJ3_checkIndex_8e157_1 (by decide) (by omega) ?_
  refine lv_iload_n hx hb dJ3_checkIndex_8e157_4 rfl (lv_at hl 0 rfl) ?_
  refine lv_iload_n hx hb dJ3_checkIndex_8e157_5 rfl (lv_at hl 1 rfl) ?_
  refine b_lt (tgt := 16) hx hb dJ3_checkIndex_8e157_6 (by decide) (by omega) (by omega) (fun c_5 => ?_) (fun c_5 => ?_)
  · refine lv_iload_n hx hb dJ3_checkIndex_8e157_16 rfl (lv_at hl 0 rfl) ?_
    exact p_i hx hb hr hlocks dJ3_checkIndex_8e157_17 rfl
  · exact absurd c_5 (by omega)

theorem mJ3_checkIndex_8e157_n {l : Launch} {G : Cx} {A : Nat → Prop} {j n fa : Nat} (hj : j < n) (hn : n < 2 ^ 31) : Met l yJ3_checkIndex_8e157 (.code yJ3_checkIndex_8e157 cJ3_checkIndex_8e157 3 (some .int) :: GW) rmJ3_checkIndex_8e157 (PC G A [.int (nI j), .int (nI n), .null] (fun _ => True)) (vp_Si (fun r => r = nI j)) 0 0 (fun _ => False) := by
  refine mstart "jdk/internal/util/Preconditions" (by decide +kernel) rfl (Nat.le_of_ble_eq_true rfl) ?_
  intro p e s m below meth c ls hx hb hr hts hown hml hlocks hname hC hA hW hl
  have hl : lv_has ls 3 [(0, .int (nI j)), (1, .int (nI n)), (2, .null)] := hl
  have hK := hC.1
  have hS : va_S A s.heap s.heap [] := va_S.rf
  refine lv_iload_n hx hb dJ3_checkIndex_8e157_0 rfl (lv_at hl 0 rfl) ?_
  refine z_lt (tgt := 9) hx hb dJ3_checkIndex_8e157_1 (by decide) (by omega) ?_
  refine lv_iload_n hx hb dJ3_checkIndex_8e157_4 rfl (lv_at hl 0 rfl) ?_
  refine lv_iload_n hx hb dJ3_checkIndex_8e157_5 rfl (lv_at hl 1 rfl) ?_
  refine b_lt (tgt := 16) hx hb dJ3_checkIndex_8e157_6 (by decide) (by omega) (by omega) (fun c_7 => ?_) (fun c_7 => ?_)
  · refine lv_iload_n hx hb dJ3_checkIndex_8e157_16 rfl (lv_at hl 0 rfl) ?_
    exact p_i hx hb hr hlocks dJ3_checkIndex_8e157_17 rfl
  · exact absurd c_7 (by omega)

abbrev rmJ0_checkIndex_df160 : Room := { frames := 1, cells := 0, slots := 0, locals := 22 }
theorem mJ0_checkIndex_df160 {l : Launch} {G : Cx} {A : Nat → Prop} {j n : Nat} (hj : j < n) (hn : n < 2 ^ 31) : Met l yJ0_checkIndex_df160 (.code yJ0_checkIndex_df160 cJ0_checkIndex_df160 2 (none : Option Jvm.ClassFile.FieldType) :: GW) rmJ0_checkIndex_df160 (PC G A [.int (nI j), .int (nI n)] (fun _ => True)) (pV) 0 0 (fun _ => False) := by
  refine mstart "java/lang/String" (by decide +kernel) rfl (Nat.le_of_ble_eq_true rfl) ?_
  intro p e s m below meth c ls hx hb hr hts hown hml hlocks hname hC hA hW hl
  have hl : lv_has ls 2 [(0, .int (nI j)), (1, .int (nI n))] := hl
  have hK := hC.1
  have hS : va_S A s.heap s.heap [] := va_S.rf
  obtain ⟨z1, z2, z3, z4, z5, z6, z7, z8, z9, z10, z11, z12, z13⟩ := hC.2.2.1
  refine lv_iload_n hx hb dJ0_checkIndex_df160_0 rfl (lv_at hl 0 rfl) ?_
  refine lv_iload_n hx hb dJ0_checkIndex_df160_1 rfl (lv_at hl 1 rfl) ?_
  rcases z11 with z11 | ⟨fa, z11⟩
  · refine va_gets (v := .null) hx hb z11 hS hown (hts _ tw_1_109) (fun _ h9 => h9) dJ0_checkIndex_df160_2 ?_
    refine kS_i (A := A) (As := [.int (nI j), .int (nI n), .null]) (rest := []) ⟨hx, hb, hml, hown, hts⟩ (mJ3_checkIndex_8e157_n (fa := 0) (A := A) hj hn) (va_cwS 3 hts (gS tw_1_111 tw_1_112 tw_1_6 tw_1_113) rfl rfl rfl (by decide +kernel) ⟨Nat.le_of_ble_eq_true rfl, Nat.le_of_ble_eq_true rfl⟩) hC hS hA  trivial rfl rfl hl.1 (Nat.le_of_ble_eq_true rfl) ⟨Nat.zero_le _, Nat.zero_le _⟩ dJ0_checkIndex_df160_5 (fun r9 h9 => lv_cv h9 ?_)
    refine lv_pop hx hb dJ0_checkIndex_df160_8 rfl ?_
    exact p_v hx hb hr hlocks dJ0_checkIndex_df160_9
  · refine va_gets (v := .ref fa) hx hb z11 hS hown (hts _ tw_1_109) (fun _ h9 => h9) dJ0_checkIndex_df160_2 ?_
    refine kS_i (A := A) (As := [.int (nI j), .int (nI n), .ref fa]) (rest := []) ⟨hx, hb, hml, hown, hts⟩ (mJ3_checkIndex_8e157 (A := A) hj hn) (va_cwS 3 hts (gS tw_1_111 tw_1_112 tw_1_6 tw_1_113) rfl rfl rfl (by decide +kernel) ⟨Nat.le_of_ble_eq_true rfl, Nat.le_of_ble_eq_true rfl⟩) hC hS hA  trivial rfl rfl hl.1 (Nat.le_of_ble_eq_true rfl) ⟨Nat.zero_le _, Nat.zero_le _⟩ dJ0_checkIndex_df160_5 (fun r9 h9 => lv_cv h9 ?_)
    refine lv_pop hx hb dJ0_checkIndex_df160_8 rfl ?_
    exact p_v hx hb hr hlocks dJ0_checkIndex_df160_9

abbrev rmJ1_charAt_3b067 : Room := { frames := 2, cells := 0, slots := 0, locals := 43 }
theorem mJ1_charAt_3b067 {l : Launch} {G : Cx} {A : Nat → Prop} {i : Nat} (hi : i < 9) {j : Nat} (hj : j < (stx i).length) : Met l yJ1_charAt_3b067 (.code yJ1_charAt_3b067 cJ1_charAt_3b067 2 (some .char) :: GW) rmJ1_charAt_3b067 (PC G A [.ref (G.2.2 (40 + i)), .int (nI j)] (fun _ => True)) (vp_Si (fun r => r = nI ((stx i).getD j 0))) 0 0 (fun _ => False) := by
  refine mstart "java/lang/StringLatin1" (by decide +kernel) rfl (Nat.le_of_ble_eq_true rfl) ?_
  intro p e s m below meth c ls hx hb hr hts hown hml hlocks hname hC hA hW hl
  have hl : lv_has ls 2 [(0, .ref (G.2.2 (40 + i))), (1, .int (nI j))] := hl
  have hK := hC.1
  have hS : va_S A s.heap s.heap [] := va_S.rf
  obtain ⟨z1, z2, z3, z4, z5, z6, z7, z8, z9, z10, z11, z12, z13⟩ := hC.2.2.1
  obtain ⟨c1, c2, c3, c4⟩ := hC.2.2.2.1 i hi
  have hs := stx_len hi
  refine lv_iload_n hx hb dJ1_charAt_3b067_0 rfl (lv_at hl 1 rfl) ?_
  refine lv_aload_n hx hb dJ1_charAt_3b067_1 rfl (lv_at hl 0 rfl) ?_
  refine va_tlen (v := nI ((stx i).length)) hx hb c4 hS rfl dJ1_charAt_3b067_2 ?_
  refine kS_v (A := A) (As := [.int (nI j), .int (nI ((stx i).length))]) (rest := []) ⟨hx, hb, hml, hown, hts⟩ (mJ0_checkIndex_df160 (A := A) hj (by omega)) (va_cwS 2 hts (gS tw_1_106 tw_1_107 tw_1_4 tw_1_108) rfl rfl rfl (by decide +kernel) ⟨Nat.le_of_ble_eq_true rfl, Nat.le_of_ble_eq_true rfl⟩) hC hS hA  trivial rfl rfl hl.1 (Nat.le_of_ble_eq_true rfl) ⟨Nat.zero_le _, Nat.zero_le _⟩ dJ1_charAt_3b067_3 ?_
  refine lv_aload_n hx hb dJ1_charAt_3b067_6 rfl (lv_at hl 0 rfl) ?_
  refine lv_iload_n hx hb dJ1_charAt_3b067_7 rfl (lv_at hl 1 rfl) ?_
  refine va_tb (v := .int (nI ((stx i).getD j 0))) hx hb c4 hS (vp_in_nI (n := j) (N := (stx i).length) (by omega) (by omega)) (by rw [nI_clamp (n := j) (by omega)]) dJ1_charAt_3b067_8 ?_
  refine lv_sipush (v := nI 255) hx hb dJ1_charAt_3b067_9 (by decide) ?_
  refine lv_iand hx hb dJ1_charAt_3b067_12 ?_
  refine lv_cv (and255 (stx_lt hi j)) ?_
  have hc9 := stx_lt hi j
  refine lv_i2c hx hb dJ1_charAt_3b067_13 (show _ = nI ((stx i).getD j 0) from (chr_id (n := (stx i).getD j 0) (by omega))) ?_
  exact p_g hx hb hr (nar_charN (by omega)) hlocks dJ1_charAt_3b067_14 rfl

abbrev rmJ0_charAt_5068e : Room := { frames := 3, cells := 0, slots := 0, locals := 64 }
theorem mJ0_charAt_5068e {l : Launch} {G : Cx} {A : Nat → Prop} {i : Nat} (hi : i < 9) {j : Nat} (hj : j < (stx i).length) : Met l yJ0_charAt_5068e (.code yJ0_charAt_5068e cJ0_charAt_5068e 2 (some .char) :: GW) rmJ0_charAt_5068e (PC G A [.ref (G.2.2 (20 + i)), .int (nI j)] (fun _ => True)) (vp_Si (fun r => r = nI ((stx i).getD j 0))) 0 0 (fun _ => False) := by
  refine mstart "java/lang/String" (by decide +kernel) rfl (Nat.le_of_ble_eq_true rfl) ?_
  intro p e s m below meth c ls hx hb hr hts hown hml hlocks hname hC hA hW hl
  have hl : lv_has ls 2 [(0, .ref (G.2.2 (20 + i))), (1, .int (nI j))] := hl
  have hK := hC.1
  have hS : va_S A s.heap s.heap [] := va_S.rf
  obtain ⟨z1, z2, z3, z4, z5, z6, z7, z8, z9, z10, z11, z12, z13⟩ := hC.2.2.1
  obtain ⟨c1, c2, c3, c4⟩ := hC.2.2.2.1 i hi
  refine lv_aload_n hx hb dJ0_charAt_5068e_0 rfl (lv_at hl 0 rfl) ?_
  refine kV_i (A := A) (b := (G.2.2 (20 + i))) (As := []) (rest := []) ⟨hx, hb, hml, hown, hts⟩ (mJ0_isLatin1_aae02 (A := A) hi) (cwV 0 hts (gV tw_1_99 tw_1_100 tw_1_101 tw_1_4 tw_1_102) rfl rfl rfl (by decide +kernel) ⟨Nat.le_of_ble_eq_true rfl, Nat.le_of_ble_eq_true rfl⟩) hC hS hA (va_Orecv c1 hS) trivial rfl rfl hl.1 (Nat.le_of_ble_eq_true rfl) ⟨Nat.zero_le _, Nat.zero_le _⟩ dJ0_charAt_5068e_1 (fun r9 h9 => lv_cv h9 ?_)
  refine f_eq (tgt := 16) hx hb dJ0_charAt_5068e_4 (by decide) (fun c_8 => ?_) (fun c_8 => ?_)
  · exact absurd c_8 (by decide)
  · refine lv_aload_n hx hb dJ0_charAt_5068e_7 rfl (lv_at hl 0 rfl) ?_
    refine vk_getf hx hb c3 hS hown (hts _ tw_1_220) (fun _ h9 => h9) dJ0_charAt_5068e_8 ?_
    refine lv_iload_n hx hb dJ0_charAt_5068e_11 rfl (lv_at hl 1 rfl) ?_
    refine kS_i (A := A) (As := [.ref (G.2.2 (40 + i)), .int (nI j)]) (rest := []) ⟨hx, hb, hml, hown, hts⟩ (mJ1_charAt_3b067 (A := A) hi hj) (va_cwS 2 hts (gS tw_1_103 tw_1_104 tw_1_5 tw_1_105) rfl rfl rfl (by decide +kernel) ⟨Nat.le_of_ble_eq_true rfl, Nat.le_of_ble_eq_true rfl⟩) hC hS hA  trivial rfl rfl hl.1 (Nat.le_of_ble_eq_true rfl) ⟨Nat.zero_le _, Nat.zero_le _⟩ dJ0_charAt_5068e_12 (fun r9 h9 => lv_cv h9 ?_)
    have hc9 := stx_lt hi j
    exact p_g hx hb hr (nar_charN (by omega)) hlocks dJ0_charAt_5068e_15 rfl
end
