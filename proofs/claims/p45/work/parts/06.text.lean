/-! OWN LAYER, 3: texts as lists of codes; loops; ends of methods; words of the classes' fields -/
theorem inX0 : ∀ w ∈ u_ws RX0 TX0 2, w ∈ GW := by
  intro w hw
  simp only [u_ws, List.mem_map, List.mem_range] at hw
  obtain ⟨k, hk, rfl⟩ := hw
  match k, hk with
  | 0, _ => exact tw_1_46
  | 1, _ => exact tw_1_48
/-- codes are small -/
def okc (t : List Nat) : Prop := ∀ j : Nat, t.getD j 0 < 256
theorem okc_nil : okc [] := fun j => by simp
theorem okc_app {t u : List Nat} (h1 : okc t) (h2 : okc u) : okc (t ++ u) := fun j => by
  rw [List.getD_eq_getElem?_getD, List.getElem?_append]
  split
  · rw [← List.getD_eq_getElem?_getD]; exact h1 j
  · rw [← List.getD_eq_getElem?_getD]; exact h2 _
theorem okc_one {c : Nat} (h : c < 256) : okc [c] := fun j => by
  cases j with
  | zero => exact h
  | succ j => simp
theorem okc_take {t : List Nat} (h : okc t) (n : Nat) : okc (t.take n) := fun j => by
  rw [List.getD_eq_getElem?_getD, List.getElem?_take]
  split
  · rw [← List.getD_eq_getElem?_getD]; exact h j
  · decide
theorem okc_drop {t : List Nat} (h : okc t) (n : Nat) : okc (t.drop n) := fun j => by
  rw [List.getD_eq_getElem?_getD, List.getElem?_drop, ← List.getD_eq_getElem?_getD]; exact h _
/-- a part of a text -/
def cutL (t : List Nat) (i j : Nat) : List Nat := (t.drop i).take (j - i)
theorem okc_cut {t : List Nat} (h : okc t) (i j : Nat) : okc (cutL t i j) := okc_take (okc_drop h i) _
theorem cutL_len {t : List Nat} {i j : Nat} (h : j ≤ t.length) : (cutL t i j).length = j - i := by
  unfold cutL; rw [List.length_take, List.length_drop]; omega
theorem cutL_le (t : List Nat) (i j : Nat) : (cutL t i j).length ≤ t.length := by
  unfold cutL; rw [List.length_take, List.length_drop]; omega
theorem cutL_nil (t : List Nat) (i : Nat) : cutL t i i = [] := by unfold cutL; rw [Nat.sub_self]; rfl
theorem cutL_all (t : List Nat) : cutL t 0 t.length = t := by unfold cutL; rw [List.drop_zero, Nat.sub_zero, List.take_length]
theorem cutL_succ {t : List Nat} {i j : Nat} (h : i ≤ j) (hj : j < t.length) : cutL t i (j + 1) = cutL t i j ++ [t.getD j 0] := by
  unfold cutL
  rw [show j + 1 - i = (j - i) + 1 by omega, List.take_add_one, List.getElem?_drop, show i + (j - i) = j by omega, List.getElem?_eq_getElem hj, List.getD_eq_getElem?_getD, List.getElem?_eq_getElem hj]
  rfl
theorem getD_app1 {t u : List Nat} {j : Nat} (h : j < t.length) : (t ++ u).getD j 0 = t.getD j 0 := by
  rw [List.getD_eq_getElem?_getD, List.getElem?_append_left h, ← List.getD_eq_getElem?_getD]
theorem getD_last (t : List Nat) (c : Nat) : (t ++ [c]).getD t.length 0 = c := by
  rw [List.getD_eq_getElem?_getD, List.getElem?_append_right (Nat.le_refl _), Nat.sub_self]; rfl
/-- a text of at most 60 codes in the object a, its row the array ca -/
def LA (G : Cx) (a ca : Nat) (t : List Nat) (H : Heap) : Prop := t.length ≤ 60 ∧ okc t ∧ a ≠ ca ∧ va_at G.1 vwCl (a, .inr (4, [.ref ca, .int (nI t.length)])) H ∧ ∃ f : Nat → Int32, va_at G.1 vwCl (ca, .inl (G.2.1 1, 60, .inl f)) H ∧ ∀ j : Nat, j < t.length → f j = nI (t.getD j 0)
theorem LA.kp {G : Cx} {a ca : Nat} {t : List Nat} {X : Nat → Prop} {H H1 : Heap} (h : LA G a ca t H) (hk : kp X H H1) (h1 : ¬ X a) (h2 : ¬ X ca) : LA G a ca t H1 := by
  obtain ⟨q1, q2, q3, q4, f, q5, q6⟩ := h
  exact ⟨q1, q2, q3, at_kp q4 hk h1, f, at_kp q5 hk h2, q6⟩
theorem LA.lt {G : Cx} {a ca : Nat} {t : List Nat} {H : Heap} (h : LA G a ca t H) : a < H.size ∧ ca < H.size := ⟨h.2.2.2.1.lt, by obtain ⟨-, -, -, -, f, q, -⟩ := h; exact q.lt⟩
theorem LA.recv {G : Cx} {a ca : Nat} {t : List Nat} {H : Heap} {s : State} (h : LA G a ca t H) (hK : va_K G.1 vwCl (tyL G.2.1) s) : ∃ cell : Cell, H[a]? = some cell ∧ cell.vm.isStatics = false ∧ s.vm.findClass "Signtext$Line" = some cell.cls := at_recv hK h.2.2.2.1 (q := (RX0, TX0, 2)) rfl
theorem chr_id {n : Nat} (h : n < 65536) : ((nI n).toUInt32 % 65536).toInt32 = nI n := by
  rw [pk_char, pk_tn (by omega), Nat.mod_eq_of_lt h]
/-- loops: up to N, and down -/
theorem nloop {P : Nat → Prop} (N : Nat) (h : ∀ j, j ≤ N → (∀ k, j < k → k ≤ N → P k) → P j) : ∀ j, j ≤ N → P j := by
  have H : ∀ n j, N - j < n → j ≤ N → P j := by
    intro n
    induction n with
    | zero => intro j h1; exact absurd h1 (Nat.not_lt_zero _)
    | succ n ih => intro j h1 h2; exact h j h2 (fun k h3 h4 => ih k (by omega) h4)
  exact fun j hj => H (N - j + 1) j (Nat.lt_succ_self _) hj
theorem dloop {P : Nat → Prop} (h : ∀ j, (∀ k, k < j → P k) → P j) : ∀ j, P j := fun j => Nat.strongRecOn j (fun n ih => h n ih)
section ENDS
variable {p : Program} {l : Launch} {e : Env} {R : Room} {s : State} {m : MethodId} {args : Array Value} {below : List Frame} {meth : Method} {c : Code} {H : Heap} {locs : List Loc} {cells slots mc ms : Nat} {cc : ByteArray} {pc : Nat} {ls : Array Slot} {A : Nat → Prop}
theorem p_i {post : Int32 → Prop} {v : Int32} (hx : p.tables.exec = Jvm.exec) (hb : c.code = cc) (hr : meth.sig.returnType = some .int) (hlocks : meth.locks = false) (hd : decode cc pc = .ok (.ireturn, 1)) (hp : post v) : W p l e R s m args below meth c s.heap [] 0 0 (MQ below (vp_Si post) args s 0 0 (fun _ => False)) (F0 m pc ls [.int v]) :=
  W.iret hx hb hr (fun t ht hW => ⟨v, rfl, hp, ht⟩) (fun q h => by cases h) hd
theorem p_z {post : Int32 → Prop} {b : Bool} (hx : p.tables.exec = Jvm.exec) (hb : c.code = cc) (hr : meth.sig.returnType = some .boolean) (hlocks : meth.locks = false) (hd : decode cc pc = .ok (.ireturn, 1)) (hp : post (bI b)) : W p l e R s m args below meth c s.heap [] 0 0 (MQ below (vp_Si post) args s 0 0 (fun _ => False)) (F0 m pc ls [.int (bI b)]) :=
  W.zret hx hb hr (nar_bI b) (fun t ht hW => ⟨_, rfl, hp, ht⟩) (fun q h => by cases h) hd
theorem e_v {S9 : Type} {post : S9 → Prop} {B : S9 → Heap → Prop} (u : S9) (hx : p.tables.exec = Jvm.exec) (hb : c.code = cc) (hr : meth.sig.returnType = none) (hlocks : meth.locks = false) (hd : decode cc pc = .ok (.return_, 1)) (hS : va_S A s.heap H locs) (hc : cells ≤ mc) (hs : slots ≤ ms) (hp : post u) (hB : B u H) : W p l e R s m args below meth c H locs cells slots (MQ below (va_Qv post (fun u t => B u t.heap) A) args s mc ms A) (F0 m pc ls []) :=
  W.widen hc hs (W.vret hx hb hr (fun t ht hW => ⟨⟨u, rfl, hp, show B u t.heap from ht ▸ hB⟩, hS.F ht⟩) hS.2.2 hd)
theorem e_i {S9 : Type} {post : Int32 → S9 → Prop} {B : S9 → Heap → Prop} {v : Int32} (u : S9) (hx : p.tables.exec = Jvm.exec) (hb : c.code = cc) (hr : meth.sig.returnType = some .int) (hlocks : meth.locks = false) (hd : decode cc pc = .ok (.ireturn, 1)) (hS : va_S A s.heap H locs) (hc : cells ≤ mc) (hs : slots ≤ ms) (hp : post v u) (hB : B u H) : W p l e R s m args below meth c H locs cells slots (MQ below (va_Qi post (fun u t => B u t.heap) A) args s mc ms A) (F0 m pc ls [.int v]) :=
  W.widen hc hs (W.iret hx hb hr (fun t ht hW => ⟨⟨v, u, rfl, hp, show B u t.heap from ht ▸ hB⟩, hS.F ht⟩) hS.2.2 hd)
theorem e_z {S9 : Type} {post : Int32 → S9 → Prop} {B : S9 → Heap → Prop} {b : Bool} (u : S9) (hx : p.tables.exec = Jvm.exec) (hb : c.code = cc) (hr : meth.sig.returnType = some .boolean) (hlocks : meth.locks = false) (hd : decode cc pc = .ok (.ireturn, 1)) (hS : va_S A s.heap H locs) (hc : cells ≤ mc) (hs : slots ≤ ms) (hp : post (bI b) u) (hB : B u H) : W p l e R s m args below meth c H locs cells slots (MQ below (va_Qi post (fun u t => B u t.heap) A) args s mc ms A) (F0 m pc ls [.int (bI b)]) :=
  W.widen hc hs (W.zret hx hb hr (nar_bI b) (fun t ht hW => ⟨⟨_, u, rfl, hp, show B u t.heap from ht ▸ hB⟩, hS.F ht⟩) hS.2.2 hd)
theorem e_a {S9 : Type} {post : S9 → Prop} {B : S9 → Nat → Heap → Prop} {a : Nat} {C : String} (u : S9) (hx : p.tables.exec = Jvm.exec) (hb : c.code = cc) (hr : meth.sig.returnType = some (.object C)) (hlocks : meth.locks = false) (hd : decode cc pc = .ok (.areturn, 1)) (hS : va_S A s.heap H locs) (hc : cells ≤ mc) (hs : slots ≤ ms) (hp : post u) (hB : B u a H) : W p l e R s m args below meth c H locs cells slots (MQ below (va_Qr post (fun u a t => B u a t.heap) A) args s mc ms A) (F0 m pc ls [.ref a]) :=
  W.widen hc hs (W.aret hx hb hr (Or.inl ⟨C, rfl⟩) (Or.inr ⟨a, rfl⟩) (fun t ht hW => ⟨⟨u, a, rfl, hp, show B u a t.heap from ht ▸ hB⟩, hS.F ht⟩) hS.2.2 hd)
end ENDS
