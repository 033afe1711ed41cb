section
-- ===== PART A: goes FIRST, ahead of the names: the tables' words, and 'selects' of the private methods out of them =====
/-- a private method of a class that the tables say can be made, by its rows of tables_1 -/
def lw_okq (q : MethodName × Nat) : Prop := (q.1.cls ≠ "java/lang/invoke/MethodHandle" ∧ q.1.cls ≠ "java/lang/invoke/VarHandle") ∧ Cond.instantiable q.1.cls q.2 ∈ tables_1 ∧ Cond.privateMethod q.1 ∈ tables_1 ∧ Cond.instanceMethod q.1 ∈ tables_1
theorem lw_p0 : lw_okq (⟨"Signtext", "isSoundAlone", "(LSigntext$Line;)Z"⟩, 8) := ⟨⟨by decide +kernel, by decide +kernel⟩, List.mem_of_getElem? (i := 30) (by decide +kernel), List.mem_of_getElem? (i := 236) (by decide +kernel), List.mem_of_getElem? (i := 237) (by decide +kernel)⟩
theorem lw_p1 : lw_okq (⟨"Signtext", "isSameTakenAgain", "(LSigntext$Line;)Z"⟩, 8) := ⟨⟨by decide +kernel, by decide +kernel⟩, List.mem_of_getElem? (i := 30) (by decide +kernel), List.mem_of_getElem? (i := 240) (by decide +kernel), List.mem_of_getElem? (i := 241) (by decide +kernel)⟩
theorem lw_p2 : lw_okq (⟨"Signtext", "isSameInTwoParts", "(LSigntext$Line;)Z"⟩, 8) := ⟨⟨by decide +kernel, by decide +kernel⟩, List.mem_of_getElem? (i := 30) (by decide +kernel), List.mem_of_getElem? (i := 267) (by decide +kernel), List.mem_of_getElem? (i := 268) (by decide +kernel)⟩
theorem lw_p3 : lw_okq (⟨"Signtext", "isSameTrimmedAgain", "(LSigntext$Line;Z)Z"⟩, 8) := ⟨⟨by decide +kernel, by decide +kernel⟩, List.mem_of_getElem? (i := 30) (by decide +kernel), List.mem_of_getElem? (i := 280) (by decide +kernel), List.mem_of_getElem? (i := 281) (by decide +kernel)⟩
theorem lw_p4 : lw_okq (⟨"Signtext", "partInto", "(LSigntext$Line;IILSigntext$Line;)I"⟩, 8) := ⟨⟨by decide +kernel, by decide +kernel⟩, List.mem_of_getElem? (i := 30) (by decide +kernel), List.mem_of_getElem? (i := 296) (by decide +kernel), List.mem_of_getElem? (i := 297) (by decide +kernel)⟩
theorem lw_p5 : lw_okq (⟨"Signtext", "isSameOfPieces", "(LSigntext$Line;)Z"⟩, 8) := ⟨⟨by decide +kernel, by decide +kernel⟩, List.mem_of_getElem? (i := 30) (by decide +kernel), List.mem_of_getElem? (i := 300) (by decide +kernel), List.mem_of_getElem? (i := 301) (by decide +kernel)⟩
theorem lw_p6 : lw_okq (⟨"Signtext$Pieces", "addEnd", "(I)V"⟩, 3) := ⟨⟨by decide +kernel, by decide +kernel⟩, List.mem_of_getElem? (i := 53) (by decide +kernel), List.mem_of_getElem? (i := 311) (by decide +kernel), List.mem_of_getElem? (i := 312) (by decide +kernel)⟩
theorem lw_p7 : lw_okq (⟨"Signtext", "signsOfAll", "()I"⟩, 8) := ⟨⟨by decide +kernel, by decide +kernel⟩, List.mem_of_getElem? (i := 30) (by decide +kernel), List.mem_of_getElem? (i := 369) (by decide +kernel), List.mem_of_getElem? (i := 370) (by decide +kernel)⟩
theorem lw_p8 : lw_okq (⟨"Signtext", "emptyOnes", "()I"⟩, 8) := ⟨⟨by decide +kernel, by decide +kernel⟩, List.mem_of_getElem? (i := 30) (by decide +kernel), List.mem_of_getElem? (i := 373) (by decide +kernel), List.mem_of_getElem? (i := 374) (by decide +kernel)⟩
theorem lw_p9 : lw_okq (⟨"java/lang/Throwable", "fillInStackTrace", "(I)Ljava/lang/Throwable;"⟩, 6) := ⟨⟨by decide +kernel, by decide +kernel⟩, List.mem_of_getElem? (i := 415) (by decide +kernel), List.mem_of_getElem? (i := 413) (by decide +kernel), List.mem_of_getElem? (i := 414) (by decide +kernel)⟩
theorem lw_p10 : lw_okq (⟨"Signtext", "textOf", "(I)LSigntext$Line;"⟩, 8) := ⟨⟨by decide +kernel, by decide +kernel⟩, List.mem_of_getElem? (i := 30) (by decide +kernel), List.mem_of_getElem? (i := 485) (by decide +kernel), List.mem_of_getElem? (i := 486) (by decide +kernel)⟩
theorem lw_p11 : lw_okq (⟨"Signtext", "addSignOrNone", "(I)V"⟩, 8) := ⟨⟨by decide +kernel, by decide +kernel⟩, List.mem_of_getElem? (i := 30) (by decide +kernel), List.mem_of_getElem? (i := 504) (by decide +kernel), List.mem_of_getElem? (i := 505) (by decide +kernel)⟩
theorem lw_p12 : lw_okq (⟨"Signtext", "joinInto", "(LSigntext$Line;LSigntext$Line;LSigntext$Line;)I"⟩, 8) := ⟨⟨by decide +kernel, by decide +kernel⟩, List.mem_of_getElem? (i := 30) (by decide +kernel), List.mem_of_getElem? (i := 513) (by decide +kernel), List.mem_of_getElem? (i := 514) (by decide +kernel)⟩
theorem lw_p13 : lw_okq (⟨"Signtext", "addMade", "(LSigntext$Line;Z)I"⟩, 8) := ⟨⟨by decide +kernel, by decide +kernel⟩, List.mem_of_getElem? (i := 30) (by decide +kernel), List.mem_of_getElem? (i := 608) (by decide +kernel), List.mem_of_getElem? (i := 609) (by decide +kernel)⟩
theorem lw_p14 : lw_okq (⟨"Signtext", "knownOf", "(I)LSigntext$Line;"⟩, 8) := ⟨⟨by decide +kernel, by decide +kernel⟩, List.mem_of_getElem? (i := 30) (by decide +kernel), List.mem_of_getElem? (i := 643) (by decide +kernel), List.mem_of_getElem? (i := 644) (by decide +kernel)⟩
theorem lw_p15 : lw_okq (⟨"Signtext", "needPiece", "(I)V"⟩, 8) := ⟨⟨by decide +kernel, by decide +kernel⟩, List.mem_of_getElem? (i := 30) (by decide +kernel), List.mem_of_getElem? (i := 696) (by decide +kernel), List.mem_of_getElem? (i := 697) (by decide +kernel)⟩
def lw_privs_1 : List (MethodName × Nat) := [(⟨"Signtext", "isSoundAlone", "(LSigntext$Line;)Z"⟩, 8), (⟨"Signtext", "isSameTakenAgain", "(LSigntext$Line;)Z"⟩, 8), (⟨"Signtext", "isSameInTwoParts", "(LSigntext$Line;)Z"⟩, 8), (⟨"Signtext", "isSameTrimmedAgain", "(LSigntext$Line;Z)Z"⟩, 8), (⟨"Signtext", "partInto", "(LSigntext$Line;IILSigntext$Line;)I"⟩, 8), (⟨"Signtext", "isSameOfPieces", "(LSigntext$Line;)Z"⟩, 8), (⟨"Signtext$Pieces", "addEnd", "(I)V"⟩, 3), (⟨"Signtext", "signsOfAll", "()I"⟩, 8), (⟨"Signtext", "emptyOnes", "()I"⟩, 8), (⟨"java/lang/Throwable", "fillInStackTrace", "(I)Ljava/lang/Throwable;"⟩, 6), (⟨"Signtext", "textOf", "(I)LSigntext$Line;"⟩, 8), (⟨"Signtext", "addSignOrNone", "(I)V"⟩, 8), (⟨"Signtext", "joinInto", "(LSigntext$Line;LSigntext$Line;LSigntext$Line;)I"⟩, 8), (⟨"Signtext", "addMade", "(LSigntext$Line;Z)I"⟩, 8), (⟨"Signtext", "knownOf", "(I)LSigntext$Line;"⟩, 8), (⟨"Signtext", "needPiece", "(I)V"⟩, 8)]
theorem lw_r1 : ∀ q ∈ lw_privs_1, lw_okq q := List.forall_mem_cons.mpr ⟨lw_p0, List.forall_mem_cons.mpr ⟨lw_p1, List.forall_mem_cons.mpr ⟨lw_p2, List.forall_mem_cons.mpr ⟨lw_p3, List.forall_mem_cons.mpr ⟨lw_p4, List.forall_mem_cons.mpr ⟨lw_p5, List.forall_mem_cons.mpr ⟨lw_p6, List.forall_mem_cons.mpr ⟨lw_p7, List.forall_mem_cons.mpr ⟨lw_p8, List.forall_mem_cons.mpr ⟨lw_p9, List.forall_mem_cons.mpr ⟨lw_p10, List.forall_mem_cons.mpr ⟨lw_p11, List.forall_mem_cons.mpr ⟨lw_p12, List.forall_mem_cons.mpr ⟨lw_p13, List.forall_mem_cons.mpr ⟨lw_p14, List.forall_mem_cons.mpr ⟨lw_p15, fun _ h => absurd h List.not_mem_nil⟩⟩⟩⟩⟩⟩⟩⟩⟩⟩⟩⟩⟩⟩⟩⟩
theorem lw_p16 : lw_okq (⟨"Signtext", "pieceInto", "(ILSigntext$Line;)I"⟩, 8) := ⟨⟨by decide +kernel, by decide +kernel⟩, List.mem_of_getElem? (i := 30) (by decide +kernel), List.mem_of_getElem? (i := 700) (by decide +kernel), List.mem_of_getElem? (i := 701) (by decide +kernel)⟩
theorem lw_p17 : lw_okq (⟨"SigntextModel", "start", "(ZI)Z"⟩, 5) := ⟨⟨by decide +kernel, by decide +kernel⟩, List.mem_of_getElem? (i := 856) (by decide +kernel), List.mem_of_getElem? (i := 927) (by decide +kernel), List.mem_of_getElem? (i := 928) (by decide +kernel)⟩
theorem lw_p18 : lw_okq (⟨"SigntextModel", "refuse", "(ZI)Z"⟩, 5) := ⟨⟨by decide +kernel, by decide +kernel⟩, List.mem_of_getElem? (i := 856) (by decide +kernel), List.mem_of_getElem? (i := 931) (by decide +kernel), List.mem_of_getElem? (i := 932) (by decide +kernel)⟩
theorem lw_p19 : lw_okq (⟨"SigntextModel", "become", "(I[I)I"⟩, 5) := ⟨⟨by decide +kernel, by decide +kernel⟩, List.mem_of_getElem? (i := 856) (by decide +kernel), List.mem_of_getElem? (i := 935) (by decide +kernel), List.mem_of_getElem? (i := 936) (by decide +kernel)⟩
theorem lw_p20 : lw_okq (⟨"SigntextModel", "beside", "(I[IZ)I"⟩, 5) := ⟨⟨by decide +kernel, by decide +kernel⟩, List.mem_of_getElem? (i := 856) (by decide +kernel), List.mem_of_getElem? (i := 990) (by decide +kernel), List.mem_of_getElem? (i := 991) (by decide +kernel)⟩
theorem lw_p21 : lw_okq (⟨"SigntextModel", "isNoPlace", "(I)Z"⟩, 5) := ⟨⟨by decide +kernel, by decide +kernel⟩, List.mem_of_getElem? (i := 856) (by decide +kernel), List.mem_of_getElem? (i := 1027) (by decide +kernel), List.mem_of_getElem? (i := 1028) (by decide +kernel)⟩
theorem lw_p22 : lw_okq (⟨"java/util/ArrayList", "add", "(Ljava/lang/Object;[Ljava/lang/Object;I)V"⟩, 3) := ⟨⟨by decide +kernel, by decide +kernel⟩, List.mem_of_getElem? (i := 864) (by decide +kernel), List.mem_of_getElem? (i := 1050) (by decide +kernel), List.mem_of_getElem? (i := 1051) (by decide +kernel)⟩
theorem lw_p23 : lw_okq (⟨"java/util/ArrayList", "grow", "()[Ljava/lang/Object;"⟩, 3) := ⟨⟨by decide +kernel, by decide +kernel⟩, List.mem_of_getElem? (i := 864) (by decide +kernel), List.mem_of_getElem? (i := 1054) (by decide +kernel), List.mem_of_getElem? (i := 1055) (by decide +kernel)⟩
theorem lw_p24 : lw_okq (⟨"java/util/ArrayList", "grow", "(I)[Ljava/lang/Object;"⟩, 3) := ⟨⟨by decide +kernel, by decide +kernel⟩, List.mem_of_getElem? (i := 864) (by decide +kernel), List.mem_of_getElem? (i := 1058) (by decide +kernel), List.mem_of_getElem? (i := 1059) (by decide +kernel)⟩
theorem lw_p25 : lw_okq (⟨"java/util/ArrayList", "fastRemove", "([Ljava/lang/Object;I)V"⟩, 3) := ⟨⟨by decide +kernel, by decide +kernel⟩, List.mem_of_getElem? (i := 864) (by decide +kernel), List.mem_of_getElem? (i := 1130) (by decide +kernel), List.mem_of_getElem? (i := 1131) (by decide +kernel)⟩
theorem lw_p26 : lw_okq (⟨"SigntextModel", "isNoPiece", "(I)Z"⟩, 5) := ⟨⟨by decide +kernel, by decide +kernel⟩, List.mem_of_getElem? (i := 856) (by decide +kernel), List.mem_of_getElem? (i := 1139) (by decide +kernel), List.mem_of_getElem? (i := 1140) (by decide +kernel)⟩
theorem lw_p27 : lw_okq (⟨"SigntextModel", "areNone", "(II)Z"⟩, 5) := ⟨⟨by decide +kernel, by decide +kernel⟩, List.mem_of_getElem? (i := 856) (by decide +kernel), List.mem_of_getElem? (i := 1405) (by decide +kernel), List.mem_of_getElem? (i := 1406) (by decide +kernel)⟩
theorem lw_p28 : lw_okq (⟨"SigntextModel", "houseTold", "(I)I"⟩, 5) := ⟨⟨by decide +kernel, by decide +kernel⟩, List.mem_of_getElem? (i := 856) (by decide +kernel), List.mem_of_getElem? (i := 1455) (by decide +kernel), List.mem_of_getElem? (i := 1456) (by decide +kernel)⟩
theorem lw_p29 : lw_okq (⟨"SigntextModel", "isTrue", "()Z"⟩, 5) := ⟨⟨by decide +kernel, by decide +kernel⟩, List.mem_of_getElem? (i := 856) (by decide +kernel), List.mem_of_getElem? (i := 1463) (by decide +kernel), List.mem_of_getElem? (i := 1464) (by decide +kernel)⟩
def lw_privs_2 : List (MethodName × Nat) := [(⟨"Signtext", "pieceInto", "(ILSigntext$Line;)I"⟩, 8), (⟨"SigntextModel", "start", "(ZI)Z"⟩, 5), (⟨"SigntextModel", "refuse", "(ZI)Z"⟩, 5), (⟨"SigntextModel", "become", "(I[I)I"⟩, 5), (⟨"SigntextModel", "beside", "(I[IZ)I"⟩, 5), (⟨"SigntextModel", "isNoPlace", "(I)Z"⟩, 5), (⟨"java/util/ArrayList", "add", "(Ljava/lang/Object;[Ljava/lang/Object;I)V"⟩, 3), (⟨"java/util/ArrayList", "grow", "()[Ljava/lang/Object;"⟩, 3), (⟨"java/util/ArrayList", "grow", "(I)[Ljava/lang/Object;"⟩, 3), (⟨"java/util/ArrayList", "fastRemove", "([Ljava/lang/Object;I)V"⟩, 3), (⟨"SigntextModel", "isNoPiece", "(I)Z"⟩, 5), (⟨"SigntextModel", "areNone", "(II)Z"⟩, 5), (⟨"SigntextModel", "houseTold", "(I)I"⟩, 5), (⟨"SigntextModel", "isTrue", "()Z"⟩, 5)]
theorem lw_r2 : ∀ q ∈ lw_privs_2, lw_okq q := List.forall_mem_cons.mpr ⟨lw_p16, List.forall_mem_cons.mpr ⟨lw_p17, List.forall_mem_cons.mpr ⟨lw_p18, List.forall_mem_cons.mpr ⟨lw_p19, List.forall_mem_cons.mpr ⟨lw_p20, List.forall_mem_cons.mpr ⟨lw_p21, List.forall_mem_cons.mpr ⟨lw_p22, List.forall_mem_cons.mpr ⟨lw_p23, List.forall_mem_cons.mpr ⟨lw_p24, List.forall_mem_cons.mpr ⟨lw_p25, List.forall_mem_cons.mpr ⟨lw_p26, List.forall_mem_cons.mpr ⟨lw_p27, List.forall_mem_cons.mpr ⟨lw_p28, List.forall_mem_cons.mpr ⟨lw_p29, fun _ h => absurd h List.not_mem_nil⟩⟩⟩⟩⟩⟩⟩⟩⟩⟩⟩⟩⟩⟩
def lw_privs : List (MethodName × Nat) := lw_privs_1 ++ (lw_privs_2)
def lw_tbl : List Cond := k2_sels lw_privs ++ tables_1
theorem lw_privs_ok : ∀ q ∈ lw_privs, lw_okq q := by
  show ∀ q ∈ lw_privs_1 ++ (lw_privs_2), lw_okq q
  exact List.forall_mem_append.mpr ⟨lw_r1, lw_r2⟩
-- ===== end of PART A; then your names; then what follows =====
end
section
/-! ===== BEGIN words of one list among another's, by their places ===== -/
theorem goodIn_r {big : List Cond} (ws : List Cond) (ps : List Nat) (hp : ws = ps.filterMap (fun i => big[i]?)) (h : ws.all goodWord = true) : GoodIn big ws := by
  intro w hw
  have h1 := List.all_eq_true.mp h w hw
  rw [hp] at hw
  obtain ⟨i, -, hi⟩ := List.mem_filterMap.mp hw
  have hm : w ∈ big := by first | exact List.mem_of_getElem? hi | exact List.getElem?_mem hi
  exact ⟨hm, good_of_word h1⟩
theorem goodIn_app {big a b : List Cond} (ha : GoodIn big a) (hb : GoodIn big b) : GoodIn big (a ++ b) := fun w h => (List.mem_append.mp h).elim (ha w) (hb w)
theorem goodIn_ca {big a b : List Cond} {c : Cond} (ha : GoodIn big (c :: a)) (hb : GoodIn big b) : GoodIn big (c :: (a ++ b)) := fun w h => (List.mem_cons.mp h).elim (fun e => ha w (List.mem_cons.mpr (Or.inl e))) (fun h => (List.mem_append.mp h).elim (fun h => ha w (List.mem_cons.mpr (Or.inr h))) (hb w))
theorem goodIn_sub {big ws : List Cond} (hm : ∀ w ∈ ws, w ∈ big) (h : ws.all goodWord = true) : GoodIn big ws := fun w hw => ⟨hm w hw, good_of_word (List.all_eq_true.mp h w hw)⟩
/-! ===== END ===== -/

/-! ===== BEGIN new T[n][m]: the outer array a place, the inner ones among the pooled ===== -/
/-- f, but v at every address of l -/
def vr_up {α : Type} (f : Nat → α) (l : List Nat) (v : α) : Nat → α := fun a => if a ∈ l then v else f a
theorem vr_up_in {α : Type} {f : Nat → α} {l : List Nat} {v : α} {a : Nat} (h : a ∈ l) : vr_up f l v a = v := if_pos h
theorem vr_up_ne {α : Type} {f : Nat → α} {l : List Nat} {v : α} {a : Nat} (h : a ∉ l) : vr_up f l v a = f a := if_neg h
theorem vr_rows {L l : List Nat} {f : Nat → va_E} {e : va_E} (h : ∀ a, a ∈ l → a ∉ L) : va_pl L f ++ l.map (fun a => (a, e)) = va_pl (L ++ l) (vr_up f l e) := by
  unfold va_pl
  rw [List.map_append]
  congr 1
  · apply List.map_congr_left
    intro a ha
    rw [vr_up_ne (fun q => h a q ha)]
  · apply List.map_congr_left
    intro a ha
    rw [vr_up_in ha]
theorem vr_lay {X rows : va_W} {x : Nat × va_E} {pl : va_W} {D : va_G} {cl : List vw_C} {H : Heap} (hP : va_P D cl (((X ++ pl) ++ [x]) ++ rows) H) : va_P D cl ((X ++ [x]) ++ (pl ++ rows)) H := by
  rw [List.append_assoc (X ++ pl)] at hP
  have h := va_P.swap hP
  rw [← List.append_assoc X] at h
  have h2 := va_P.swap h
  rw [List.append_assoc (X ++ [x])] at h2
  exact h2
theorem vr_layD {X rows : va_W} {x : Nat × va_E} {pl : va_W} {A : Nat → Prop} (hD : va_D A (((X ++ pl) ++ [x]) ++ rows)) : va_D A ((X ++ [x]) ++ (pl ++ rows)) := by
  rw [List.append_assoc (X ++ pl)] at hD
  have h := va_D.swap hD
  rw [← List.append_assoc X] at h
  have h2 := va_D.swap h
  rw [List.append_assoc (X ++ [x])] at h2
  exact h2
theorem vr_outer (c : ClassId) (N h0 : Nat) : ∀ i : Nat, Jvm.Free.Multi.outerC c N h0 i = arrV c N (fun j => va_rf (if j < i then some (h0 + 1 + j) else none))
  | 0 => by
    show ({ cls := c, slots := Array.replicate N .null, vm := .none } : Cell) = _
    rw [arrV_new]
    refine congrArg (arrV c N) (funext fun j => ?_)
    simp [va_rf]
  | i + 1 => by
    show (Jvm.Free.Multi.outerC c N h0 i).setSlot i (.ref (h0 + 1 + i)) = _
    rw [vr_outer c N h0 i, arrV_store]
    refine congrArg (arrV c N) (funext fun j => ?_)
    by_cases e : j = i
    · subst e
      simp [updV, va_rf]
    · by_cases h : j < i
      · simp [updV, e, h, Nat.lt_succ_of_lt h]
      · simp [updV, e, h, show ¬ j < i + 1 by omega]
/-! ===== END ===== -/

/-! ===== BEGIN exceptions that leave a method, and their catching by the caller (launches without stack traces) ===== -/
section VXA
/-! The laws vx_back, vx_callV, vx_callS, vx_callSW, vx_throw0, vx_throwS follow proofs of the library, with one case more: JvmDerived/Free/Laws.lean (Back.of_free), Shelf42/LK1.lean (callV, callS), Shelf/KitTraced.lean (throwNew0V, throwNewS). -/
/-- where a method has thrown q: the class by its name, the cell, what was written, the world -/
def vx_T (XC : String → State → State → Prop) (st : State) (q : Addr) (t : State) (mc ms : Nat) (free : Addr → Prop) : Prop :=
  ∃ (E : String) (ce : Cell) (L : List Loc), XC E st t ∧ t.heap[q]? = some ce ∧ ce.vm = .none ∧ st.vm.findClass E = some ce.cls ∧ st.WarmedH t.vm ∧ st.sameButNew ({ t with vm := st.vm } : State) L mc ms ∧ ∀ z ∈ L, free z.base
def vx_Q (Qc : Array Value → State → Outcome → State → Prop) (XC : String → State → State → Prop) (mc ms : Nat) (free : Addr → Prop) : Array Value → State → Outcome → State → Prop := fun a st o t =>
  (Qc a st o t ∧ ∃ L, FrameEnd st o t L mc ms ∧ ∀ q ∈ L, free q.base) ∨ ∃ q, o = .threw q ∧ vx_T XC st q t mc ms free
/-- a callee that returns or throws -/
def vx_Met (l : Launch) (y : MethodName) (ws : List Cond) (rm : Room) (Pc : Array Value → State → Prop) (Qc : Array Value → State → Outcome → State → Prop) (XC : String → State → State → Prop) (mc ms : Nat) (free : Addr → Prop) : Prop :=
  MetFree l y (headSpec ws rm) Pc (fun _ _ _ _ _ => True) (vx_Q Qc XC mc ms free)
def vx_Post (XC : String → State → State → Prop) (mc ms : Nat) (free : Addr → Prop) : Pt → Array Value → Addr → Pt → Prop := fun A a q B =>
  ∃ (g : JFrame) (mk : MethodId) (t : State) (L : List Loc) (E : String) (ce : Cell), B.U.heap = t.heap ∧ B.U.vm = t.vm ∧ XC E (A.U.calling g mk a) t ∧ t.heap[q]? = some ce ∧ ce.vm = .none ∧ A.U.vm.findClass E = some ce.cls ∧ B.locs = A.locs ++ L ∧ (∀ z ∈ L, free z.base) ∧ B.cells = A.cells + mc ∧ B.slots = A.slots + ms
def vx_Back (l : Launch) (R : Room) (p : Program) (e : Env) (below : List Frame) (s : State) (sargs : Array Value) (y : MethodName) (len W9 : Nat)
    (Pre : Pt → Array Value → Prop) (Post : Pt → Array Value → Option Value → Pt → Prop) (PostX : Pt → Array Value → Addr → Pt → Prop) : Prop :=
  ∀ (m : MethodId) (meth : Method) (c : Code) (A : Pt) (g : JFrame) (ig : Instr) (mk : MethodId) (a : Array Value),
    Stand p l e R s m sargs below meth c A.U A.locs A.cells A.slots → g.method = m → g.locals.size = c.maxLocals → decode c.code g.pc = .ok (ig, len) →
    2 * g.monitorRoom + (g.stack.map fun v => v.category).sum ≤ W9 → A.U.methodNamed? y = some mk → Pre A a →
    (∃ (v : Option Value) (B : Pt), Stand p l e R s m sargs below meth c B.U B.locs B.cells B.slots ∧ Post A a v B ∧
      Steps p.tables e below (doInvoke e (A.U.setTop g) [] mk a).1 (B.U.setTop { g with pc := g.pc + len, stack := v.toList ++ g.stack })) ∨
    (∃ (q : Addr) (B : Pt), Stand p l e R s m sargs below meth c B.U B.locs B.cells B.slots ∧ PostX A a q B ∧
      Steps p.tables e below (doInvoke e (A.U.setTop g) [] mk a).1 ((B.U.setTop g).pushFrame (.throwing q)))
section Payer
variable {l : Launch} {R : Room} {p : Program} {e : Env} {below : List Frame} {s : State} {sargs : Array Value} {y : MethodName} {len W9 : Nat}
theorem vx_back {ws : List Cond} {rm : Room} {Pc : Array Value → State → Prop} {Qc : Array Value → State → Outcome → State → Prop} {XC : String → State → State → Prop} {mc ms : Nat} {free : Addr → Prop} {bytes : ByteArray} {maxL : Nat} {ret : Option FieldType}
    (hM : vx_Met l y ws rm Pc Qc XC mc ms free) (hblind : FrameBlind Pc) (hrc : rm.cells = mc) (hrs : rm.slots = ms)
    (hframes : rm.frames + 1 ≤ R.frames) (hlocals : W9 + (maxL + 11) + rm.locals ≤ R.locals)
    (hws : ∀ w ∈ ws, ∀ a' U, s.WarmedH U.vm → w.before a' U = true) (hcode : Cond.code y bytes maxL ret ∈ ws) (hinit : ∀ a' U, s.WarmedH U.vm → (Cond.initialized y.cls).before a' U = true) :
    vx_Back l R p e below s sargs y len W9 (PreOf R mc ms Pc) (PostOf Qc mc ms free) (vx_Post XC mc ms free) := by
  intro m meth c A g ig mk a X hg hsize hdg hW hn hp
  have h1 : (headSpec ws rm).pre.before a A.U = true := atoms_intro fun w hw => hws w hw _ _ X.warmed
  have h2 : (Cond.code y bytes maxL ret).before a A.U = true := hws _ hcode _ _ X.warmed
  have h3 : (Cond.initialized y.cls).before a A.U = true := hinit _ _ X.warmed
  have h4 : A.cells + (headSpec ws rm).room.cells ≤ R.cells := by rw [show (headSpec ws rm).room.cells = mc from hrc]; exact hp.1
  have h5 : A.slots + (headSpec ws rm).room.slots ≤ R.slots := by rw [show (headSpec ws rm).room.slots = ms from hrs]; exact hp.2.1
  have hPc : Pc a (A.U.calling g mk a) := hblind _ _ _ _ hp.2.2
  obtain ⟨U, Ls, c0, s0⟩ := A
  dsimp only [Pt.U, Pt.locs, Pt.cells, Pt.slots] at h1 h2 h3 h4 h5 X hn hPc ⊢
  obtain ⟨methY, cY, hmY, hcY, -, hlY, -, -, -, -⟩ := Cond.code_spec hn h2
  obtain ⟨kY, hkY, -⟩ := className_of_methodNamed hn
  have hinitY : kY.init = .initialized := Cond.initialized_spec (findClass_of_methodNamed hn) hkY h3
  have h : At U g.method c below := by rw [hg]; exact X.here
  have hlocals9 : W9 + (maxL + 11) + (headSpec ws rm).room.locals ≤ R.locals := hlocals
  have happ : (headSpec ws rm).appliesLoose y e.platform (U.calling g mk a) = true :=
    Spec.appliesLoose_calling (g := g) h hdg hn hkY hinitY
      (X.room_calling (g := g) (R' := (headSpec ws rm).room) hsize hmY hcY hframes (by rw [hlY]; omega) h4 h5) h1
  obtain ⟨mid, hmid⟩ := h.above
  have hfr : (U.setTop g).frames = (.java g :: mid) ++ below := by rw [State.frames_setTop' g h.top, hmid]; rfl
  obtain ⟨o, s₂, hsteps, -, hend, hq⟩ := Steps.callFree hM p X.admits X.cas X.clock (acts := []) hfr happ hPc trivial
  have hq' : vx_Q Qc XC mc ms free a (U.calling g mk a) o s₂ := hq
  rw [State.frames_setTop' g h.top] at hend
  obtain ⟨g₀, hg0⟩ := Option.isSome_iff_exists.mp h.top
  obtain ⟨r, hr⟩ := State.topJava?_eq_some.mp hg0
  have hr' : (({ U with heap := s₂.heap, slotsUsed := s₂.slotsUsed } : State).setVm s₂.vm).frames = .java g₀ :: r := hr
  rcases hq' with ⟨hqc, L, hfe, hL⟩ | ⟨q, rfl, E, ce, L, hx, hce, hcv, hcl, hW₂, hsm, hL⟩
  · obtain ⟨⟨v, rfl⟩, hW₂, e2, q2, q3, q4, q5, q6⟩ := id hfe
    have e3 : s₂ = ({ (U.calling g mk a).setFrames s₂.frames with heap := s₂.heap, slotsUsed := s₂.slotsUsed } : State).setVm s₂.vm := by
      have : s₂ = ({ s₂ with vm := (U.calling g mk a).vm } : State).setVm s₂.vm := rfl
      rw [e2] at this
      exact this
    obtain ⟨c₂, i₂, len₂, hc₂, hd₂, hf₂⟩ := hend
    have hW' : U.WarmedH s₂.vm := hW₂
    have hcc : c₂ = c := by
      have h1 : s₂.code? g.method = U.code? g.method := by
        rw [State.code?_eq, State.code?_eq, hW'.alike.method?]
      exact Option.some.inj (hc₂.symm.trans (h1.trans h.code))
    subst hcc
    have hlen : len₂ = len := by rw [hdg] at hd₂; cases hd₂; rfl
    subst hlen
    have hs₂ : s₂ = (({ U with heap := s₂.heap, slotsUsed := s₂.slotsUsed } : State).setVm s₂.vm).setTop { g with pc := g.pc + len₂, stack := v.toList ++ g.stack } := by
      refine e3.trans ?_
      rw [hf₂, State.calling_eq h.top, State.setFrames_setFrames, State.setTop_of_frames _ hr', hr]
      rfl
    have hsame : U.sameButNew ({ U with heap := s₂.heap, slotsUsed := s₂.slotsUsed } : State) L mc ms := by
      refine ⟨?_, q2, q3, q4, q5, q6⟩
      obtain ⟨t, ht, -⟩ := State.frames_cons hr
      show ({ U with heap := s₂.heap, slotsUsed := s₂.slotsUsed } : State) = { U.setFrames U.frames with heap := s₂.heap, slotsUsed := s₂.slotsUsed }
      rw [State.setFrames_self ht]
    subst hg
    refine Or.inl ⟨v, ⟨(({ U with heap := s₂.heap, slotsUsed := s₂.slotsUsed } : State).setVm s₂.vm), Ls ++ L, c0 + mc, s0 + ms⟩,
      ⟨X.admits, X.cas, X.clock, X.frames, X.room, X.hears, X.method, X.code, (X.here.setHeapUsed s₂.heap s₂.slotsUsed).setVm hW'.alike, X.tail, State.WarmedH.trans X.warmed hW', X.limits, X.bytes, X.same.trans (hsame.setVm s.vm)⟩,
      ⟨g, mk, s₂, L, rfl, rfl, hqc, rfl, hL, rfl, rfl⟩, ?_⟩
    show Steps p.tables e below _ ((({ U with heap := s₂.heap, slotsUsed := s₂.slotsUsed } : State).setVm s₂.vm).setTop { g with pc := g.pc + len₂, stack := v.toList ++ g.stack })
    rw [← hs₂]
    exact hsteps
  · obtain ⟨e2, q2, q3, q4, q5, q6⟩ := id hsm
    have e3 : s₂ = ({ (U.calling g mk a).setFrames s₂.frames with heap := s₂.heap, slotsUsed := s₂.slotsUsed } : State).setVm s₂.vm := by
      have : s₂ = ({ s₂ with vm := (U.calling g mk a).vm } : State).setVm s₂.vm := rfl
      rw [e2] at this
      exact this
    have hf₂ : s₂.frames = .throwing q :: .java g :: U.frames.tail := hend
    have hW' : U.WarmedH s₂.vm := hW₂
    have hs₂ : s₂ = ((({ U with heap := s₂.heap, slotsUsed := s₂.slotsUsed } : State).setVm s₂.vm).setTop g).pushFrame (.throwing q) := by
      refine e3.trans ?_
      rw [hf₂, State.calling_eq h.top, State.setFrames_setFrames, State.pushFrame, State.frames_setTop _ hr', State.setTop_of_frames _ hr', State.setFrames_setFrames, hr]
      rfl
    have hsame : U.sameButNew ({ U with heap := s₂.heap, slotsUsed := s₂.slotsUsed } : State) L mc ms := by
      refine ⟨?_, q2, q3, q4, q5, q6⟩
      obtain ⟨t, ht, -⟩ := State.frames_cons hr
      show ({ U with heap := s₂.heap, slotsUsed := s₂.slotsUsed } : State) = { U.setFrames U.frames with heap := s₂.heap, slotsUsed := s₂.slotsUsed }
      rw [State.setFrames_self ht]
    subst hg
    refine Or.inr ⟨q, ⟨(({ U with heap := s₂.heap, slotsUsed := s₂.slotsUsed } : State).setVm s₂.vm), Ls ++ L, c0 + mc, s0 + ms⟩,
      ⟨X.admits, X.cas, X.clock, X.frames, X.room, X.hears, X.method, X.code, (X.here.setHeapUsed s₂.heap s₂.slotsUsed).setVm hW'.alike, X.tail, State.WarmedH.trans X.warmed hW', X.limits, X.bytes, X.same.trans (hsame.setVm s.vm)⟩,
      ⟨g, mk, s₂, L, E, ce, rfl, rfl, hx, hce, hcv, hcl, rfl, hL, rfl, rfl⟩, ?_⟩
    show Steps p.tables e below _ (((({ U with heap := s₂.heap, slotsUsed := s₂.slotsUsed } : State).setVm s₂.vm).setTop g).pushFrame (.throwing q))
    rw [← hs₂]
    exact hsteps
end Payer
section Calls
variable {p : Program} {l : Launch} {e : Env} {R : Room} {s : State} {m : MethodId} {args : Array Value} {below : List Frame} {meth : Method} {c : Code} {T : State} {locs : List Loc} {cells slots : Nat}
theorem vx_callV (X : Stand p l e R s m args below meth c T locs cells slots) (hexec : p.tables.exec = Jvm.exec) {own C : String} {index : Nat} {y : MethodName} {bytes : ByteArray} {maxL : Nat} {ret : Option FieldType}
    (hown : s.vm.findClass own = some m.cls) (hlink : (Cond.methodLink own index y).before args s = true) (hinst : (Cond.instanceMethod y).before args s = true) (hsel : (Cond.selects C y y).before args s = true)
    (hcode : (Cond.code y bytes maxL ret).before args s = true) (hy : y.cls ≠ "java/lang/invoke/MethodHandle" ∧ y.cls ≠ "java/lang/invoke/VarHandle")
    {W9 : Nat} {Pre : Pt → Array Value → Prop} {Post : Pt → Array Value → Option Value → Pt → Prop} {PostX : Pt → Array Value → Addr → Pt → Prop} (hK : vx_Back l R p e below s args y 3 W9 Pre Post PostX)
    {b : Addr} {cellB : Cell} (hcell : T.heap[b]? = some cellB) (hobj : cellB.vm.isStatics = false) (hcls : s.vm.findClass C = some cellB.cls)
    {g : JFrame} (hg : g.method = m) (hsize : g.locals.size = c.maxLocals) {argsL rest : List Value} (hlen : ∀ sig, parseMethodDescriptor y.desc = some sig → argsL.length = sig.parameters.length)
    (hstack : g.stack = argsL.reverse ++ .ref b :: rest) (hW : 2 * g.monitorRoom + (rest.map fun v => v.category).sum ≤ W9) (hdg : decode c.code g.pc = .ok (.invokevirtual index, 3))
    (hpre : ∀ vm₁, s.WarmedH vm₁ → Pre ⟨T.setVm vm₁, locs, cells, slots⟩ (Value.ref b :: argsL).toArray) :
    (∃ (v : Option Value) (vm₁ : Vm) (B : Pt), s.WarmedH vm₁ ∧ Stand p l e R s m args below meth c B.U B.locs B.cells B.slots ∧ Post ⟨T.setVm vm₁, locs, cells, slots⟩ (Value.ref b :: argsL).toArray v B ∧
      ∀ target, Steps p.tables e below (B.U.setTop { g with pc := g.pc + 3, stack := v.toList ++ rest }) target → Steps p.tables e below (T.setTop g) target) ∨
    (∃ (q : Addr) (vm₁ : Vm) (B : Pt), s.WarmedH vm₁ ∧ Stand p l e R s m args below meth c B.U B.locs B.cells B.slots ∧ PostX ⟨T.setVm vm₁, locs, cells, slots⟩ (Value.ref b :: argsL).toArray q B ∧
      Steps p.tables e below (T.setTop g) ((B.U.setTop { g with stack := rest }).pushFrame (.throwing q))) := by
  obtain ⟨mk, methM, hnamed, hmethM, hstM, habM⟩ := Cond.instanceMethod_spec hinst
  obtain ⟨methM', cM, hmethM', -, -, -, -, -, -, hsigM⟩ := Cond.code_spec hnamed hcode
  cases hmethM.symm.trans hmethM'
  obtain ⟨c2, r2, m2, q1, q2, q3, q4, kP, hkP, hkPi⟩ := Cond.selects_spec hsel
  cases hcls.symm.trans q1
  cases (State.methodFound?_of_named hnamed hy).symm.trans q2
  cases hnamed.symm.trans q3
  have hselP : selectMethod e.platform s.vm cellB.cls mk = .method mk := by rw [Launch.admits_selectMethod X.admits]; exact q4
  obtain ⟨vm₁, X₁, hstep₁⟩ := X.invokevirtual hexec hown hlink hnamed hmethM hstM hkP hkPi hy (a := b) (cell := cellB) hcell
    (fun z h => by rw [h] at hobj; cases hobj) hselP hmethM habM hkP hkPi (g := g) hg (argsL := argsL) (rest := rest) (hlen _ hsigM) hstack hdg
  rcases hK m meth c ⟨T.setVm vm₁, locs, cells, slots⟩ { g with stack := rest } (.invokevirtual index) mk (Value.ref b :: argsL).toArray X₁ hg hsize hdg hW (X₁.named hnamed) (hpre vm₁ X₁.warmed) with ⟨v, B, X', hpost, hsteps⟩ | ⟨q, B, X', hpost, hsteps⟩
  · exact Or.inl ⟨v, vm₁, B, X₁.warmed, X', hpost, fun target h => hstep₁ _ fun acts => by rw [doInvoke_state]; exact hsteps.trans h⟩
  · exact Or.inr ⟨q, vm₁, B, X₁.warmed, X', hpost, hstep₁ _ fun acts => by rw [doInvoke_state]; exact hsteps⟩
theorem vx_callS (X : Stand p l e R s m args below meth c T locs cells slots) (hexec : p.tables.exec = Jvm.exec) {own : String} {index : Nat} {y : MethodName} {bytes : ByteArray} {maxL : Nat} {ret : Option FieldType}
    (hown : s.vm.findClass own = some m.cls) (hlink : (Cond.methodLink own index y).before args s = true) (hstat : (Cond.static y).before args s = true) (hinit : (Cond.initialized y.cls).before args s = true)
    (hcode : (Cond.code y bytes maxL ret).before args s = true) (hy : y.cls ≠ "java/lang/invoke/MethodHandle" ∧ y.cls ≠ "java/lang/invoke/VarHandle")
    {W9 : Nat} {Pre : Pt → Array Value → Prop} {Post : Pt → Array Value → Option Value → Pt → Prop} {PostX : Pt → Array Value → Addr → Pt → Prop} (hK : vx_Back l R p e below s args y 3 W9 Pre Post PostX)
    {g : JFrame} (hg : g.method = m) (hsize : g.locals.size = c.maxLocals) {argsL rest : List Value} (hlen : ∀ sig, parseMethodDescriptor y.desc = some sig → argsL.length = sig.parameters.length)
    (hstack : g.stack = argsL.reverse ++ rest) (hW : 2 * g.monitorRoom + (rest.map fun v => v.category).sum ≤ W9) (hdg : decode c.code g.pc = .ok (.invokestatic index, 3))
    (hpre : ∀ vm₁, s.WarmedH vm₁ → Pre ⟨T.setVm vm₁, locs, cells, slots⟩ argsL.toArray) :
    (∃ (v : Option Value) (vm₁ : Vm) (B : Pt), s.WarmedH vm₁ ∧ Stand p l e R s m args below meth c B.U B.locs B.cells B.slots ∧ Post ⟨T.setVm vm₁, locs, cells, slots⟩ argsL.toArray v B ∧
      ∀ target, Steps p.tables e below (B.U.setTop { g with pc := g.pc + 3, stack := v.toList ++ rest }) target → Steps p.tables e below (T.setTop g) target) ∨
    (∃ (q : Addr) (vm₁ : Vm) (B : Pt), s.WarmedH vm₁ ∧ Stand p l e R s m args below meth c B.U B.locs B.cells B.slots ∧ PostX ⟨T.setVm vm₁, locs, cells, slots⟩ argsL.toArray q B ∧
      Steps p.tables e below (T.setTop g) ((B.U.setTop { g with stack := rest }).pushFrame (.throwing q))) := by
  obtain ⟨mk, hnamed⟩ := Cond.code_named hcode
  obtain ⟨methM, cM, hmethM, -, -, -, -, -, -, hsigM⟩ := Cond.code_spec hnamed hcode
  have hstatic : methM.isStatic = true := Cond.static_spec hnamed hmethM hstat
  obtain ⟨kP, hkP, -⟩ := className_of_methodNamed hnamed
  have hinitP : kP.init = .initialized := Cond.initialized_spec (findClass_of_methodNamed hnamed) hkP hinit
  obtain ⟨vm₁, X₁, hstep₁⟩ := X.invokestatic hexec hown hlink hnamed hmethM hstatic hkP hinitP hy (g := g) hg (argsL := argsL) (rest := rest) (hlen _ hsigM) hstack hdg
  rcases hK m meth c ⟨T.setVm vm₁, locs, cells, slots⟩ { g with stack := rest } (.invokestatic index) mk argsL.toArray X₁ hg hsize hdg hW (X₁.named hnamed) (hpre vm₁ X₁.warmed) with ⟨v, B, X', hpost, hsteps⟩ | ⟨q, B, X', hpost, hsteps⟩
  · exact Or.inl ⟨v, vm₁, B, X₁.warmed, X', hpost, fun target h => hstep₁ _ fun acts => by rw [doInvoke_state]; exact hsteps.trans h⟩
  · exact Or.inr ⟨q, vm₁, B, X₁.warmed, X', hpost, hstep₁ _ fun acts => by rw [doInvoke_state]; exact hsteps⟩
end Calls
theorem vx_cls {s : State} {T : State} {vm₁ : Vm} {E : String} {k : ClassId} (hW : s.WarmedH vm₁) (h : (T.setVm vm₁).vm.findClass E = some k) : s.vm.findClass E = some k := by
  have h1 : vm₁.findClass E = some k := h
  rw [hW.alike.findClass] at h1
  exact h1
/-- the method's frame g, with q thrown over it -/
def vx_W (p : Program) (l : Launch) (e : Env) (R : Room) (s : State) (m : MethodId) (args : Array Value) (below : List Frame) (meth : Method) (c : Code) (H : Heap) (locs : List Loc) (cells slots : Nat) (Q : State → Prop) (g : JFrame) (q : Addr) : Prop :=
  ∀ T : State, T.heap = H → Stand p l e R s m args below meth c T locs cells slots → ∃ t, Steps p.tables e below ((T.setTop g).pushFrame (.throwing q)) t ∧ Q t
def vx_Run (p : Program) (l : Launch) (e : Env) (R : Room) (s : State) (m : MethodId) (args : Array Value) (below : List Frame) (meth : Method) (c : Code) (H : Heap) (locs : List Loc) (cells slots mc ms : Nat) (g : JFrame) (rest : List Value) (Qa : State → Outcome → State → Prop) (XC : String → State → State → Prop) (free : Addr → Prop) : Prop :=
  ∀ T : State, T.heap = H → Stand p l e R s m args below meth c T locs cells slots →
    (∃ (v : Option Value) (st₀ t T' : State) (L : List Loc), st₀.heap = H ∧ Stand p l e R s m args below meth c T' (locs ++ L) (cells + mc) (slots + ms) ∧ (∀ q ∈ L, free q.base) ∧ T'.heap = t.heap ∧ T'.vm = t.vm ∧ Qa st₀ (.returned v) t ∧
      Goes p e below T g T' { g with pc := g.pc + 3, stack := v.toList ++ rest }) ∨
    (∃ (q : Addr) (st₀ t T' : State) (L : List Loc) (E : String) (ce : Cell), st₀.heap = H ∧ Stand p l e R s m args below meth c T' (locs ++ L) (cells + mc) (slots + ms) ∧ (∀ z ∈ L, free z.base) ∧ T'.heap = t.heap ∧ T'.vm = t.vm ∧ XC E st₀ t ∧ t.heap[q]? = some ce ∧ ce.vm = .none ∧ s.vm.findClass E = some ce.cls ∧
      Steps p.tables e below (T.setTop g) ((T'.setTop { g with stack := rest }).pushFrame (.throwing q)))
def vx_X {S : Type} (px : S → Prop) (B : String → S → State → Prop) (A : Nat → Prop) : String → State → State → Prop := fun E st t => ∃ u : S, px u ∧ B E u t ∧ va_F A st t
section Runs
variable {p : Program} {l : Launch} {e : Env} {R : Room} {s : State} {m : MethodId} {args : Array Value} {below : List Frame} {meth : Method} {c : Code} {H : Heap} {locs : List Loc} {cells slots : Nat}
variable {y : MethodName} {bytes cc : ByteArray} {maxL nL mc ms n index : Nat} {ret : Option FieldType} {ws : List Cond} {rm : Room} {Pc : Array Value → State → Prop} {Qc : Array Value → State → Outcome → State → Prop} {XC : String → State → State → Prop} {free : Addr → Prop} {Ts : List Cond} {own C : String} {b : Addr} {As rest : List Value} {g : JFrame}
theorem vx_callBack (cb : CallB R s args own index y bytes maxL ret ws rm mc ms n) (hM : vx_Met l y ws rm Pc Qc XC mc ms free) (hbl : FrameBlind Pc) : vx_Back l R p e below s args y 3 8 (PreOf R mc ms Pc) (PostOf Qc mc ms free) (vx_Post XC mc ms free) := by
  obtain ⟨hrc, hrs, hfr, hlo, hws, hcw, -, hini, -⟩ := cb
  exact vx_back (bytes := bytes) (maxL := maxL) (ret := ret) hM hbl hrc hrs hfr hlo hws hcw (fun a' U hW => word_at hW (Or.inl (by first | rfl | simp [Cond.onTables, Cond.keeps, Cond.steady])) hini)
theorem vx_runV (S : CallFix p m c cc nL s args Ts own) (hM : vx_Met l y ws rm Pc Qc XC mc ms free) (cw : CallW R s args own C index y bytes maxL ret ws rm mc ms n) (hp : PreV s H C b Pc As)
    (hg : g.method = m) (hn : As.length = n) (hsize : g.locals.size = nL) (hstack : g.stack = As.reverse ++ .ref b :: rest) (hW : 2 * g.monitorRoom + (rest.map fun v => v.category).sum ≤ 8) (hdg : decode cc g.pc = .ok (.invokevirtual index, 3)) (hf : cells + mc ≤ R.cells ∧ slots + ms ≤ R.slots) :
    vx_Run p l e R s m args below meth c H locs cells slots mc ms g rest (Qc (Value.ref b :: As).toArray) XC free := by
  have hK : vx_Back l R p e below s args y 3 8 (PreOf R mc ms Pc) (PostOf Qc mc ms free) (vx_Post XC mc ms free) := vx_callBack cw.1 hM hp.1
  obtain ⟨⟨-, -, -, -, -, -, hcode, -, hy, hlen, hl⟩, hin, hse⟩ := cw
  obtain ⟨hx, hb, hml, ho, -⟩ := S
  obtain ⟨-, ⟨cellB, hcB, hoB, hclB⟩, hPc⟩ := hp
  intro T hT X
  rcases vx_callV X hx (C := C) (bytes := bytes) (maxL := maxL) (ret := ret) ho hl hin hse hcode hy hK (by rw [hT]; exact hcB) hoB hclB hg (hsize.trans hml.symm) (argsL := As) (rest := rest) (fun sig h => hn.trans (hlen sig h)) hstack hW (by rw [hb]; exact hdg)
    (fun vm₁ hW₁ => ⟨hf.1, hf.2, hPc (T.setVm vm₁) hT hW₁⟩) with ⟨v, vm₁, ⟨U', l2, c2, s2⟩, hW₁, X', ⟨g', mk, t, L, e1, e2, hq, h1, hL, h2, h3⟩, st⟩ | ⟨q, vm₁, ⟨U', l2, c2, s2⟩, hW₁, X', ⟨g', mk, t, L, E, ce, e1, e2, hq, hce, hcv, hcl, h1, hL, h2, h3⟩, st⟩
  · dsimp only [Pt.U, Pt.locs, Pt.cells, Pt.slots] at X' e1 e2 h1 h2 h3 st
    subst h1; subst h2; subst h3
    exact Or.inl ⟨v, (T.setVm vm₁).calling g' mk (Value.ref b :: As).toArray, t, U', L, hT, X', hL, e1, e2, hq, st⟩
  · dsimp only [Pt.U, Pt.locs, Pt.cells, Pt.slots] at X' e1 e2 h1 h2 h3 st hcl
    subst h1; subst h2; subst h3
    exact Or.inr ⟨q, (T.setVm vm₁).calling g' mk (Value.ref b :: As).toArray, t, U', L, E, ce, hT, X', hL, e1, e2, hq, hce, hcv, vx_cls hW₁ hcl, st⟩
theorem vx_runS (S : CallFix p m c cc nL s args Ts own) (hM : vx_Met l y ws rm Pc Qc XC mc ms free) (cw : CallB R s args own index y bytes maxL ret ws rm mc ms n ∧ (Cond.static y).before args s = true) (hp : PreS s H Pc As)
    (hg : g.method = m) (hn : As.length = n) (hsize : g.locals.size = nL) (hstack : g.stack = As.reverse ++ rest) (hW : 2 * g.monitorRoom + (rest.map fun v => v.category).sum ≤ 8) (hdg : decode cc g.pc = .ok (.invokestatic index, 3)) (hf : cells + mc ≤ R.cells ∧ slots + ms ≤ R.slots) :
    vx_Run p l e R s m args below meth c H locs cells slots mc ms g rest (Qc As.toArray) XC free := by
  have hK : vx_Back l R p e below s args y 3 8 (PreOf R mc ms Pc) (PostOf Qc mc ms free) (vx_Post XC mc ms free) := vx_callBack cw.1 hM hp.1
  obtain ⟨⟨-, -, -, -, -, -, hcode, hini, hy, hlen, hl⟩, hstt⟩ := cw
  obtain ⟨hx, hb, hml, ho, -⟩ := S
  intro T hT X
  rcases vx_callS X hx (bytes := bytes) (maxL := maxL) (ret := ret) ho hl hstt hini hcode hy hK hg (hsize.trans hml.symm) (argsL := As) (rest := rest) (fun sig h => hn.trans (hlen sig h)) hstack hW (by rw [hb]; exact hdg)
    (fun vm₁ hW₁ => ⟨hf.1, hf.2, hp.2 (T.setVm vm₁) hT hW₁⟩) with ⟨v, vm₁, ⟨U', l2, c2, s2⟩, hW₁, X', ⟨g', mk, t, L, e1, e2, hq, h1, hL, h2, h3⟩, st⟩ | ⟨q, vm₁, ⟨U', l2, c2, s2⟩, hW₁, X', ⟨g', mk, t, L, E, ce, e1, e2, hq, hce, hcv, hcl, h1, hL, h2, h3⟩, st⟩
  · dsimp only [Pt.U, Pt.locs, Pt.cells, Pt.slots] at X' e1 e2 h1 h2 h3 st
    subst h1; subst h2; subst h3
    exact Or.inl ⟨v, (T.setVm vm₁).calling g' mk As.toArray, t, U', L, hT, X', hL, e1, e2, hq, st⟩
  · dsimp only [Pt.U, Pt.locs, Pt.cells, Pt.slots] at X' e1 e2 h1 h2 h3 st hcl
    subst h1; subst h2; subst h3
    exact Or.inr ⟨q, (T.setVm vm₁).calling g' mk As.toArray, t, U', L, E, ce, hT, X', hL, e1, e2, hq, hce, hcv, vx_cls hW₁ hcl, st⟩
end Runs
section Rows
variable {p : Program} {l : Launch} {e : Env} {R : Room} {s : State} {m : MethodId} {args : Array Value} {below : List Frame} {meth : Method} {c : Code} {H : Heap} {locs : List Loc} {cells slots : Nat} {Q : State → Prop}
variable {mc ms : Nat} {free : Addr → Prop} {A0 A1 : Nat → Prop} {H0 : Heap} {a : Array Value} {pc : Nat} {ls : Array Slot} {st0 rest : List Value}
theorem vx_keep {st₀ t T' : State} {L : List Loc} (h0 : st₀.heap = H) (e1 : T'.heap = t.heap) (hS : va_S A0 H0 H locs) (hA : ∀ q, q < H.size → A1 q → A0 q) (hf : ∀ q, free q → A0 q) (hL : ∀ q ∈ L, free q.base) (hF : va_F A1 st₀ t) :
    H.size ≤ T'.heap.size ∧ (∀ q : Nat, q < H.size → ¬ A1 q → T'.heap[q]? = H[q]?) ∧ va_S A0 H0 T'.heap (locs ++ L) := by
  obtain ⟨hz, hk⟩ := hF
  rw [h0] at hz hk
  exact ⟨by rw [e1]; exact hz, fun q h1 h2 => by rw [e1]; exact hk q h1 h2,
    ⟨Nat.le_trans hS.1 (by rw [e1]; exact hz), fun q h1 h2 => by rw [e1, hk q (Nat.lt_of_lt_of_le h1 hS.1) (fun z => h2 (hA q (Nat.lt_of_lt_of_le h1 hS.1) z))]; exact hS.2.1 q h1 h2, fun q hq => by
      rcases List.mem_append.mp hq with h | h
      · exact hS.2.2 q h
      · exact hf _ (hL q h)⟩⟩
theorem vx_calli {S SX : Type} {post : Int32 → S → Prop} {px : SX → Prop} {B : S → State → Prop} {BX : String → SX → State → Prop} {AX : Nat → Prop} (hr : vx_Run p l e R s m args below meth c H locs cells slots mc ms (F0 m pc ls st0) rest (va_Qi post B A1 a) (vx_X px BX AX) free) (hS : va_S A0 H0 H locs) (hA : ∀ q, q < H.size → A1 q → A0 q) (hf : ∀ q, free q → A0 q) (hAX : ∀ q, q < H.size → AX q → A0 q)
    (kx : ∀ (E : String) (ce : Cell) (q9 : Addr) (u : SX) (t : State) (H1 : Heap) (locs1 : List Loc), t.heap = H1 → s.vm.Alike t.vm → px u → BX E u t → H.size ≤ H1.size → (∀ q : Nat, q < H.size → ¬ AX q → H1[q]? = H[q]?) → va_S A0 H0 H1 locs1 → H1[q9]? = some ce → ce.vm = .none → s.vm.findClass E = some ce.cls → vx_W p l e R s m args below meth c H1 locs1 (cells + mc) (slots + ms) Q (F0 m pc ls rest) q9)
    (kk : ∀ (r : Int32) (u : S) (t : State) (H1 : Heap) (locs1 : List Loc), t.heap = H1 → s.vm.Alike t.vm → post r u → B u t → H.size ≤ H1.size → (∀ q : Nat, q < H.size → ¬ A1 q → H1[q]? = H[q]?) → va_S A0 H0 H1 locs1 → W p l e R s m args below meth c H1 locs1 (cells + mc) (slots + ms) Q (F0 m (pc + 3) ls (.int r :: rest))) : W p l e R s m args below meth c H locs cells slots Q (F0 m pc ls st0) := by
  intro T hT X
  rcases hr T hT X with ⟨v, st₀, t, T', L, h0, X', hL, e1, e2, ⟨⟨r, u, hv, hp, hb⟩, hF⟩, st⟩ | ⟨q, st₀, t, T', L, E, ce, h0, X', hL, e1, e2, ⟨u, hp, hb, hF⟩, hce, hcv, hcl, st⟩
  · cases hv
    obtain ⟨k1, k2, k3⟩ := vx_keep h0 e1 hS hA hf hL hF
    obtain ⟨t2, a1, b1⟩ := kk r u t T'.heap (locs ++ L) e1.symm (by rw [← e2]; exact X'.warmed.alike) hp hb k1 k2 k3 T' rfl X'
    exact ⟨t2, st t2 a1, b1⟩
  · obtain ⟨k1, k2, k3⟩ := vx_keep h0 e1 hS hAX hf hL hF
    obtain ⟨t2, a1, b1⟩ := kx E ce q u t T'.heap (locs ++ L) e1.symm (by rw [← e2]; exact X'.warmed.alike) hp hb k1 k2 k3 (by rw [e1]; exact hce) hcv hcl T' rfl X'
    exact ⟨t2, st.trans a1, b1⟩
theorem vx_calll {S SX : Type} {post : Int64 → S → Prop} {px : SX → Prop} {B : S → State → Prop} {BX : String → SX → State → Prop} {AX : Nat → Prop} (hr : vx_Run p l e R s m args below meth c H locs cells slots mc ms (F0 m pc ls st0) rest (va_Ql post B A1 a) (vx_X px BX AX) free) (hS : va_S A0 H0 H locs) (hA : ∀ q, q < H.size → A1 q → A0 q) (hf : ∀ q, free q → A0 q) (hAX : ∀ q, q < H.size → AX q → A0 q)
    (kx : ∀ (E : String) (ce : Cell) (q9 : Addr) (u : SX) (t : State) (H1 : Heap) (locs1 : List Loc), t.heap = H1 → s.vm.Alike t.vm → px u → BX E u t → H.size ≤ H1.size → (∀ q : Nat, q < H.size → ¬ AX q → H1[q]? = H[q]?) → va_S A0 H0 H1 locs1 → H1[q9]? = some ce → ce.vm = .none → s.vm.findClass E = some ce.cls → vx_W p l e R s m args below meth c H1 locs1 (cells + mc) (slots + ms) Q (F0 m pc ls rest) q9)
    (kk : ∀ (r : Int64) (u : S) (t : State) (H1 : Heap) (locs1 : List Loc), t.heap = H1 → s.vm.Alike t.vm → post r u → B u t → H.size ≤ H1.size → (∀ q : Nat, q < H.size → ¬ A1 q → H1[q]? = H[q]?) → va_S A0 H0 H1 locs1 → W p l e R s m args below meth c H1 locs1 (cells + mc) (slots + ms) Q (F0 m (pc + 3) ls (.long r :: rest))) : W p l e R s m args below meth c H locs cells slots Q (F0 m pc ls st0) := by
  intro T hT X
  rcases hr T hT X with ⟨v, st₀, t, T', L, h0, X', hL, e1, e2, ⟨⟨r, u, hv, hp, hb⟩, hF⟩, st⟩ | ⟨q, st₀, t, T', L, E, ce, h0, X', hL, e1, e2, ⟨u, hp, hb, hF⟩, hce, hcv, hcl, st⟩
  · cases hv
    obtain ⟨k1, k2, k3⟩ := vx_keep h0 e1 hS hA hf hL hF
    obtain ⟨t2, a1, b1⟩ := kk r u t T'.heap (locs ++ L) e1.symm (by rw [← e2]; exact X'.warmed.alike) hp hb k1 k2 k3 T' rfl X'
    exact ⟨t2, st t2 a1, b1⟩
  · obtain ⟨k1, k2, k3⟩ := vx_keep h0 e1 hS hAX hf hL hF
    obtain ⟨t2, a1, b1⟩ := kx E ce q u t T'.heap (locs ++ L) e1.symm (by rw [← e2]; exact X'.warmed.alike) hp hb k1 k2 k3 (by rw [e1]; exact hce) hcv hcl T' rfl X'
    exact ⟨t2, st.trans a1, b1⟩
theorem vx_callf {S SX : Type} {post : UInt32 → S → Prop} {px : SX → Prop} {B : S → State → Prop} {BX : String → SX → State → Prop} {AX : Nat → Prop} (hr : vx_Run p l e R s m args below meth c H locs cells slots mc ms (F0 m pc ls st0) rest (va_Qf post B A1 a) (vx_X px BX AX) free) (hS : va_S A0 H0 H locs) (hA : ∀ q, q < H.size → A1 q → A0 q) (hf : ∀ q, free q → A0 q) (hAX : ∀ q, q < H.size → AX q → A0 q)
    (kx : ∀ (E : String) (ce : Cell) (q9 : Addr) (u : SX) (t : State) (H1 : Heap) (locs1 : List Loc), t.heap = H1 → s.vm.Alike t.vm → px u → BX E u t → H.size ≤ H1.size → (∀ q : Nat, q < H.size → ¬ AX q → H1[q]? = H[q]?) → va_S A0 H0 H1 locs1 → H1[q9]? = some ce → ce.vm = .none → s.vm.findClass E = some ce.cls → vx_W p l e R s m args below meth c H1 locs1 (cells + mc) (slots + ms) Q (F0 m pc ls rest) q9)
    (kk : ∀ (r : UInt32) (u : S) (t : State) (H1 : Heap) (locs1 : List Loc), t.heap = H1 → s.vm.Alike t.vm → post r u → B u t → H.size ≤ H1.size → (∀ q : Nat, q < H.size → ¬ A1 q → H1[q]? = H[q]?) → va_S A0 H0 H1 locs1 → W p l e R s m args below meth c H1 locs1 (cells + mc) (slots + ms) Q (F0 m (pc + 3) ls (.float r :: rest))) : W p l e R s m args below meth c H locs cells slots Q (F0 m pc ls st0) := by
  intro T hT X
  rcases hr T hT X with ⟨v, st₀, t, T', L, h0, X', hL, e1, e2, ⟨⟨r, u, hv, hp, hb⟩, hF⟩, st⟩ | ⟨q, st₀, t, T', L, E, ce, h0, X', hL, e1, e2, ⟨u, hp, hb, hF⟩, hce, hcv, hcl, st⟩
  · cases hv
    obtain ⟨k1, k2, k3⟩ := vx_keep h0 e1 hS hA hf hL hF
    obtain ⟨t2, a1, b1⟩ := kk r u t T'.heap (locs ++ L) e1.symm (by rw [← e2]; exact X'.warmed.alike) hp hb k1 k2 k3 T' rfl X'
    exact ⟨t2, st t2 a1, b1⟩
  · obtain ⟨k1, k2, k3⟩ := vx_keep h0 e1 hS hAX hf hL hF
    obtain ⟨t2, a1, b1⟩ := kx E ce q u t T'.heap (locs ++ L) e1.symm (by rw [← e2]; exact X'.warmed.alike) hp hb k1 k2 k3 (by rw [e1]; exact hce) hcv hcl T' rfl X'
    exact ⟨t2, st.trans a1, b1⟩
theorem vx_calld {S SX : Type} {post : UInt64 → S → Prop} {px : SX → Prop} {B : S → State → Prop} {BX : String → SX → State → Prop} {AX : Nat → Prop} (hr : vx_Run p l e R s m args below meth c H locs cells slots mc ms (F0 m pc ls st0) rest (va_Qd post B A1 a) (vx_X px BX AX) free) (hS : va_S A0 H0 H locs) (hA : ∀ q, q < H.size → A1 q → A0 q) (hf : ∀ q, free q → A0 q) (hAX : ∀ q, q < H.size → AX q → A0 q)
    (kx : ∀ (E : String) (ce : Cell) (q9 : Addr) (u : SX) (t : State) (H1 : Heap) (locs1 : List Loc), t.heap = H1 → s.vm.Alike t.vm → px u → BX E u t → H.size ≤ H1.size → (∀ q : Nat, q < H.size → ¬ AX q → H1[q]? = H[q]?) → va_S A0 H0 H1 locs1 → H1[q9]? = some ce → ce.vm = .none → s.vm.findClass E = some ce.cls → vx_W p l e R s m args below meth c H1 locs1 (cells + mc) (slots + ms) Q (F0 m pc ls rest) q9)
    (kk : ∀ (r : UInt64) (u : S) (t : State) (H1 : Heap) (locs1 : List Loc), t.heap = H1 → s.vm.Alike t.vm → post r u → B u t → H.size ≤ H1.size → (∀ q : Nat, q < H.size → ¬ A1 q → H1[q]? = H[q]?) → va_S A0 H0 H1 locs1 → W p l e R s m args below meth c H1 locs1 (cells + mc) (slots + ms) Q (F0 m (pc + 3) ls (.double r :: rest))) : W p l e R s m args below meth c H locs cells slots Q (F0 m pc ls st0) := by
  intro T hT X
  rcases hr T hT X with ⟨v, st₀, t, T', L, h0, X', hL, e1, e2, ⟨⟨r, u, hv, hp, hb⟩, hF⟩, st⟩ | ⟨q, st₀, t, T', L, E, ce, h0, X', hL, e1, e2, ⟨u, hp, hb, hF⟩, hce, hcv, hcl, st⟩
  · cases hv
    obtain ⟨k1, k2, k3⟩ := vx_keep h0 e1 hS hA hf hL hF
    obtain ⟨t2, a1, b1⟩ := kk r u t T'.heap (locs ++ L) e1.symm (by rw [← e2]; exact X'.warmed.alike) hp hb k1 k2 k3 T' rfl X'
    exact ⟨t2, st t2 a1, b1⟩
  · obtain ⟨k1, k2, k3⟩ := vx_keep h0 e1 hS hAX hf hL hF
    obtain ⟨t2, a1, b1⟩ := kx E ce q u t T'.heap (locs ++ L) e1.symm (by rw [← e2]; exact X'.warmed.alike) hp hb k1 k2 k3 (by rw [e1]; exact hce) hcv hcl T' rfl X'
    exact ⟨t2, st.trans a1, b1⟩
theorem vx_callv {S SX : Type} {post : S → Prop} {px : SX → Prop} {B : S → State → Prop} {BX : String → SX → State → Prop} {AX : Nat → Prop} (hr : vx_Run p l e R s m args below meth c H locs cells slots mc ms (F0 m pc ls st0) rest (va_Qv post B A1 a) (vx_X px BX AX) free) (hS : va_S A0 H0 H locs) (hA : ∀ q, q < H.size → A1 q → A0 q) (hf : ∀ q, free q → A0 q) (hAX : ∀ q, q < H.size → AX q → A0 q)
    (kx : ∀ (E : String) (ce : Cell) (q9 : Addr) (u : SX) (t : State) (H1 : Heap) (locs1 : List Loc), t.heap = H1 → s.vm.Alike t.vm → px u → BX E u t → H.size ≤ H1.size → (∀ q : Nat, q < H.size → ¬ AX q → H1[q]? = H[q]?) → va_S A0 H0 H1 locs1 → H1[q9]? = some ce → ce.vm = .none → s.vm.findClass E = some ce.cls → vx_W p l e R s m args below meth c H1 locs1 (cells + mc) (slots + ms) Q (F0 m pc ls rest) q9)
    (kk : ∀ (u : S) (t : State) (H1 : Heap) (locs1 : List Loc), t.heap = H1 → s.vm.Alike t.vm → post u → B u t → H.size ≤ H1.size → (∀ q : Nat, q < H.size → ¬ A1 q → H1[q]? = H[q]?) → va_S A0 H0 H1 locs1 → W p l e R s m args below meth c H1 locs1 (cells + mc) (slots + ms) Q (F0 m (pc + 3) ls (rest))) : W p l e R s m args below meth c H locs cells slots Q (F0 m pc ls st0) := by
  intro T hT X
  rcases hr T hT X with ⟨v, st₀, t, T', L, h0, X', hL, e1, e2, ⟨⟨u, hv, hp, hb⟩, hF⟩, st⟩ | ⟨q, st₀, t, T', L, E, ce, h0, X', hL, e1, e2, ⟨u, hp, hb, hF⟩, hce, hcv, hcl, st⟩
  · cases hv
    obtain ⟨k1, k2, k3⟩ := vx_keep h0 e1 hS hA hf hL hF
    obtain ⟨t2, a1, b1⟩ := kk u t T'.heap (locs ++ L) e1.symm (by rw [← e2]; exact X'.warmed.alike) hp hb k1 k2 k3 T' rfl X'
    exact ⟨t2, st t2 a1, b1⟩
  · obtain ⟨k1, k2, k3⟩ := vx_keep h0 e1 hS hAX hf hL hF
    obtain ⟨t2, a1, b1⟩ := kx E ce q u t T'.heap (locs ++ L) e1.symm (by rw [← e2]; exact X'.warmed.alike) hp hb k1 k2 k3 (by rw [e1]; exact hce) hcv hcl T' rfl X'
    exact ⟨t2, st.trans a1, b1⟩
/-- caught by the row x of this method's table; the rows ahead don't take it -/
theorem vx_catch {own name : String} {E : String} {ce : Cell} {q : Addr} (hown : s.vm.findClass own = some m.cls) (pre : List ExceptionTableEntry) (x : ExceptionTableEntry) (suf : List ExceptionTableEntry) (hsplit : c.exceptionTable.toList = pre ++ x :: suf)
    (hpass : ∀ z ∈ pre, covers z pc = false ∨ (z.catchType ≠ 0 ∧ ∃ nm : String, (Cond.classLink own z.catchType nm).before args s = true ∧ va_Nc E nm s)) (hx : covers x pc = true) (h0 : x.catchType ≠ 0)
    (hlink : (Cond.classLink own x.catchType name).before args s = true) (hcast : (Cond.castable E name).before args s = true) (hcell : H[q]? = some ce) (hv : ce.vm = .none) (hcl : s.vm.findClass E = some ce.cls)
    (kk : W p l e R s m args below meth c H locs cells slots Q (F0 m x.handlerPc ls [.ref q])) : vx_W p l e R s m args below meth c H locs cells slots Q (F0 m pc ls rest) q := by
  intro T hT X
  have hpl : e.platform.magicAccessors = ({} : Platform).magicAccessors := by rw [X.admits.platform]
  obtain ⟨c3, c4, hc3, hc4, hasg⟩ := Cond.castable_spec hcast
  cases Option.some.inj (hc3.symm.trans hcl)
  obtain ⟨c5, hc5, hcl5⟩ := Cond.classLink_spec hown hlink e.platform hpl
  cases Option.some.inj (hc4.symm.trans hc5)
  obtain ⟨vm', X', st⟩ := X.thenCaughtThrough q (g := F0 m pc ls rest) rfl (Steps.refl _) (by rw [hT]; exact hcell) (by rw [hv]; rfl) (by obtain ⟨k9, h9, -⟩ := Vm.findClass_spec hcl; exact ⟨k9, h9⟩) pre x suf hsplit
    (fun z hz => by
      rcases hpass z hz with h | ⟨hz0, nm, hl1, hn1⟩
      · exact Or.inl h
      · obtain ⟨c6, hc6, hcl6⟩ := Cond.classLink_spec hown hl1 e.platform hpl
        obtain ⟨a8, b8, h1, h2, h3⟩ := hn1
        cases Option.some.inj (h1.symm.trans hcl)
        cases Option.some.inj (h2.symm.trans hc6)
        exact Or.inr ⟨hz0, _, hcl6, h3⟩) hx (Or.inr ⟨h0, c4, hcl5, hasg⟩)
  obtain ⟨t, a1, b1⟩ := kk (T.setVm vm') hT X'
  exact ⟨t, st.trans a1, b1⟩
end Rows
section Ends
variable {p : Program} {l : Launch} {e : Env} {R : Room} {s : State} {m : MethodId} {args : Array Value} {below : List Frame} {meth : Method} {c : Code} {H : Heap} {locs : List Loc} {cells slots : Nat} {Q : State → Prop}
variable {mc ms : Nat} {free : Addr → Prop} {A0 A1 : Nat → Prop} {H0 : Heap} {a : Array Value} {ls : Array Slot} {st0 rest : List Value}
variable {Qc : Array Value → State → Outcome → State → Prop} {XC : String → State → State → Prop}
/-- what a body that may throw owes at its end -/
def vx_MQ (below : List Frame) (Qc : Array Value → State → Outcome → State → Prop) (XC : String → State → State → Prop) (a : Array Value) (s : State) (mc ms : Nat) (free : Addr → Prop) : State → Prop := fun t =>
  ∃ o, t.status = .running ∧ Ended t below o ∧ vx_Q Qc XC mc ms free a s o t
theorem vx_ret {g : JFrame} {mc ms : Nat} (k : W p l e R s m args below meth c H locs cells slots (MQ below Qc args s mc ms free) g) : W p l e R s m args below meth c H locs cells slots (vx_MQ below Qc XC args s mc ms free) g := by
  intro T hT X
  obtain ⟨t, a1, o, b1, b2, b3, b4⟩ := k T hT X
  exact ⟨t, a1, o, b1, b2, Or.inl ⟨b3, b4⟩⟩
/-- not caught here: it goes on to the caller -/
theorem vx_widen {g : JFrame} {q : Addr} {k n : Nat} (h1 : cells ≤ k) (h2 : slots ≤ n) (kk : vx_W p l e R s m args below meth c H locs k n Q g q) : vx_W p l e R s m args below meth c H locs cells slots Q g q := fun T hT X => kk T hT (stand_widen X h1 h2)
theorem vx_out {pc : Nat} {E : String} {ce : Cell} {q : Addr} {mc ms : Nat} (hout : ∀ x ∈ c.exceptionTable.toList, covers x pc = false) (hlocks : meth.locks = false) (hcell : H[q]? = some ce) (hv : ce.vm = .none) (hcl : s.vm.findClass E = some ce.cls)
    (hx : ∀ t : State, t.heap = H → s.vm.Alike t.vm → XC E s t) (hf : ∀ z ∈ locs, free z.base) (hc : cells ≤ mc) (hs : slots ≤ ms) :
    vx_W p l e R s m args below meth c H locs cells slots (vx_MQ below Qc XC args s mc ms free) (F0 m pc ls rest) q := by
  intro T hT X
  obtain ⟨st1, hrun, hend, hW, hsm⟩ := X.leaveThrown q (g := F0 m pc ls rest) rfl rfl rfl hout hlocks
  have hcell9 : (T.setFrames (.throwing q :: below)).heap[q]? = some ce := by
    show T.heap[q]? = some ce
    rw [hT]; exact hcell
  exact ⟨_, st1, .threw q, hrun, hend, Or.inr ⟨q, rfl, E, ce, locs, hx _ hT hW.alike, hcell9, hv, hcl, hW, hsm.mono hc hs, hf⟩⟩
theorem vx_frame {U : State} {k n : Nat} (h : s.sameButNew ({ U with vm := s.vm } : State) locs k n) : s.heap.size ≤ U.heap.size ∧ ∀ q : Nat, q < s.heap.size → (∀ z ∈ locs, z.base ≠ q) → U.heap[q]? = s.heap[q]? := by
  obtain ⟨-, h2, -, -, -, h6⟩ := h
  refine ⟨h2, fun q hq hz => ?_⟩
  obtain ⟨c9, e1, e2, e3, e4⟩ := h6 q _ (Array.getElem?_eq_getElem hq)
  have hs : c9.slots = (s.heap[q]).slots := Array.ext_getElem? fun i => e4 i fun hm => hz _ hm rfl
  have h9 : c9 = s.heap[q] := by
    rw [hs] at e2
    exact e2
  have e5 : U.heap[q]? = some c9 := e1
  rw [e5, h9, Array.getElem?_eq_getElem hq]
/-- the words of a throw but the four that speak of the heap -/
def vx_no (w : Cond) : Bool := decide (w ≠ .isRef (.static Bundle.tN "UNASSIGNED_STACK" Bundle.steD)) && decide (w ≠ .isRef (.static Bundle.tN "SUPPRESSED_SENTINEL" Bundle.listD)) && decide (w ≠ .laysStatic Bundle.tN "UNASSIGNED_STACK" Bundle.steD) && decide (w ≠ .laysStatic Bundle.tN "SUPPRESSED_SENTINEL" Bundle.listD)
def vx_at0 (own : String) (ic : Nat) (X : String) (names : List String) : List Cond := (Bundle.ownAtoms0 own ic X names).filter vx_no
def vx_atS (own : String) (ic : Nat) (X : String) (names : List String) : List Cond := (Bundle.ownAtoms own ic X names).filter vx_no
/-- a word that the tables alone decide, or a good one -/
def vx_ot (w : Cond) : Bool := w.onTables || goodWord w
theorem vx_ot_at {args a' : Array Value} {s U : State} {w : Cond} (hW : s.WarmedH U.vm) (hvm : s.vm = U.vm) (hg : vx_ot w = true) (h : w.before args s = true) : w.before a' U = true := by
  simp only [vx_ot, Bool.or_eq_true] at hg
  rcases hg with hg | hg
  · exact va_tabs hg hvm h
  · exact word_at hW (good_of_word hg) h
/-- a list's words: the good ones out of the method's own list, the others by premises of their own -/
theorem vx_hat {args : Array Value} {s : State} {L B : List Cond} (h1 : ∀ w ∈ L.filter goodWord, w.before args s = true) (h2 : ∀ w ∈ L.filter (fun w => !goodWord w), w ∈ B) (h3 : ∀ w ∈ B, w.before args s = true) : ∀ w ∈ L, w.before args s = true := by
  intro w hw
  by_cases g : goodWord w = true
  · exact h1 w (List.mem_filter.mpr ⟨hw, g⟩)
  · refine h3 w (h2 w (List.mem_filter.mpr ⟨hw, ?_⟩))
    show (!goodWord w) = true
    cases hgw : goodWord w
    · rfl
    · exact absurd hgw g
theorem vx_c {args : Array Value} {s : State} {w : Cond} {B : List Cond} (h : w.before args s = true) (t : ∀ w ∈ B, w.before args s = true) : ∀ w' ∈ w :: B, w'.before args s = true := fun w' h' => (List.mem_cons.mp h').elim (fun e => by rw [e]; exact h) (t w')
theorem vx_n {args : Array Value} {s : State} : ∀ w ∈ ([] : List Cond), w.before args s = true := fun _ h => nomatch h
theorem vx_own {args : Array Value} {s : State} {L : List Cond} (h1 : ∀ w ∈ L.filter vx_no, w.before args s = true)
    (hU : (Cond.isRef (.static Bundle.tN "UNASSIGNED_STACK" Bundle.steD)).before args s = true) (hN : (Cond.isRef (.static Bundle.tN "SUPPRESSED_SENTINEL" Bundle.listD)).before args s = true)
    (lU : (Cond.laysStatic Bundle.tN "UNASSIGNED_STACK" Bundle.steD).before args s = true) (lN : (Cond.laysStatic Bundle.tN "SUPPRESSED_SENTINEL" Bundle.listD).before args s = true) : ∀ w ∈ L, w.before args s = true := by
  intro w hw
  by_cases e1 : w = .isRef (.static Bundle.tN "UNASSIGNED_STACK" Bundle.steD)
  · rw [e1]; exact hU
  · by_cases e2 : w = .isRef (.static Bundle.tN "SUPPRESSED_SENTINEL" Bundle.listD)
    · rw [e2]; exact hN
    · by_cases e3 : w = .laysStatic Bundle.tN "UNASSIGNED_STACK" Bundle.steD
      · rw [e3]; exact lU
      · by_cases e4 : w = .laysStatic Bundle.tN "SUPPRESSED_SENTINEL" Bundle.listD
        · rw [e4]; exact lN
        · exact h1 w (List.mem_filter.mpr ⟨hw, by unfold vx_no; rw [decide_eq_true e1, decide_eq_true e2, decide_eq_true e3, decide_eq_true e4]; rfl⟩)
/-- where a static field lies, its class's statics cell in H -/
def vx_L (C n d : String) (A : Nat → Prop) (U : State) (H : Heap) : Prop := ∃ (c : ClassId) (k : Class) (i : Nat) (f : Field) (a : Nat) (cell : Cell), U.vm.findClass C = some c ∧ U.fieldFound? C n d = some (c, k, i, f) ∧ f.isStatic = true ∧ k.statics = some a ∧ H[a]? = some cell ∧ cell.vm.isStatics = true ∧ cell.cls = c ∧ f.slot < cell.slots.size ∧ k.staticTypes[f.slot]? = some f.type ∧ ¬ A a
theorem vx_L.moved {C n d : String} {A : Nat → Prop} {u U : State} {H : Heap} (hvm : u.vm.Alike U.vm) (h : vx_L C n d A u H) : vx_L C n d A U H := by
  obtain ⟨c, k, i, f, a, cell, h1, h2, h3, h4, h5, h6, h7, h8, h9, h10⟩ := h
  obtain ⟨k', hi', he⟩ := State.fieldFound?_setVm hvm h2
  exact ⟨c, k', i, f, a, cell, by rw [hvm.findClass]; exact h1, hi', h3, by rw [he]; exact h4, h5, h6, h7, h8, by rw [he]; exact h9, h10⟩
theorem vx_L.kept {C n d : String} {A : Nat → Prop} {U : State} {H H1 : Heap} (h : vx_L C n d A U H) (hq : ∀ a : Nat, a < H.size → ¬ A a → H1[a]? = H[a]?) : vx_L C n d A U H1 := by
  obtain ⟨c, k, i, f, a, cell, h1, h2, h3, h4, h5, h6, h7, h8, h9, h10⟩ := h
  exact ⟨c, k, i, f, a, cell, h1, h2, h3, h4, by rw [hq a (Array.getElem?_eq_some_iff.mp h5).1 h10]; exact h5, h6, h7, h8, h9, h10⟩
theorem vx_L.narrow {C n d : String} {A B : Nat → Prop} {U : State} {H : Heap} (h : vx_L C n d A U H) (hAB : ∀ q, B q → A q) : vx_L C n d B U H := by
  obtain ⟨c, k, i, f, a, cell, h1, h2, h3, h4, h5, h6, h7, h8, h9, h10⟩ := h
  exact ⟨c, k, i, f, a, cell, h1, h2, h3, h4, h5, h6, h7, h8, h9, fun z => h10 (hAB _ z)⟩
theorem vx_L.word {C n d : String} {A : Nat → Prop} {s : State} {args : Array Value} (h : vx_L C n d A s s.heap) : (Cond.laysStatic C n d).before args s = true := by
  obtain ⟨c, k, i, f, a, cell, h1, h2, h3, h4, h5, h6, h7, h8, h9, -⟩ := h
  show (Cond.laysStatic C n d).holds args s none s [] = true
  exact Cond.laysStatic_of h1 h2 h3 h4 h5 h6 h7 h8 h9
/-- .. and what it holds: null or some reference -/
def vx_Zq (C n d : String) (A : Nat → Prop) (U : State) (H : Heap) : Prop := va_Zq C n d A U H ∧ vx_L C n d A U H
theorem vx_Zq.moved {C n d : String} {A : Nat → Prop} {u U : State} {H : Heap} (hvm : u.vm.Alike U.vm) (h : vx_Zq C n d A u H) : vx_Zq C n d A U H := ⟨va_Zq.moved hvm h.1, vx_L.moved hvm h.2⟩
theorem vx_Zq.kept {C n d : String} {A : Nat → Prop} {U : State} {H H1 : Heap} (h : vx_Zq C n d A U H) (hq : ∀ a : Nat, a < H.size → ¬ A a → H1[a]? = H[a]?) : vx_Zq C n d A U H1 := ⟨va_Zq.kept h.1 hq, vx_L.kept h.2 hq⟩
theorem vx_Zq.narrow {C n d : String} {A B : Nat → Prop} {U : State} {H : Heap} (h : vx_Zq C n d A U H) (hAB : ∀ q, B q → A q) : vx_Zq C n d B U H := ⟨va_Zq.narrow h.1 hAB, vx_L.narrow h.2 hAB⟩
theorem vx_Zqof {args : Array Value} {s : State} {C n d : String} {A : Nat → Prop} (hl : (Cond.laysStatic C n d).before args s = true) (hini : (Cond.initialized C).before args s = true) (h : (Cond.isRef (.static C n d)).before args s = true) (hA : ∀ a : Nat, a < s.heap.size → ¬ A a) : vx_Zq C n d A s s.heap := by
  refine ⟨va_Zqof hl hini h hA, ?_⟩
  obtain ⟨c, k, i, f, a, cell, h1, h2, h3, h4, h5, h6, h7, h8, h9⟩ := Cond.laysStatic_spec hl
  exact ⟨c, k, i, f, a, cell, h1, h2, h3, h4, h5, h6, h7, h8, h9, hA a (Array.getElem?_eq_some_iff.mp h5).1⟩
theorem vx_isRef {C n d : String} {v : Value} {A : Nat → Prop} {s : State} {args : Array Value} (h : va_Z C n d v A s s.heap) (hv : v.isRef = true) : (Cond.isRef (.static C n d)).before args s = true := by
  obtain ⟨cf, kf, fi, f, a, cell, h1, h2, h3, h4, h5, h6, h7, -⟩ := h
  have he : (Term.static C n d).eval args s none [] s = some v := by
    simp [Term.eval, State.fieldNamed?, h1, h2, h4, h5, h6, h7]
  simp only [Cond.before, Cond.holds, Cond.value, he]
  cases v <;> simp_all [Value.isRef]
theorem vx_isRefq {C n d : String} {A : Nat → Prop} {s : State} {args : Array Value} (h : va_Zq C n d A s s.heap) : (Cond.isRef (.static C n d)).before args s = true := by
  rcases h with h | ⟨t, h⟩
  · exact vx_isRef h rfl
  · exact vx_isRef h rfl
/-- the same frame, seen from here: as if the method were called anew in this heap -/
theorem vx_rebase {T : State} (X : Stand p l e R s m args below meth c T locs cells slots) {R' : Room} (hf : R'.frames ≤ R.frames) (hl : R'.locals ≤ R.locals) (hc : cells + R'.cells ≤ R.cells) (hs : slots + R'.slots ≤ R.slots) :
    Stand p l e R' ((T.setVm s.vm).setFrames (.invoking m args :: below)) m args below meth c T [] 0 0 := by
  have htop : (T.setVm s.vm).topJava?.isSome := X.here.top
  have hF : ((T.setVm s.vm).setFrames (.invoking m args :: below)).frames = .invoking m args :: below := State.frames_setFrames _ (State.cur_lt_of_top htop)
  obtain ⟨g₀, hg0⟩ := Option.isSome_iff_exists.mp htop
  obtain ⟨r, hr⟩ := State.topJava?_eq_some.mp hg0
  have hl9 : e.platform.stackLimits (T.setVm s.vm).me = e.platform.stackLimits s.me := X.limits
  have hb9 : (T.setVm s.vm).me.stackBytes = s.me.stackBytes := X.bytes
  refine ⟨X.admits, X.cas, X.clock, hF, ?_, X.hears, X.method, X.code, X.here, X.tail, X.warmed, ?_, ?_, ?_⟩
  · have h := X.room
    have hU : ((T.setVm s.vm).setFrames (.invoking m args :: below)).localsInUse = s.localsInUse := by
      rw [State.localsInUse_invoking hF (meth := meth) (c := c) X.method X.code, State.localsInUse_invoking X.frames X.method X.code]
    simp only [State.hasRoom, Bool.and_eq_true, decide_eq_true_eq] at h ⊢
    obtain ⟨⟨⟨⟨h1, h2, h3, h4, h5, h6⟩, h7⟩, h8⟩, h9⟩ := h
    rw [X.frames, List.length_cons] at h2 h3
    have q1 := X.heapSize
    have q2 := X.used
    simp only [hF, hU, List.length_cons, State.stackLimits_setFrames, State.stackBytes_setFrames, hl9, hb9]
    refine ⟨⟨⟨⟨by omega, by omega, by omega, by omega, by omega, h6⟩, ?_⟩, ?_⟩, X.book⟩
    · show T.heap.size + R'.cells ≤ e.platform.maxCells
      omega
    · show T.slotsUsed + R'.slots ≤ e.platform.maxSlots
      omega
  · rw [State.stackLimits_setFrames]; rfl
  · rw [State.stackBytes_setFrames]; rfl
  · refine ⟨?_, Nat.le_refl _, Nat.le_refl _, ?_, ?_, fun a c9 h9 => ⟨c9, h9, rfl, rfl, fun _ _ => rfl⟩⟩
    · obtain ⟨t, ht, -⟩ := State.frames_cons hr
      show T.setVm s.vm = { ((T.setVm s.vm).setFrames (.invoking m args :: below)).setFrames (T.setVm s.vm).frames with heap := T.heap, slotsUsed := T.slotsUsed }
      rw [State.setFrames_setFrames, State.setFrames_self ht]
      rfl
    · show T.slotsUsed = T.slotsUsed + ((T.heap.toList.drop T.heap.size).map (·.slots.size)).sum
      rw [List.drop_eq_nil_of_le (Nat.le_of_eq Array.length_toList)]
      rfl
    · show ((T.heap.toList.drop T.heap.size).map (·.slots.size)).sum ≤ 0
      rw [List.drop_eq_nil_of_le (Nat.le_of_eq Array.length_toList)]
      exact Nat.le_refl _
/-- 'throw new E()': new; dup; invokespecial; athrow -/
theorem vx_throw0 {cc : ByteArray} {pc : Nat} (hexec : p.tables.exec = Jvm.exec) (hb : c.code = cc) (hl : l.stackTraces = false) {own cls : String} {names : List String} {ik ic mc ms : Nat} {A : Nat → Prop}
    (hown : s.vm.findClass own = some m.cls) (hcls : Bundle.fit cls = true) (hnames : ∀ n ∈ names, Bundle.fit n = true)
    (hk : (Cond.classLink own ik cls).before args s = true) (hini : (Cond.initialized cls).before args s = true) (hat : ∀ w ∈ vx_at0 own ic cls names, w.before args s = true)
    (hgood : ∀ w ∈ Cond.classLink own ik cls :: Cond.initialized cls :: vx_at0 own ic cls names, vx_ot w = true)
    (hU : vx_Zq Bundle.tN "UNASSIGNED_STACK" Bundle.steD A s s.heap) (hN : vx_Zq Bundle.tN "SUPPRESSED_SENTINEL" Bundle.listD A s s.heap) (hS : va_S A s.heap H locs) (hsize : ls.size = c.maxLocals)
    (d0 : decode cc pc = .ok (.new ik, 3)) (d3 : decode cc (pc + 3) = .ok (.dup, 1)) (d4 : decode cc (pc + 4) = .ok (.invokespecial ic, 3)) (d7 : decode cc (pc + 7) = .ok (.athrow, 1))
    (hout : ∀ x ∈ c.exceptionTable.toList, covers x (pc + 7) = false)
    (hRframes : names.length + 3 < R.frames) (hRlocals : (rest.map fun v => v.category).sum + (13 * (names.length + 1) + 42) ≤ R.locals) (hRcells : cells + 1 ≤ R.cells) (hRslots : slots + 6 ≤ R.slots) (hlocks : meth.locks = false)
    (hx : ∀ t : State, s.vm.Alike t.vm → H.size ≤ t.heap.size → (∀ q : Nat, q < H.size → t.heap[q]? = H[q]?) → XC cls s t)
    (hf : ∀ z ∈ locs, free z.base) (hc : cells + 1 ≤ mc) (hs : slots + 6 ≤ ms) :
    W p l e R s m args below meth c H locs cells slots (vx_MQ below Qc XC args s mc ms free) (F0 m pc ls rest) := by
  intro T hT X
  have htr : e.platform.stackTraces = false := (show e.platform.stackTraces = l.stackTraces by rw [X.admits.platform]).trans hl
  have Y := vx_rebase X (R' := { frames := R.frames, locals := R.locals, cells := 1, slots := 6 }) (Nat.le_refl _) (Nat.le_refl _) hRcells hRslots
  obtain ⟨s', hA⟩ : ∃ z, z = (T.setVm s.vm).setFrames (.invoking m args :: below) := ⟨_, rfl⟩
  rw [← hA] at Y
  have hvm : s'.vm = s.vm := by rw [hA]; rfl
  have hhp : s'.heap = H := by rw [hA]; exact hT
  have hW0 : s.WarmedH s'.vm := by rw [hvm]; exact State.WarmedH.refl s
  have hat' : ∀ w ∈ vx_at0 own ic cls names, w.before args s' = true := fun w hw => vx_ot_at hW0 hvm.symm (hgood w (List.mem_cons_of_mem _ (List.mem_cons_of_mem _ hw))) (hat w hw)
  have hk' : (Cond.classLink own ik cls).before args s' = true := vx_ot_at hW0 hvm.symm (hgood _ List.mem_cons_self) hk
  have hini' : (Cond.initialized cls).before args s' = true := vx_ot_at hW0 hvm.symm (hgood _ (List.mem_cons_of_mem _ List.mem_cons_self)) hini
  have hU' : vx_Zq Bundle.tN "UNASSIGNED_STACK" Bundle.steD A s' s'.heap := by rw [hhp]; exact vx_Zq.moved hW0.alike (hU.kept hS.2.1)
  have hN' : vx_Zq Bundle.tN "SUPPRESSED_SENTINEL" Bundle.listD A s' s'.heap := by rw [hhp]; exact vx_Zq.moved hW0.alike (hN.kept hS.2.1)
  have h : ∀ w ∈ Bundle.ownAtoms0 own ic cls names, w.before args s' = true := vx_own hat' (vx_isRefq hU'.1) (vx_isRefq hN'.1) hU'.2.word hN'.2.word
  have hown' : s'.vm.findClass own = some m.cls := by rw [hvm]; exact hown
  have hins : (Cond.instantiable cls 6).before args s' = true := h _ (by simp [Bundle.ownAtoms0])
  obtain ⟨vm₁, cX, kX, hfX, hkX, -, -, X₁, st1⟩ := Y.newCold hexec (own := own) (C := cls) (index := ik) (n := 6) hown' hk' hins hini'
    (g := F0 m pc ls rest) rfl (by rw [hb]; exact d0) (Nat.le_refl _) (Nat.le_refl _)
  generalize hT1 : (T.setVm vm₁).pushCell { cls := cX, slots := kX.instanceTypes.map defaultValue, vm := .none } = T1 at X₁ st1
  have hcat : (Value.ref T.heap.size).category = 1 := rfl
  have hcellA : T1.heap[T.heap.size]? = some (freshCell cX kX) := by rw [← hT1]; exact State.heap_pushCell_size _ _
  have d3' : decode c.code (pc + 3) = .ok (.dup, 1) := by rw [hb]; exact d3
  obtain ⟨U, hsteps, hrun, hend, hW, hsame, ce, hce, hO⟩ := X₁.ctorThrow0 hexec htr (own := own) (cls := cls) (names := names) (ic := ic) hown' hcls hnames h (fun x hx => nomatch hx) hfX hkX hcellA (by rw [hhp, hT]; exact Nat.le_refl _)
    (g := { method := m, pc := pc + 4, locals := ls, stack := .ref T.heap.size :: .ref T.heap.size :: rest, locked := none }) rfl hsize rfl rfl (rest := rest) rfl
    (by rw [hb]; exact d4) (by rw [hb]; exact d7) hout hRframes (by simp only [List.map_cons, List.sum_cons, hcat]; omega) hlocks
  obtain ⟨f1, f2⟩ := vx_frame hsame
  rw [hhp] at f1 f2
  have hWs : s.WarmedH U.vm := State.WarmedH.trans hW0 hW
  have hcl : s.vm.findClass cls = some ce.cls := by
    have h9 := hO.cls
    rw [hvm] at h9
    exact h9
  have hall : s.sameButNew ({ U with vm := s.vm } : State) locs mc ms := by
    subst hA
    obtain ⟨e1, e2⟩ := hsame
    rw [State.setFrames_setFrames] at e1
    have h2 : (T.setVm s.vm).sameButNew ({ U with vm := s.vm } : State) [] (0 + 1) (0 + 6) := ⟨e1, e2⟩
    have h3 := X.same.trans h2
    rw [List.append_nil] at h3
    exact h3.mono hc hs
  refine ⟨U, ?_, .threw T.heap.size, hrun, hend, Or.inr ⟨T.heap.size, rfl, cls, ce, locs, hx U hWs.alike f1 (fun q hq => f2 q hq (fun z hz => nomatch hz)), hce, hO.vm, hcl, hWs, hall, hf⟩⟩
  refine st1 _ ?_
  show Steps p.tables e below (T1.setTop { method := m, pc := pc + 3, locals := ls, stack := .ref T.heap.size :: rest, locked := none }) _
  jvm_step X₁.here [X₁.here.top, hexec, d3', Value.category]
  exact hsteps
/-- 'throw new E("text")': new; dup; ldc; invokespecial; athrow -/
theorem vx_throwS {cc : ByteArray} {pc : Nat} (hexec : p.tables.exec = Jvm.exec) (hb : c.code = cc) (hl : l.stackTraces = false) {own cls text : String} {names : List String} {ik is ic mc ms sa : Nat} {A : Nat → Prop}
    (hown : s.vm.findClass own = some m.cls) (hcls : Bundle.fit cls = true) (hnames : ∀ n ∈ names, Bundle.fit n = true)
    (hk : (Cond.classLink own ik cls).before args s = true) (hini : (Cond.initialized cls).before args s = true) (hstr : vk_R own is text sa s) (hat : ∀ w ∈ vx_atS own ic cls names, w.before args s = true)
    (hgood : ∀ w ∈ Cond.classLink own ik cls :: Cond.initialized cls :: vx_atS own ic cls names, vx_ot w = true)
    (hU : vx_Zq Bundle.tN "UNASSIGNED_STACK" Bundle.steD A s s.heap) (hN : vx_Zq Bundle.tN "SUPPRESSED_SENTINEL" Bundle.listD A s s.heap) (hS : va_S A s.heap H locs) (hsize : ls.size = c.maxLocals)
    (d0 : decode cc pc = .ok (.new ik, 3)) (d3 : decode cc (pc + 3) = .ok (.dup, 1)) (d4 : decode cc (pc + 4) = .ok (.ldc is, 2)) (d6 : decode cc (pc + 6) = .ok (.invokespecial ic, 3)) (d9 : decode cc (pc + 9) = .ok (.athrow, 1))
    (hout : ∀ x ∈ c.exceptionTable.toList, covers x (pc + 9) = false)
    (hRframes : names.length + 3 < R.frames) (hRlocals : (rest.map fun v => v.category).sum + (13 * (names.length + 1) + 43) ≤ R.locals) (hRcells : cells + 1 ≤ R.cells) (hRslots : slots + 6 ≤ R.slots) (hlocks : meth.locks = false)
    (hx : ∀ t : State, s.vm.Alike t.vm → H.size ≤ t.heap.size → (∀ q : Nat, q < H.size → t.heap[q]? = H[q]?) → XC cls s t)
    (hf : ∀ z ∈ locs, free z.base) (hc : cells + 1 ≤ mc) (hs : slots + 6 ≤ ms) :
    W p l e R s m args below meth c H locs cells slots (vx_MQ below Qc XC args s mc ms free) (F0 m pc ls rest) := by
  intro T hT X
  have htr : e.platform.stackTraces = false := (show e.platform.stackTraces = l.stackTraces by rw [X.admits.platform]).trans hl
  have Y := vx_rebase X (R' := { frames := R.frames, locals := R.locals, cells := 1, slots := 6 }) (Nat.le_refl _) (Nat.le_refl _) hRcells hRslots
  obtain ⟨s', hA⟩ : ∃ z, z = (T.setVm s.vm).setFrames (.invoking m args :: below) := ⟨_, rfl⟩
  rw [← hA] at Y
  have hvm : s'.vm = s.vm := by rw [hA]; rfl
  have hhp : s'.heap = H := by rw [hA]; exact hT
  have hW0 : s.WarmedH s'.vm := by rw [hvm]; exact State.WarmedH.refl s
  have hat' : ∀ w ∈ vx_atS own ic cls names, w.before args s' = true := fun w hw => vx_ot_at hW0 hvm.symm (hgood w (List.mem_cons_of_mem _ (List.mem_cons_of_mem _ hw))) (hat w hw)
  have hk' : (Cond.classLink own ik cls).before args s' = true := vx_ot_at hW0 hvm.symm (hgood _ List.mem_cons_self) hk
  have hini' : (Cond.initialized cls).before args s' = true := vx_ot_at hW0 hvm.symm (hgood _ (List.mem_cons_of_mem _ List.mem_cons_self)) hini
  have hU' : vx_Zq Bundle.tN "UNASSIGNED_STACK" Bundle.steD A s' s'.heap := by rw [hhp]; exact vx_Zq.moved hW0.alike (hU.kept hS.2.1)
  have hN' : vx_Zq Bundle.tN "SUPPRESSED_SENTINEL" Bundle.listD A s' s'.heap := by rw [hhp]; exact vx_Zq.moved hW0.alike (hN.kept hS.2.1)
  have h : ∀ w ∈ Bundle.ownAtoms own ic cls names, w.before args s' = true := vx_own hat' (vx_isRefq hU'.1) (vx_isRefq hN'.1) hU'.2.word hN'.2.word
  have hown' : s'.vm.findClass own = some m.cls := by rw [hvm]; exact hown
  have hins : (Cond.instantiable cls 6).before args s' = true := h _ (by simp [Bundle.ownAtoms])
  obtain ⟨vm₁, cX, kX, hfX, hkX, -, -, X₁, st1⟩ := Y.newCold hexec (own := own) (C := cls) (index := ik) (n := 6) hown' hk' hins hini'
    (g := F0 m pc ls rest) rfl (by rw [hb]; exact d0) (Nat.le_refl _) (Nat.le_refl _)
  generalize hT1 : (T.setVm vm₁).pushCell { cls := cX, slots := kX.instanceTypes.map defaultValue, vm := .none } = T1 at X₁ st1
  have hcat : (Value.ref T.heap.size).category = 1 := rfl
  have hcellA : T1.heap[T.heap.size]? = some (freshCell cX kX) := by rw [← hT1]; exact State.heap_pushCell_size _ _
  have d3' : decode c.code (pc + 3) = .ok (.dup, 1) := by rw [hb]; exact d3
  have d4' : decode c.code (pc + 4) = .ok (.ldc is, 2) := by rw [hb]; exact d4
  have hstr' : vk_R own is text sa s' := vk_R.warm hW0 hstr
  obtain ⟨U, hsteps, hrun, hend, hW, hsame, ce, hce, hO⟩ := X₁.ctorThrowS hexec htr (own := own) (cls := cls) (names := names) (ic := ic) hown' hcls hnames h (fun x hx => nomatch hx) hfX hkX hcellA (by rw [hhp, hT]; exact Nat.le_refl _) (msg := .ref sa) rfl
    (g := { method := m, pc := pc + 6, locals := ls, stack := .ref sa :: .ref T.heap.size :: .ref T.heap.size :: rest, locked := none }) rfl hsize rfl rfl (rest := rest) rfl
    (by rw [hb]; exact d6) (by rw [hb]; exact d9) hout hRframes (by simp only [List.map_cons, List.sum_cons, hcat]; omega) hlocks
  obtain ⟨f1, f2⟩ := vx_frame hsame
  rw [hhp] at f1 f2
  have hWs : s.WarmedH U.vm := State.WarmedH.trans hW0 hW
  have hcl : s.vm.findClass cls = some ce.cls := by
    have h9 := hO.cls
    rw [hvm] at h9
    exact h9
  have hall : s.sameButNew ({ U with vm := s.vm } : State) locs mc ms := by
    subst hA
    obtain ⟨e1, e2⟩ := hsame
    rw [State.setFrames_setFrames] at e1
    have h2 : (T.setVm s.vm).sameButNew ({ U with vm := s.vm } : State) [] (0 + 1) (0 + 6) := ⟨e1, e2⟩
    have h3 := X.same.trans h2
    rw [List.append_nil] at h3
    exact h3.mono hc hs
  refine ⟨U, ?_, .threw T.heap.size, hrun, hend, Or.inr ⟨T.heap.size, rfl, cls, ce, locs, hx U hWs.alike f1 (fun q hq => f2 q hq (fun z hz => nomatch hz)), hce, hO.vm, hcl, hWs, hall, hf⟩⟩
  refine st1 _ ?_
  show Steps p.tables e below (T1.setTop { method := m, pc := pc + 3, locals := ls, stack := .ref T.heap.size :: rest, locked := none }) _
  jvm_step X₁.here [X₁.here.top, hexec, d3', Value.category]
  exact X₁.ldcString hexec (own := own) (text := text) (index := is) (a := sa) hown' hstr'.1 hstr'.2
    (g := { method := m, pc := pc + 4, locals := ls, stack := .ref T.heap.size :: .ref T.heap.size :: rest, locked := none }) rfl d4' _ hsteps
/-- 'throw new E("text")', the text by a wide index -/
theorem vx_throwSW {cc : ByteArray} {pc : Nat} (hexec : p.tables.exec = Jvm.exec) (hb : c.code = cc) (hl : l.stackTraces = false) {own cls text : String} {names : List String} {ik is ic mc ms sa : Nat} {A : Nat → Prop}
    (hown : s.vm.findClass own = some m.cls) (hcls : Bundle.fit cls = true) (hnames : ∀ n ∈ names, Bundle.fit n = true)
    (hk : (Cond.classLink own ik cls).before args s = true) (hini : (Cond.initialized cls).before args s = true) (hstr : vk_R own is text sa s) (hat : ∀ w ∈ vx_atS own ic cls names, w.before args s = true)
    (hgood : ∀ w ∈ Cond.classLink own ik cls :: Cond.initialized cls :: vx_atS own ic cls names, vx_ot w = true)
    (hU : vx_Zq Bundle.tN "UNASSIGNED_STACK" Bundle.steD A s s.heap) (hN : vx_Zq Bundle.tN "SUPPRESSED_SENTINEL" Bundle.listD A s s.heap) (hS : va_S A s.heap H locs) (hsize : ls.size = c.maxLocals)
    (d0 : decode cc pc = .ok (.new ik, 3)) (d3 : decode cc (pc + 3) = .ok (.dup, 1)) (d4 : decode cc (pc + 4) = .ok (.ldc_w is, 3)) (d7 : decode cc (pc + 7) = .ok (.invokespecial ic, 3)) (d10 : decode cc (pc + 10) = .ok (.athrow, 1))
    (hout : ∀ x ∈ c.exceptionTable.toList, covers x (pc + 10) = false)
    (hRframes : names.length + 3 < R.frames) (hRlocals : (rest.map fun v => v.category).sum + (13 * (names.length + 1) + 43) ≤ R.locals) (hRcells : cells + 1 ≤ R.cells) (hRslots : slots + 6 ≤ R.slots) (hlocks : meth.locks = false)
    (hx : ∀ t : State, s.vm.Alike t.vm → H.size ≤ t.heap.size → (∀ q : Nat, q < H.size → t.heap[q]? = H[q]?) → XC cls s t)
    (hf : ∀ z ∈ locs, free z.base) (hc : cells + 1 ≤ mc) (hs : slots + 6 ≤ ms) :
    W p l e R s m args below meth c H locs cells slots (vx_MQ below Qc XC args s mc ms free) (F0 m pc ls rest) := by
  intro T hT X
  have htr : e.platform.stackTraces = false := (show e.platform.stackTraces = l.stackTraces by rw [X.admits.platform]).trans hl
  have Y := vx_rebase X (R' := { frames := R.frames, locals := R.locals, cells := 1, slots := 6 }) (Nat.le_refl _) (Nat.le_refl _) hRcells hRslots
  obtain ⟨s', hA⟩ : ∃ z, z = (T.setVm s.vm).setFrames (.invoking m args :: below) := ⟨_, rfl⟩
  rw [← hA] at Y
  have hvm : s'.vm = s.vm := by rw [hA]; rfl
  have hhp : s'.heap = H := by rw [hA]; exact hT
  have hW0 : s.WarmedH s'.vm := by rw [hvm]; exact State.WarmedH.refl s
  have hat' : ∀ w ∈ vx_atS own ic cls names, w.before args s' = true := fun w hw => vx_ot_at hW0 hvm.symm (hgood w (List.mem_cons_of_mem _ (List.mem_cons_of_mem _ hw))) (hat w hw)
  have hk' : (Cond.classLink own ik cls).before args s' = true := vx_ot_at hW0 hvm.symm (hgood _ List.mem_cons_self) hk
  have hini' : (Cond.initialized cls).before args s' = true := vx_ot_at hW0 hvm.symm (hgood _ (List.mem_cons_of_mem _ List.mem_cons_self)) hini
  have hU' : vx_Zq Bundle.tN "UNASSIGNED_STACK" Bundle.steD A s' s'.heap := by rw [hhp]; exact vx_Zq.moved hW0.alike (hU.kept hS.2.1)
  have hN' : vx_Zq Bundle.tN "SUPPRESSED_SENTINEL" Bundle.listD A s' s'.heap := by rw [hhp]; exact vx_Zq.moved hW0.alike (hN.kept hS.2.1)
  have h : ∀ w ∈ Bundle.ownAtoms own ic cls names, w.before args s' = true := vx_own hat' (vx_isRefq hU'.1) (vx_isRefq hN'.1) hU'.2.word hN'.2.word
  have hown' : s'.vm.findClass own = some m.cls := by rw [hvm]; exact hown
  have hins : (Cond.instantiable cls 6).before args s' = true := h _ (by simp [Bundle.ownAtoms])
  obtain ⟨vm₁, cX, kX, hfX, hkX, -, -, X₁, st1⟩ := Y.newCold hexec (own := own) (C := cls) (index := ik) (n := 6) hown' hk' hins hini'
    (g := F0 m pc ls rest) rfl (by rw [hb]; exact d0) (Nat.le_refl _) (Nat.le_refl _)
  generalize hT1 : (T.setVm vm₁).pushCell { cls := cX, slots := kX.instanceTypes.map defaultValue, vm := .none } = T1 at X₁ st1
  have hcat : (Value.ref T.heap.size).category = 1 := rfl
  have hcellA : T1.heap[T.heap.size]? = some (freshCell cX kX) := by rw [← hT1]; exact State.heap_pushCell_size _ _
  have d3' : decode c.code (pc + 3) = .ok (.dup, 1) := by rw [hb]; exact d3
  have d4' : decode c.code (pc + 4) = .ok (.ldc_w is, 3) := by rw [hb]; exact d4
  have hstr' : vk_R own is text sa s' := vk_R.warm hW0 hstr
  obtain ⟨U, hsteps, hrun, hend, hW, hsame, ce, hce, hO⟩ := X₁.ctorThrowS hexec htr (own := own) (cls := cls) (names := names) (ic := ic) hown' hcls hnames h (fun x hx => nomatch hx) hfX hkX hcellA (by rw [hhp, hT]; exact Nat.le_refl _) (msg := .ref sa) rfl
    (g := { method := m, pc := pc + 7, locals := ls, stack := .ref sa :: .ref T.heap.size :: .ref T.heap.size :: rest, locked := none }) rfl hsize rfl rfl (rest := rest) rfl
    (by rw [hb]; exact d7) (by rw [hb]; exact d10) hout hRframes (by simp only [List.map_cons, List.sum_cons, hcat]; omega) hlocks
  obtain ⟨f1, f2⟩ := vx_frame hsame
  rw [hhp] at f1 f2
  have hWs : s.WarmedH U.vm := State.WarmedH.trans hW0 hW
  have hcl : s.vm.findClass cls = some ce.cls := by
    have h9 := hO.cls
    rw [hvm] at h9
    exact h9
  have hall : s.sameButNew ({ U with vm := s.vm } : State) locs mc ms := by
    subst hA
    obtain ⟨e1, e2⟩ := hsame
    rw [State.setFrames_setFrames] at e1
    have h2 : (T.setVm s.vm).sameButNew ({ U with vm := s.vm } : State) [] (0 + 1) (0 + 6) := ⟨e1, e2⟩
    have h3 := X.same.trans h2
    rw [List.append_nil] at h3
    exact h3.mono hc hs
  refine ⟨U, ?_, .threw T.heap.size, hrun, hend, Or.inr ⟨T.heap.size, rfl, cls, ce, locs, hx U hWs.alike f1 (fun q hq => f2 q hq (fun z hz => nomatch hz)), hce, hO.vm, hcl, hWs, hall, hf⟩⟩
  refine st1 _ ?_
  show Steps p.tables e below (T1.setTop { method := m, pc := pc + 3, locals := ls, stack := .ref T.heap.size :: rest, locked := none }) _
  jvm_step X₁.here [X₁.here.top, hexec, d3', Value.category]
  exact X₁.ldcStringW hexec (own := own) (text := text) (index := is) (a := sa) hown' hstr'.1 hstr'.2
    (g := { method := m, pc := pc + 4, locals := ls, stack := .ref T.heap.size :: .ref T.heap.size :: rest, locked := none }) rfl d4' _ hsteps
end Ends
section Bodies
variable {l : Launch}
theorem vx_ofW {y : MethodName} {ws ws' : List Cond} {rm : Room} {Pc : Array Value → State → Prop} {Qc : Array Value → State → Outcome → State → Prop} {XC : String → State → State → Prop} {mc ms : Nat} {free : Addr → Prop} {cc : ByteArray} {maxL : Nat} {ret : Option FieldType}
    (hy : plainName y.cls = true) (hw : ws = Cond.code y cc maxL ret :: ws')
    (body : ∀ p e s m args below meth c s₁, BodyLoose p l y (headSpec ws rm) cc maxL ret e s m args below meth c s₁ → c.maxLocals = maxL → (∀ x ∈ c.exceptionTable.toList, False) → Pc args s →
      W p l e (headSpec ws rm).room s m args below meth c s.heap [] 0 0 (vx_MQ below Qc XC args s mc ms free) (entryFrame m args maxL)) : vx_Met l y ws rm Pc Qc XC mc ms free := by
  refine MetFree.of_bodyS (code := cc) (maxLocals := maxL) (ret := ret) hy ?_ ?_
  · intro args s m h hn
    obtain ⟨meth, c, h1, h2, h3, h4, h5, h6, -, -⟩ := Cond.code_spec hn (atoms_spec (ws := ws) h _ (by rw [hw]; exact List.mem_cons_self))
    exact ⟨meth, c, h1, h2, h3, h4, h5, h6⟩
  · intro p e s m args below meth c s₁ B hml hP _
    have hh0 : s₁.heap = s.heap := by rw [B.state]; rfl
    have ht : ∀ x ∈ c.exceptionTable.toList, False := by
      obtain ⟨meth9, c9, h1, h2, -, -, -, -, h7, -⟩ := Cond.code_spec B.named (atoms_spec (ws := ws) B.pre _ (by rw [hw]; exact List.mem_cons_self))
      cases Option.some.inj (h1.symm.trans B.method)
      cases Option.some.inj (h2.symm.trans (Stand.of_body B).code)
      intro x hx
      rw [Array.isEmpty_iff.mp h7] at hx
      cases hx
    obtain ⟨t, a1, o, b1, b2, b3⟩ := body p e s m args below meth c s₁ B hml ht hP s₁ hh0 (Stand.of_body B)
    exact ⟨t, o, a1, b1, b2, b3⟩
/-- the table of a body with handlers -/
theorem vx_table {p : Program} {x y : MethodName} {S : Spec} {cc bytes : ByteArray} {maxL maxL' : Nat} {ret ret' : Option FieldType} {e : Env} {s s₁ : State} {m : MethodId} {args : Array Value} {below : List Frame} {meth : Method} {c : Code} {hh : List (Nat × Nat × Nat × Nat)}
    (B : BodyLoose p l y S cc maxL ret e s m args below meth c s₁) (h : (Cond.codeWith y bytes maxL' ret' hh).before args s = true) : c.exceptionTable.toList = tableOf hh := by
  obtain ⟨m9, meth9, c9, hn9, h1, h2, -, -, h6, -⟩ := Cond.codeWith_spec h
  cases Option.some.inj (hn9.symm.trans B.named)
  cases Option.some.inj (h1.symm.trans B.method)
  cases Option.some.inj (h2.symm.trans (Stand.of_body B).code)
  rw [← h6, table_eq]
end Bodies
end VXA
/-! ===== END ===== -/
/-! ===== BEGIN a static call of a method with an exception table ===== -/
section VXS
variable {p : Program} {l : Launch} {e : Env} {R : Room} {s : State} {m : MethodId} {args : Array Value} {below : List Frame} {meth : Method} {c : Code} {T : State} {H : Heap} {locs : List Loc} {cells slots : Nat}
abbrev vx_CSW (R : Room) (s : State) (args : Array Value) (own : String) (index : Nat) (y : MethodName) (bytes : ByteArray) (maxL : Nat) (ret : Option FieldType) (hh : List (Nat × Nat × Nat × Nat)) (ws : List Cond) (rm : Room) (mc ms n : Nat) : Prop :=
  (rm.cells = mc ∧ rm.slots = ms ∧ rm.frames + 1 ≤ R.frames ∧ 8 + (maxL + 11) + rm.locals ≤ R.locals ∧ (∀ w ∈ ws, ∀ (a' : Array Value) (U : State), s.WarmedH U.vm → w.before a' U = true) ∧ Cond.codeWith y bytes maxL ret hh ∈ ws) ∧
  (Cond.codeWith y bytes maxL ret hh).before args s = true ∧ (Cond.initialized y.cls).before args s = true ∧ (y.cls ≠ "java/lang/invoke/MethodHandle" ∧ y.cls ≠ "java/lang/invoke/VarHandle") ∧
  (∀ sig, parseMethodDescriptor y.desc = some sig → n = sig.parameters.length) ∧ (Cond.methodLink own index y).before args s = true ∧ (Cond.static y).before args s = true
theorem vx_cwSW {own : String} {index maxL mc ms : Nat} {y : MethodName} {bytes : ByteArray} {ret : Option FieldType} {hh : List (Nat × Nat × Nat × Nat)} {Ts ws ws' : List Cond} {rm : Room} (n : Nat) (ht : ∀ w ∈ Ts, w.before args s = true) (hT : GoodIn Ts (va_wsS own index y ws)) (hw : ws = Cond.codeWith y bytes maxL ret hh :: ws') (hrc : rm.cells = mc) (hrs : rm.slots = ms)
    (hd : y.cls ≠ "java/lang/invoke/MethodHandle" ∧ y.cls ≠ "java/lang/invoke/VarHandle" ∧ (parseMethodDescriptor y.desc).map (fun d => d.parameters.length) = some n) (hR : rm.frames + 1 ≤ R.frames ∧ 8 + (maxL + 11) + rm.locals ≤ R.locals) :
    vx_CSW R s args own index y bytes maxL ret hh ws rm mc ms n := by
  have ok : ∀ w ∈ va_wsS own index y ws, w.before args s = true := fun w h => ht w (hT w h).1
  have hG : GoodIn Ts ws := fun w h => hT w (by unfold va_wsS; exact List.mem_append_right _ h)
  have hc : Cond.codeWith y bytes maxL ret hh ∈ ws := by rw [hw]; exact List.mem_cons_self
  refine ⟨⟨hrc, hrs, hR.1, hR.2, pay_in ht hG, hc⟩, ht _ (hG _ hc).1, ok _ (by simp [va_wsS]), ⟨hd.1, hd.2.1⟩, fun sig h => ?_, ok _ (by simp [va_wsS]), ok _ (by simp [va_wsS])⟩
  have h2 := hd.2.2
  rw [h] at h2
  exact (Option.some.inj h2).symm
theorem vx_callSW (X : Stand p l e R s m args below meth c T locs cells slots) (hexec : p.tables.exec = Jvm.exec) {own : String} {index : Nat} {y : MethodName} {bytes : ByteArray} {maxL : Nat} {ret : Option FieldType} {hh : List (Nat × Nat × Nat × Nat)}
    (hown : s.vm.findClass own = some m.cls) (hlink : (Cond.methodLink own index y).before args s = true) (hstat : (Cond.static y).before args s = true) (hinit : (Cond.initialized y.cls).before args s = true)
    (hcode : (Cond.codeWith y bytes maxL ret hh).before args s = true) (hy : y.cls ≠ "java/lang/invoke/MethodHandle" ∧ y.cls ≠ "java/lang/invoke/VarHandle")
    {W9 : Nat} {Pre : Pt → Array Value → Prop} {Post : Pt → Array Value → Option Value → Pt → Prop} (hK : Back l R p e below s args y 3 W9 Pre Post)
    {g : JFrame} (hg : g.method = m) (hsize : g.locals.size = c.maxLocals) {argsL rest : List Value} (hlen : ∀ sig, parseMethodDescriptor y.desc = some sig → argsL.length = sig.parameters.length)
    (hstack : g.stack = argsL.reverse ++ rest) (hW : 2 * g.monitorRoom + (rest.map fun v => v.category).sum ≤ W9) (hdg : decode c.code g.pc = .ok (.invokestatic index, 3))
    (hpre : ∀ vm₁, s.WarmedH vm₁ → Pre ⟨T.setVm vm₁, locs, cells, slots⟩ argsL.toArray) :
    ∃ (v : Option Value) (vm₁ : Vm) (B : Pt), s.WarmedH vm₁ ∧ Stand p l e R s m args below meth c B.U B.locs B.cells B.slots ∧ Post ⟨T.setVm vm₁, locs, cells, slots⟩ argsL.toArray v B ∧
      ∀ target, Steps p.tables e below (B.U.setTop { g with pc := g.pc + 3, stack := v.toList ++ rest }) target → Steps p.tables e below (T.setTop g) target := by
  obtain ⟨mk, methM, cM, hnamed, hmethM, -, -, -, -, -, -, hsigM⟩ := Cond.codeWith_spec hcode
  have hstatic : methM.isStatic = true := Cond.static_spec hnamed hmethM hstat
  obtain ⟨kP, hkP, -⟩ := className_of_methodNamed hnamed
  have hinitP : kP.init = .initialized := Cond.initialized_spec (findClass_of_methodNamed hnamed) hkP hinit
  obtain ⟨vm₁, X₁, hstep₁⟩ := X.invokestatic hexec hown hlink hnamed hmethM hstatic hkP hinitP hy (g := g) hg (argsL := argsL) (rest := rest) (hlen _ hsigM) hstack hdg
  obtain ⟨v, B, X', hpost, hsteps⟩ := hK m meth c ⟨T.setVm vm₁, locs, cells, slots⟩ { g with stack := rest } (.invokestatic index) mk argsL.toArray X₁ hg hsize hdg hW (X₁.named hnamed) (hpre vm₁ X₁.warmed)
  exact ⟨v, vm₁, B, X₁.warmed, X', hpost, fun target h => hstep₁ _ fun acts => by rw [doInvoke_state]; exact hsteps.trans h⟩
theorem vx_runSW {y : MethodName} {bytes cc : ByteArray} {maxL nL mc ms n index : Nat} {ret : Option FieldType} {hh : List (Nat × Nat × Nat × Nat)} {ws : List Cond} {rm : Room} {Pc : Array Value → State → Prop} {Qc : Array Value → State → Outcome → State → Prop} {free : Addr → Prop} {Ts : List Cond} {own : String} {As rest : List Value} {g : JFrame}
    (S : CallFix p m c cc nL s args Ts own) (hM : Met l y ws rm Pc Qc mc ms free) (cw : vx_CSW R s args own index y bytes maxL ret hh ws rm mc ms n) (hp : PreS s H Pc As)
    (hg : g.method = m) (hn : As.length = n) (hsize : g.locals.size = nL) (hstack : g.stack = As.reverse ++ rest) (hW : 2 * g.monitorRoom + (rest.map fun v => v.category).sum ≤ 8) (hdg : decode cc g.pc = .ok (.invokestatic index, 3)) (hf : cells + mc ≤ R.cells ∧ slots + ms ≤ R.slots) :
    va_Run p l e R s m args below meth c H locs cells slots mc ms g rest (Qc As.toArray) (free) := by
  obtain ⟨⟨hrc, hrs, hfr, hlo, hws, hcw⟩, hcode, hini, hy, hlen, hl, hstt⟩ := cw
  have hK : Back l R p e below s args y 3 8 (PreOf R mc ms Pc) (PostOf Qc mc ms free) := va_backW (hh := hh) (bytes := bytes) (maxL := maxL) (ret := ret) hM hp.1 hrc hrs hfr hlo hws hcw (fun a' U hW => word_at hW (Or.inl (by first | rfl | simp [Cond.onTables, Cond.keeps, Cond.steady])) hini)
  obtain ⟨hx, hb, hml, ho, -⟩ := S
  intro T hT X
  obtain ⟨v, vm₁, ⟨U', l2, c2, s2⟩, hW₁, X', ⟨g', mk, t, L, e1, e2, hq, h1, hL, h2, h3⟩, st⟩ := vx_callSW X hx (hh := hh) (bytes := bytes) (maxL := maxL) (ret := ret) ho hl hstt hini hcode hy hK hg (hsize.trans hml.symm) (argsL := As) (rest := rest) (fun sig h => hn.trans (hlen sig h)) hstack hW (by rw [hb]; exact hdg)
    (fun vm₁ hW₁ => ⟨hf.1, hf.2, hp.2 (T.setVm vm₁) hT hW₁⟩)
  dsimp only [Pt.U, Pt.locs, Pt.cells, Pt.slots] at X' e1 e2 h1 h2 h3 st
  subst h1; subst h2; subst h3
  exact ⟨v, (T.setVm vm₁).calling g' mk As.toArray, t, U', L, hT, X', hL, e1, e2, hq, st⟩
/-- not caught here, past rows that name other classes: it goes on to the caller -/
theorem vx_outP {p : Program} {l : Launch} {e : Env} {R : Room} {s : State} {m : MethodId} {args : Array Value} {below : List Frame} {meth : Method} {c : Code} {H : Heap} {locs : List Loc} {cells slots : Nat} {free : Addr → Prop} {ls : Array Slot} {rest : List Value} {Qc : Array Value → State → Outcome → State → Prop} {XC : String → State → State → Prop}
    {pc : Nat} {own E : String} {ce : Cell} {q : Addr} {mc ms : Nat} (hown : s.vm.findClass own = some m.cls) (hlocks : meth.locks = false)
    (hpass : ∀ z ∈ c.exceptionTable.toList, covers z pc = false ∨ (z.catchType ≠ 0 ∧ ∃ nm : String, (Cond.classLink own z.catchType nm).before args s = true ∧ va_Nc E nm s)) (hcell : H[q]? = some ce) (hv : ce.vm = .none) (hcl : s.vm.findClass E = some ce.cls)
    (hx : ∀ t : State, t.heap = H → s.vm.Alike t.vm → XC E s t) (hf : ∀ z ∈ locs, free z.base) (hc : cells ≤ mc) (hs : slots ≤ ms) :
    vx_W p l e R s m args below meth c H locs cells slots (vx_MQ below Qc XC args s mc ms free) (F0 m pc ls rest) q := by
  intro T hT X
  have hpl : e.platform.magicAccessors = ({} : Platform).magicAccessors := by rw [X.admits.platform]
  obtain ⟨vm', hW', X', st⟩ := X.outThrough hlocks q (g := F0 m pc ls rest) rfl rfl rfl (cell := ce) (by rw [hT]; exact hcell) (by rw [hv]; rfl)
    (by obtain ⟨k9, h9, -⟩ := Vm.findClass_spec hcl; exact ⟨k9, h9⟩) (fun z hz => by
      rcases hpass z hz with h | ⟨hz0, nm, hl1, hn1⟩
      · exact Or.inl h
      · obtain ⟨c6, hc6, hcl6⟩ := Cond.classLink_spec hown hl1 e.platform hpl
        obtain ⟨a8, b8, h1, h2, h3⟩ := hn1
        cases Option.some.inj (h1.symm.trans hcl)
        cases Option.some.inj (h2.symm.trans hc6)
        exact Or.inr ⟨hz0, _, hcl6, h3⟩)
  obtain ⟨g₀, hfr⟩ := X'.frames_eq
  have hcell9 : ((T.setVm vm').setFrames (.throwing q :: below)).heap[q]? = some ce := by
    show T.heap[q]? = some ce
    rw [hT]; exact hcell
  have hend : Ended ((T.setVm vm').setFrames (.throwing q :: below)) below (.threw q) := State.frames_setFrames _ (State.cur_lt_of_frames hfr)
  refine ⟨(T.setVm vm').setFrames (.throwing q :: below), ?_, .threw q, X'.here.running, hend, Or.inr ⟨q, rfl, E, ce, locs, hx _ hT (X'.ends _).1.alike, hcell9, hv, hcl, (X'.ends _).1, (X'.ends _).2.mono hc hs, hf⟩⟩
  rw [X.pushThrowing_eq]
  exact st
/-- a thing of a world lies in the heap -/
theorem vx_lt {D : va_G} {cl : List vw_C} {ws : va_W} {H1 : Heap} (h : va_P D cl ws H1) {k : Nat} {q : Nat × va_E} (hk : ws[k]? = some q) : q.1 < H1.size := (h k q hk).lt
end VXS
/-! ===== END ===== -/
/-! ===== BEGIN methods with a table of their own: called by a name, returning or throwing ===== -/
section VXH
/-! vx_backW, vx_callVX, vx_callSX, vx_callVW, vx_runVW, vx_runVX, vx_runSX, vx_ofWH follow the same proofs as their sisters above (Free/Laws.lean, Shelf42/LK1.lean); vx_outP calls Shelf42/NT130.lean (outThrough). -/
section
variable {l : Launch} {R : Room} {p : Program} {e : Env} {below : List Frame} {s : State} {sargs : Array Value} {y : MethodName} {len W9 : Nat}
theorem vx_backW {ws : List Cond} {rm : Room} {Pc : Array Value → State → Prop} {Qc : Array Value → State → Outcome → State → Prop} {XC : String → State → State → Prop} {mc ms : Nat} {free : Addr → Prop} {bytes : ByteArray} {maxL : Nat} {ret : Option FieldType} {hh : List (Nat × Nat × Nat × Nat)}
    (hM : vx_Met l y ws rm Pc Qc XC mc ms free) (hblind : FrameBlind Pc) (hrc : rm.cells = mc) (hrs : rm.slots = ms)
    (hframes : rm.frames + 1 ≤ R.frames) (hlocals : W9 + (maxL + 11) + rm.locals ≤ R.locals)
    (hws : ∀ w ∈ ws, ∀ a' U, s.WarmedH U.vm → w.before a' U = true) (hcode : Cond.codeWith y bytes maxL ret hh ∈ ws) (hinit : ∀ a' U, s.WarmedH U.vm → (Cond.initialized y.cls).before a' U = true) :
    vx_Back l R p e below s sargs y len W9 (PreOf R mc ms Pc) (PostOf Qc mc ms free) (vx_Post XC mc ms free) := by
  intro m meth c A g ig mk a X hg hsize hdg hW hn hp
  have h1 : (headSpec ws rm).pre.before a A.U = true := atoms_intro fun w hw => hws w hw _ _ X.warmed
  have h2 : (Cond.codeWith y bytes maxL ret hh).before a A.U = true := hws _ hcode _ _ X.warmed
  have h3 : (Cond.initialized y.cls).before a A.U = true := hinit _ _ X.warmed
  have h4 : A.cells + (headSpec ws rm).room.cells ≤ R.cells := by rw [show (headSpec ws rm).room.cells = mc from hrc]; exact hp.1
  have h5 : A.slots + (headSpec ws rm).room.slots ≤ R.slots := by rw [show (headSpec ws rm).room.slots = ms from hrs]; exact hp.2.1
  have hPc : Pc a (A.U.calling g mk a) := hblind _ _ _ _ hp.2.2
  obtain ⟨U, Ls, c0, s0⟩ := A
  dsimp only [Pt.U, Pt.locs, Pt.cells, Pt.slots] at h1 h2 h3 h4 h5 X hn hPc ⊢
  obtain ⟨m9, methY, cY, hn9, hmY, hcY, -, hlY, -⟩ := Cond.codeWith_spec h2
  cases Option.some.inj (hn9.symm.trans hn)
  obtain ⟨kY, hkY, -⟩ := className_of_methodNamed hn
  have hinitY : kY.init = .initialized := Cond.initialized_spec (findClass_of_methodNamed hn) hkY h3
  have h : At U g.method c below := by rw [hg]; exact X.here
  have hlocals9 : W9 + (maxL + 11) + (headSpec ws rm).room.locals ≤ R.locals := hlocals
  have happ : (headSpec ws rm).appliesLoose y e.platform (U.calling g mk a) = true :=
    Spec.appliesLoose_calling (g := g) h hdg hn hkY hinitY
      (X.room_calling (g := g) (R' := (headSpec ws rm).room) hsize hmY hcY hframes (by rw [hlY]; omega) h4 h5) h1
  obtain ⟨mid, hmid⟩ := h.above
  have hfr : (U.setTop g).frames = (.java g :: mid) ++ below := by rw [State.frames_setTop' g h.top, hmid]; rfl
  obtain ⟨o, s₂, hsteps, -, hend, hq⟩ := Steps.callFree hM p X.admits X.cas X.clock (acts := []) hfr happ hPc trivial
  have hq' : vx_Q Qc XC mc ms free a (U.calling g mk a) o s₂ := hq
  rw [State.frames_setTop' g h.top] at hend
  obtain ⟨g₀, hg0⟩ := Option.isSome_iff_exists.mp h.top
  obtain ⟨r, hr⟩ := State.topJava?_eq_some.mp hg0
  have hr' : (({ U with heap := s₂.heap, slotsUsed := s₂.slotsUsed } : State).setVm s₂.vm).frames = .java g₀ :: r := hr
  rcases hq' with ⟨hqc, L, hfe, hL⟩ | ⟨q, rfl, E, ce, L, hx, hce, hcv, hcl, hW₂, hsm, hL⟩
  · obtain ⟨⟨v, rfl⟩, hW₂, e2, q2, q3, q4, q5, q6⟩ := id hfe
    have e3 : s₂ = ({ (U.calling g mk a).setFrames s₂.frames with heap := s₂.heap, slotsUsed := s₂.slotsUsed } : State).setVm s₂.vm := by
      have : s₂ = ({ s₂ with vm := (U.calling g mk a).vm } : State).setVm s₂.vm := rfl
      rw [e2] at this
      exact this
    obtain ⟨c₂, i₂, len₂, hc₂, hd₂, hf₂⟩ := hend
    have hW' : U.WarmedH s₂.vm := hW₂
    have hcc : c₂ = c := by
      have h1 : s₂.code? g.method = U.code? g.method := by
        rw [State.code?_eq, State.code?_eq, hW'.alike.method?]
      exact Option.some.inj (hc₂.symm.trans (h1.trans h.code))
    subst hcc
    have hlen : len₂ = len := by rw [hdg] at hd₂; cases hd₂; rfl
    subst hlen
    have hs₂ : s₂ = (({ U with heap := s₂.heap, slotsUsed := s₂.slotsUsed } : State).setVm s₂.vm).setTop { g with pc := g.pc + len₂, stack := v.toList ++ g.stack } := by
      refine e3.trans ?_
      rw [hf₂, State.calling_eq h.top, State.setFrames_setFrames, State.setTop_of_frames _ hr', hr]
      rfl
    have hsame : U.sameButNew ({ U with heap := s₂.heap, slotsUsed := s₂.slotsUsed } : State) L mc ms := by
      refine ⟨?_, q2, q3, q4, q5, q6⟩
      obtain ⟨t, ht, -⟩ := State.frames_cons hr
      show ({ U with heap := s₂.heap, slotsUsed := s₂.slotsUsed } : State) = { U.setFrames U.frames with heap := s₂.heap, slotsUsed := s₂.slotsUsed }
      rw [State.setFrames_self ht]
    subst hg
    refine Or.inl ⟨v, ⟨(({ U with heap := s₂.heap, slotsUsed := s₂.slotsUsed } : State).setVm s₂.vm), Ls ++ L, c0 + mc, s0 + ms⟩,
      ⟨X.admits, X.cas, X.clock, X.frames, X.room, X.hears, X.method, X.code, (X.here.setHeapUsed s₂.heap s₂.slotsUsed).setVm hW'.alike, X.tail, State.WarmedH.trans X.warmed hW', X.limits, X.bytes, X.same.trans (hsame.setVm s.vm)⟩,
      ⟨g, mk, s₂, L, rfl, rfl, hqc, rfl, hL, rfl, rfl⟩, ?_⟩
    show Steps p.tables e below _ ((({ U with heap := s₂.heap, slotsUsed := s₂.slotsUsed } : State).setVm s₂.vm).setTop { g with pc := g.pc + len₂, stack := v.toList ++ g.stack })
    rw [← hs₂]
    exact hsteps
  · obtain ⟨e2, q2, q3, q4, q5, q6⟩ := id hsm
    have e3 : s₂ = ({ (U.calling g mk a).setFrames s₂.frames with heap := s₂.heap, slotsUsed := s₂.slotsUsed } : State).setVm s₂.vm := by
      have : s₂ = ({ s₂ with vm := (U.calling g mk a).vm } : State).setVm s₂.vm := rfl
      rw [e2] at this
      exact this
    have hf₂ : s₂.frames = .throwing q :: .java g :: U.frames.tail := hend
    have hW' : U.WarmedH s₂.vm := hW₂
    have hs₂ : s₂ = ((({ U with heap := s₂.heap, slotsUsed := s₂.slotsUsed } : State).setVm s₂.vm).setTop g).pushFrame (.throwing q) := by
      refine e3.trans ?_
      rw [hf₂, State.calling_eq h.top, State.setFrames_setFrames, State.pushFrame, State.frames_setTop _ hr', State.setTop_of_frames _ hr', State.setFrames_setFrames, hr]
      rfl
    have hsame : U.sameButNew ({ U with heap := s₂.heap, slotsUsed := s₂.slotsUsed } : State) L mc ms := by
      refine ⟨?_, q2, q3, q4, q5, q6⟩
      obtain ⟨t, ht, -⟩ := State.frames_cons hr
      show ({ U with heap := s₂.heap, slotsUsed := s₂.slotsUsed } : State) = { U.setFrames U.frames with heap := s₂.heap, slotsUsed := s₂.slotsUsed }
      rw [State.setFrames_self ht]
    subst hg
    refine Or.inr ⟨q, ⟨(({ U with heap := s₂.heap, slotsUsed := s₂.slotsUsed } : State).setVm s₂.vm), Ls ++ L, c0 + mc, s0 + ms⟩,
      ⟨X.admits, X.cas, X.clock, X.frames, X.room, X.hears, X.method, X.code, (X.here.setHeapUsed s₂.heap s₂.slotsUsed).setVm hW'.alike, X.tail, State.WarmedH.trans X.warmed hW', X.limits, X.bytes, X.same.trans (hsame.setVm s.vm)⟩,
      ⟨g, mk, s₂, L, E, ce, rfl, rfl, hx, hce, hcv, hcl, rfl, hL, rfl, rfl⟩, ?_⟩
    show Steps p.tables e below _ (((({ U with heap := s₂.heap, slotsUsed := s₂.slotsUsed } : State).setVm s₂.vm).setTop g).pushFrame (.throwing q))
    rw [← hs₂]
    exact hsteps
end
variable {p : Program} {l : Launch} {e : Env} {R : Room} {s : State} {m : MethodId} {args : Array Value} {below : List Frame} {meth : Method} {c : Code} {T : State} {H : Heap} {locs : List Loc} {cells slots : Nat}
theorem vx_callVX (X : Stand p l e R s m args below meth c T locs cells slots) (hexec : p.tables.exec = Jvm.exec) {own C : String} {index : Nat} {y : MethodName} {bytes : ByteArray} {maxL : Nat} {ret : Option FieldType} {hh : List (Nat × Nat × Nat × Nat)}
    (hown : s.vm.findClass own = some m.cls) (hlink : (Cond.methodLink own index y).before args s = true) (hinst : (Cond.instanceMethod y).before args s = true) (hsel : (Cond.selects C y y).before args s = true)
    (hcode : (Cond.codeWith y bytes maxL ret hh).before args s = true) (hy : y.cls ≠ "java/lang/invoke/MethodHandle" ∧ y.cls ≠ "java/lang/invoke/VarHandle")
    {W9 : Nat} {Pre : Pt → Array Value → Prop} {Post : Pt → Array Value → Option Value → Pt → Prop} {PostX : Pt → Array Value → Addr → Pt → Prop} (hK : vx_Back l R p e below s args y 3 W9 Pre Post PostX)
    {b : Addr} {cellB : Cell} (hcell : T.heap[b]? = some cellB) (hobj : cellB.vm.isStatics = false) (hcls : s.vm.findClass C = some cellB.cls)
    {g : JFrame} (hg : g.method = m) (hsize : g.locals.size = c.maxLocals) {argsL rest : List Value} (hlen : ∀ sig, parseMethodDescriptor y.desc = some sig → argsL.length = sig.parameters.length)
    (hstack : g.stack = argsL.reverse ++ .ref b :: rest) (hW : 2 * g.monitorRoom + (rest.map fun v => v.category).sum ≤ W9) (hdg : decode c.code g.pc = .ok (.invokevirtual index, 3))
    (hpre : ∀ vm₁, s.WarmedH vm₁ → Pre ⟨T.setVm vm₁, locs, cells, slots⟩ (Value.ref b :: argsL).toArray) :
    (∃ (v : Option Value) (vm₁ : Vm) (B : Pt), s.WarmedH vm₁ ∧ Stand p l e R s m args below meth c B.U B.locs B.cells B.slots ∧ Post ⟨T.setVm vm₁, locs, cells, slots⟩ (Value.ref b :: argsL).toArray v B ∧
      ∀ target, Steps p.tables e below (B.U.setTop { g with pc := g.pc + 3, stack := v.toList ++ rest }) target → Steps p.tables e below (T.setTop g) target) ∨
    (∃ (q : Addr) (vm₁ : Vm) (B : Pt), s.WarmedH vm₁ ∧ Stand p l e R s m args below meth c B.U B.locs B.cells B.slots ∧ PostX ⟨T.setVm vm₁, locs, cells, slots⟩ (Value.ref b :: argsL).toArray q B ∧
      Steps p.tables e below (T.setTop g) ((B.U.setTop { g with stack := rest }).pushFrame (.throwing q))) := by
  obtain ⟨mk, methM, hnamed, hmethM, hstM, habM⟩ := Cond.instanceMethod_spec hinst
  obtain ⟨m8, methM', cM, hn8, hmethM', -, -, -, -, -, -, hsigM⟩ := Cond.codeWith_spec hcode
  cases Option.some.inj (hn8.symm.trans hnamed)
  cases hmethM.symm.trans hmethM'
  obtain ⟨c2, r2, m2, q1, q2, q3, q4, kP, hkP, hkPi⟩ := Cond.selects_spec hsel
  cases hcls.symm.trans q1
  cases (State.methodFound?_of_named hnamed hy).symm.trans q2
  cases hnamed.symm.trans q3
  have hselP : selectMethod e.platform s.vm cellB.cls mk = .method mk := by rw [Launch.admits_selectMethod X.admits]; exact q4
  obtain ⟨vm₁, X₁, hstep₁⟩ := X.invokevirtual hexec hown hlink hnamed hmethM hstM hkP hkPi hy (a := b) (cell := cellB) hcell
    (fun z h => by rw [h] at hobj; cases hobj) hselP hmethM habM hkP hkPi (g := g) hg (argsL := argsL) (rest := rest) (hlen _ hsigM) hstack hdg
  rcases hK m meth c ⟨T.setVm vm₁, locs, cells, slots⟩ { g with stack := rest } (.invokevirtual index) mk (Value.ref b :: argsL).toArray X₁ hg hsize hdg hW (X₁.named hnamed) (hpre vm₁ X₁.warmed) with ⟨v, B, X', hpost, hsteps⟩ | ⟨q, B, X', hpost, hsteps⟩
  · exact Or.inl ⟨v, vm₁, B, X₁.warmed, X', hpost, fun target h => hstep₁ _ fun acts => by rw [doInvoke_state]; exact hsteps.trans h⟩
  · exact Or.inr ⟨q, vm₁, B, X₁.warmed, X', hpost, hstep₁ _ fun acts => by rw [doInvoke_state]; exact hsteps⟩
theorem vx_callSX (X : Stand p l e R s m args below meth c T locs cells slots) (hexec : p.tables.exec = Jvm.exec) {own : String} {index : Nat} {y : MethodName} {bytes : ByteArray} {maxL : Nat} {ret : Option FieldType} {hh : List (Nat × Nat × Nat × Nat)}
    (hown : s.vm.findClass own = some m.cls) (hlink : (Cond.methodLink own index y).before args s = true) (hstat : (Cond.static y).before args s = true) (hinit : (Cond.initialized y.cls).before args s = true)
    (hcode : (Cond.codeWith y bytes maxL ret hh).before args s = true) (hy : y.cls ≠ "java/lang/invoke/MethodHandle" ∧ y.cls ≠ "java/lang/invoke/VarHandle")
    {W9 : Nat} {Pre : Pt → Array Value → Prop} {Post : Pt → Array Value → Option Value → Pt → Prop} {PostX : Pt → Array Value → Addr → Pt → Prop} (hK : vx_Back l R p e below s args y 3 W9 Pre Post PostX)
    {g : JFrame} (hg : g.method = m) (hsize : g.locals.size = c.maxLocals) {argsL rest : List Value} (hlen : ∀ sig, parseMethodDescriptor y.desc = some sig → argsL.length = sig.parameters.length)
    (hstack : g.stack = argsL.reverse ++ rest) (hW : 2 * g.monitorRoom + (rest.map fun v => v.category).sum ≤ W9) (hdg : decode c.code g.pc = .ok (.invokestatic index, 3))
    (hpre : ∀ vm₁, s.WarmedH vm₁ → Pre ⟨T.setVm vm₁, locs, cells, slots⟩ argsL.toArray) :
    (∃ (v : Option Value) (vm₁ : Vm) (B : Pt), s.WarmedH vm₁ ∧ Stand p l e R s m args below meth c B.U B.locs B.cells B.slots ∧ Post ⟨T.setVm vm₁, locs, cells, slots⟩ argsL.toArray v B ∧
      ∀ target, Steps p.tables e below (B.U.setTop { g with pc := g.pc + 3, stack := v.toList ++ rest }) target → Steps p.tables e below (T.setTop g) target) ∨
    (∃ (q : Addr) (vm₁ : Vm) (B : Pt), s.WarmedH vm₁ ∧ Stand p l e R s m args below meth c B.U B.locs B.cells B.slots ∧ PostX ⟨T.setVm vm₁, locs, cells, slots⟩ argsL.toArray q B ∧
      Steps p.tables e below (T.setTop g) ((B.U.setTop { g with stack := rest }).pushFrame (.throwing q))) := by
  obtain ⟨mk, methM, cM, hnamed, hmethM, -, -, -, -, -, -, hsigM⟩ := Cond.codeWith_spec hcode
  have hstatic : methM.isStatic = true := Cond.static_spec hnamed hmethM hstat
  obtain ⟨kP, hkP, -⟩ := className_of_methodNamed hnamed
  have hinitP : kP.init = .initialized := Cond.initialized_spec (findClass_of_methodNamed hnamed) hkP hinit
  obtain ⟨vm₁, X₁, hstep₁⟩ := X.invokestatic hexec hown hlink hnamed hmethM hstatic hkP hinitP hy (g := g) hg (argsL := argsL) (rest := rest) (hlen _ hsigM) hstack hdg
  rcases hK m meth c ⟨T.setVm vm₁, locs, cells, slots⟩ { g with stack := rest } (.invokestatic index) mk argsL.toArray X₁ hg hsize hdg hW (X₁.named hnamed) (hpre vm₁ X₁.warmed) with ⟨v, B, X', hpost, hsteps⟩ | ⟨q, B, X', hpost, hsteps⟩
  · exact Or.inl ⟨v, vm₁, B, X₁.warmed, X', hpost, fun target h => hstep₁ _ fun acts => by rw [doInvoke_state]; exact hsteps.trans h⟩
  · exact Or.inr ⟨q, vm₁, B, X₁.warmed, X', hpost, hstep₁ _ fun acts => by rw [doInvoke_state]; exact hsteps⟩
theorem vx_callVW (X : Stand p l e R s m args below meth c T locs cells slots) (hexec : p.tables.exec = Jvm.exec) {own C : String} {index : Nat} {y : MethodName} {bytes : ByteArray} {maxL : Nat} {ret : Option FieldType} {hh : List (Nat × Nat × Nat × Nat)}
    (hown : s.vm.findClass own = some m.cls) (hlink : (Cond.methodLink own index y).before args s = true) (hinst : (Cond.instanceMethod y).before args s = true) (hsel : (Cond.selects C y y).before args s = true)
    (hcode : (Cond.codeWith y bytes maxL ret hh).before args s = true) (hy : y.cls ≠ "java/lang/invoke/MethodHandle" ∧ y.cls ≠ "java/lang/invoke/VarHandle")
    {W9 : Nat} {Pre : Pt → Array Value → Prop} {Post : Pt → Array Value → Option Value → Pt → Prop} (hK : Back l R p e below s args y 3 W9 Pre Post)
    {b : Addr} {cellB : Cell} (hcell : T.heap[b]? = some cellB) (hobj : cellB.vm.isStatics = false) (hcls : s.vm.findClass C = some cellB.cls)
    {g : JFrame} (hg : g.method = m) (hsize : g.locals.size = c.maxLocals) {argsL rest : List Value} (hlen : ∀ sig, parseMethodDescriptor y.desc = some sig → argsL.length = sig.parameters.length)
    (hstack : g.stack = argsL.reverse ++ .ref b :: rest) (hW : 2 * g.monitorRoom + (rest.map fun v => v.category).sum ≤ W9) (hdg : decode c.code g.pc = .ok (.invokevirtual index, 3))
    (hpre : ∀ vm₁, s.WarmedH vm₁ → Pre ⟨T.setVm vm₁, locs, cells, slots⟩ (Value.ref b :: argsL).toArray) :
    ∃ (v : Option Value) (vm₁ : Vm) (B : Pt), s.WarmedH vm₁ ∧ Stand p l e R s m args below meth c B.U B.locs B.cells B.slots ∧ Post ⟨T.setVm vm₁, locs, cells, slots⟩ (Value.ref b :: argsL).toArray v B ∧
      ∀ target, Steps p.tables e below (B.U.setTop { g with pc := g.pc + 3, stack := v.toList ++ rest }) target → Steps p.tables e below (T.setTop g) target := by
  obtain ⟨mk, methM, hnamed, hmethM, hstM, habM⟩ := Cond.instanceMethod_spec hinst
  obtain ⟨m8, methM', cM, hn8, hmethM', -, -, -, -, -, -, hsigM⟩ := Cond.codeWith_spec hcode
  cases Option.some.inj (hn8.symm.trans hnamed)
  cases hmethM.symm.trans hmethM'
  obtain ⟨c2, r2, m2, q1, q2, q3, q4, kP, hkP, hkPi⟩ := Cond.selects_spec hsel
  cases hcls.symm.trans q1
  cases (State.methodFound?_of_named hnamed hy).symm.trans q2
  cases hnamed.symm.trans q3
  have hselP : selectMethod e.platform s.vm cellB.cls mk = .method mk := by rw [Launch.admits_selectMethod X.admits]; exact q4
  obtain ⟨vm₁, X₁, hstep₁⟩ := X.invokevirtual hexec hown hlink hnamed hmethM hstM hkP hkPi hy (a := b) (cell := cellB) hcell
    (fun z h => by rw [h] at hobj; cases hobj) hselP hmethM habM hkP hkPi (g := g) hg (argsL := argsL) (rest := rest) (hlen _ hsigM) hstack hdg
  obtain ⟨v, B, X', hpost, hsteps⟩ := hK m meth c ⟨T.setVm vm₁, locs, cells, slots⟩ { g with stack := rest } (.invokevirtual index) mk (Value.ref b :: argsL).toArray X₁ hg hsize hdg hW (X₁.named hnamed) (hpre vm₁ X₁.warmed)
  exact ⟨v, vm₁, B, X₁.warmed, X', hpost, fun target h => hstep₁ _ fun acts => by rw [doInvoke_state]; exact hsteps.trans h⟩
abbrev vx_CVW (R : Room) (s : State) (args : Array Value) (own C : String) (index : Nat) (y : MethodName) (bytes : ByteArray) (maxL : Nat) (ret : Option FieldType) (hh : List (Nat × Nat × Nat × Nat)) (ws : List Cond) (rm : Room) (mc ms n : Nat) : Prop :=
  (rm.cells = mc ∧ rm.slots = ms ∧ rm.frames + 1 ≤ R.frames ∧ 8 + (maxL + 11) + rm.locals ≤ R.locals ∧ (∀ w ∈ ws, ∀ (a' : Array Value) (U : State), s.WarmedH U.vm → w.before a' U = true) ∧ Cond.codeWith y bytes maxL ret hh ∈ ws) ∧
  (Cond.codeWith y bytes maxL ret hh).before args s = true ∧ (Cond.initialized y.cls).before args s = true ∧ (y.cls ≠ "java/lang/invoke/MethodHandle" ∧ y.cls ≠ "java/lang/invoke/VarHandle") ∧
  (∀ sig, parseMethodDescriptor y.desc = some sig → n = sig.parameters.length) ∧ (Cond.methodLink own index y).before args s = true ∧ (Cond.instanceMethod y).before args s = true ∧ (Cond.selects C y y).before args s = true
theorem vx_cwVW {own C : String} {index maxL mc ms : Nat} {y : MethodName} {bytes : ByteArray} {ret : Option FieldType} {hh : List (Nat × Nat × Nat × Nat)} {Ts ws ws' : List Cond} {rm : Room} (n : Nat) (ht : ∀ w ∈ Ts, w.before args s = true) (hT : GoodIn Ts (wsV own index C y ws)) (hw : ws = Cond.codeWith y bytes maxL ret hh :: ws') (hrc : rm.cells = mc) (hrs : rm.slots = ms)
    (hd : y.cls = C ∧ y.cls ≠ "java/lang/invoke/MethodHandle" ∧ y.cls ≠ "java/lang/invoke/VarHandle" ∧ (parseMethodDescriptor y.desc).map (fun d => d.parameters.length) = some n) (hR : rm.frames + 1 ≤ R.frames ∧ 8 + (maxL + 11) + rm.locals ≤ R.locals) :
    vx_CVW R s args own C index y bytes maxL ret hh ws rm mc ms n := by
  obtain ⟨hC, hd⟩ := hd
  subst hC
  have ok : ∀ w ∈ wsV own index y.cls y ws, w.before args s = true := fun w h => ht w (hT w h).1
  have hG : GoodIn Ts ws := fun w h => hT w (by unfold wsV; exact List.mem_append_right _ h)
  have hc : Cond.codeWith y bytes maxL ret hh ∈ ws := by rw [hw]; exact List.mem_cons_self
  refine ⟨⟨hrc, hrs, hR.1, hR.2, pay_in ht hG, hc⟩, ht _ (hG _ hc).1, ok _ (by simp [wsV]), ⟨hd.1, hd.2.1⟩, fun sig h => ?_, ok _ (by simp [wsV]), ok _ (by simp [wsV]), ok _ (by simp [wsV])⟩
  have h2 := hd.2.2
  rw [h] at h2
  exact (Option.some.inj h2).symm
theorem vx_runVW {y : MethodName} {bytes cc : ByteArray} {maxL nL mc ms n index : Nat} {ret : Option FieldType} {hh : List (Nat × Nat × Nat × Nat)} {ws : List Cond} {rm : Room} {Pc : Array Value → State → Prop} {Qc : Array Value → State → Outcome → State → Prop} {free : Addr → Prop} {Ts : List Cond} {own C : String} {b : Addr} {As rest : List Value} {g : JFrame}
    (S : CallFix p m c cc nL s args Ts own) (hM : Met l y ws rm Pc Qc mc ms free) (cw : vx_CVW R s args own C index y bytes maxL ret hh ws rm mc ms n) (hp : PreV s H C b Pc As)
    (hg : g.method = m) (hn : As.length = n) (hsize : g.locals.size = nL) (hstack : g.stack = As.reverse ++ .ref b :: rest) (hW : 2 * g.monitorRoom + (rest.map fun v => v.category).sum ≤ 8) (hdg : decode cc g.pc = .ok (.invokevirtual index, 3)) (hf : cells + mc ≤ R.cells ∧ slots + ms ≤ R.slots) :
    va_Run p l e R s m args below meth c H locs cells slots mc ms g rest (Qc (Value.ref b :: As).toArray) free := by
  obtain ⟨⟨hrc, hrs, hfr, hlo, hws, hcw⟩, hcode, hini, hy, hlen, hl, hin, hse⟩ := cw
  have hK : Back l R p e below s args y 3 8 (PreOf R mc ms Pc) (PostOf Qc mc ms free) := va_backW (hh := hh) (bytes := bytes) (maxL := maxL) (ret := ret) hM hp.1 hrc hrs hfr hlo hws hcw (fun a' U hW => word_at hW (Or.inl (by first | rfl | simp [Cond.onTables, Cond.keeps, Cond.steady])) hini)
  obtain ⟨hx, hb, hml, ho, -⟩ := S
  obtain ⟨-, ⟨cellB, hcB, hoB, hclB⟩, hPc⟩ := hp
  intro T hT X
  obtain ⟨v, vm₁, ⟨U', l2, c2, s2⟩, hW₁, X', ⟨g', mk, t, L, e1, e2, hq, h1, hL, h2, h3⟩, st⟩ := vx_callVW X hx (C := C) (hh := hh) (bytes := bytes) (maxL := maxL) (ret := ret) ho hl hin hse hcode hy hK (by rw [hT]; exact hcB) hoB hclB hg (hsize.trans hml.symm) (argsL := As) (rest := rest) (fun sig h => hn.trans (hlen sig h)) hstack hW (by rw [hb]; exact hdg)
    (fun vm₁ hW₁ => ⟨hf.1, hf.2, hPc (T.setVm vm₁) hT hW₁⟩)
  dsimp only [Pt.U, Pt.locs, Pt.cells, Pt.slots] at X' e1 e2 h1 h2 h3 st
  subst h1; subst h2; subst h3
  exact ⟨v, (T.setVm vm₁).calling g' mk (Value.ref b :: As).toArray, t, U', L, hT, X', hL, e1, e2, hq, st⟩
section
variable {y : MethodName} {bytes cc : ByteArray} {maxL nL mc ms n index : Nat} {ret : Option FieldType} {ws : List Cond} {rm : Room} {Pc : Array Value → State → Prop} {Qc : Array Value → State → Outcome → State → Prop} {XC : String → State → State → Prop} {free : Addr → Prop} {Ts : List Cond} {own C : String} {b : Addr} {As rest : List Value} {g : JFrame}
theorem vx_runVX {hh : List (Nat × Nat × Nat × Nat)} (S : CallFix p m c cc nL s args Ts own) (hM : vx_Met l y ws rm Pc Qc XC mc ms free) (cw : vx_CVW R s args own C index y bytes maxL ret hh ws rm mc ms n) (hp : PreV s H C b Pc As)
    (hg : g.method = m) (hn : As.length = n) (hsize : g.locals.size = nL) (hstack : g.stack = As.reverse ++ .ref b :: rest) (hW : 2 * g.monitorRoom + (rest.map fun v => v.category).sum ≤ 8) (hdg : decode cc g.pc = .ok (.invokevirtual index, 3)) (hf : cells + mc ≤ R.cells ∧ slots + ms ≤ R.slots) :
    vx_Run p l e R s m args below meth c H locs cells slots mc ms g rest (Qc (Value.ref b :: As).toArray) XC free := by
  obtain ⟨⟨hrc, hrs, hfr, hlo, hws, hcw⟩, hcode, hini, hy, hlen, hl, hin, hse⟩ := cw
  have hK : vx_Back l R p e below s args y 3 8 (PreOf R mc ms Pc) (PostOf Qc mc ms free) (vx_Post XC mc ms free) := vx_backW (hh := hh) (bytes := bytes) (maxL := maxL) (ret := ret) hM hp.1 hrc hrs hfr hlo hws hcw (fun a' U hW => word_at hW (Or.inl (by first | rfl | simp [Cond.onTables, Cond.keeps, Cond.steady])) hini)
  obtain ⟨hx, hb, hml, ho, -⟩ := S
  obtain ⟨-, ⟨cellB, hcB, hoB, hclB⟩, hPc⟩ := hp
  intro T hT X
  rcases vx_callVX X hx (C := C) (hh := hh) (bytes := bytes) (maxL := maxL) (ret := ret) ho hl hin hse hcode hy hK (by rw [hT]; exact hcB) hoB hclB hg (hsize.trans hml.symm) (argsL := As) (rest := rest) (fun sig h => hn.trans (hlen sig h)) hstack hW (by rw [hb]; exact hdg)
    (fun vm₁ hW₁ => ⟨hf.1, hf.2, hPc (T.setVm vm₁) hT hW₁⟩) with ⟨v, vm₁, ⟨U', l2, c2, s2⟩, hW₁, X', ⟨g', mk, t, L, e1, e2, hq, h1, hL, h2, h3⟩, st⟩ | ⟨q, vm₁, ⟨U', l2, c2, s2⟩, hW₁, X', ⟨g', mk, t, L, E, ce, e1, e2, hq, hce, hcv, hcl, h1, hL, h2, h3⟩, st⟩
  · dsimp only [Pt.U, Pt.locs, Pt.cells, Pt.slots] at X' e1 e2 h1 h2 h3 st
    subst h1; subst h2; subst h3
    exact Or.inl ⟨v, (T.setVm vm₁).calling g' mk (Value.ref b :: As).toArray, t, U', L, hT, X', hL, e1, e2, hq, st⟩
  · dsimp only [Pt.U, Pt.locs, Pt.cells, Pt.slots] at X' e1 e2 h1 h2 h3 st hcl
    subst h1; subst h2; subst h3
    exact Or.inr ⟨q, (T.setVm vm₁).calling g' mk (Value.ref b :: As).toArray, t, U', L, E, ce, hT, X', hL, e1, e2, hq, hce, hcv, vx_cls hW₁ hcl, st⟩
theorem vx_runSX {hh : List (Nat × Nat × Nat × Nat)} (S : CallFix p m c cc nL s args Ts own) (hM : vx_Met l y ws rm Pc Qc XC mc ms free) (cw : vx_CSW R s args own index y bytes maxL ret hh ws rm mc ms n) (hp : PreS s H Pc As)
    (hg : g.method = m) (hn : As.length = n) (hsize : g.locals.size = nL) (hstack : g.stack = As.reverse ++ rest) (hW : 2 * g.monitorRoom + (rest.map fun v => v.category).sum ≤ 8) (hdg : decode cc g.pc = .ok (.invokestatic index, 3)) (hf : cells + mc ≤ R.cells ∧ slots + ms ≤ R.slots) :
    vx_Run p l e R s m args below meth c H locs cells slots mc ms g rest (Qc As.toArray) XC free := by
  obtain ⟨⟨hrc, hrs, hfr, hlo, hws, hcw⟩, hcode, hini, hy, hlen, hl, hstt⟩ := cw
  have hK : vx_Back l R p e below s args y 3 8 (PreOf R mc ms Pc) (PostOf Qc mc ms free) (vx_Post XC mc ms free) := vx_backW (hh := hh) (bytes := bytes) (maxL := maxL) (ret := ret) hM hp.1 hrc hrs hfr hlo hws hcw (fun a' U hW => word_at hW (Or.inl (by first | rfl | simp [Cond.onTables, Cond.keeps, Cond.steady])) hini)
  obtain ⟨hx, hb, hml, ho, -⟩ := S
  intro T hT X
  rcases vx_callSX X hx (hh := hh) (bytes := bytes) (maxL := maxL) (ret := ret) ho hl hstt hini hcode hy hK hg (hsize.trans hml.symm) (argsL := As) (rest := rest) (fun sig h => hn.trans (hlen sig h)) hstack hW (by rw [hb]; exact hdg)
    (fun vm₁ hW₁ => ⟨hf.1, hf.2, hp.2 (T.setVm vm₁) hT hW₁⟩) with ⟨v, vm₁, ⟨U', l2, c2, s2⟩, hW₁, X', ⟨g', mk, t, L, e1, e2, hq, h1, hL, h2, h3⟩, st⟩ | ⟨q, vm₁, ⟨U', l2, c2, s2⟩, hW₁, X', ⟨g', mk, t, L, E, ce, e1, e2, hq, hce, hcv, hcl, h1, hL, h2, h3⟩, st⟩
  · dsimp only [Pt.U, Pt.locs, Pt.cells, Pt.slots] at X' e1 e2 h1 h2 h3 st
    subst h1; subst h2; subst h3
    exact Or.inl ⟨v, (T.setVm vm₁).calling g' mk As.toArray, t, U', L, hT, X', hL, e1, e2, hq, st⟩
  · dsimp only [Pt.U, Pt.locs, Pt.cells, Pt.slots] at X' e1 e2 h1 h2 h3 st hcl
    subst h1; subst h2; subst h3
    exact Or.inr ⟨q, (T.setVm vm₁).calling g' mk As.toArray, t, U', L, E, ce, hT, X', hL, e1, e2, hq, hce, hcv, vx_cls hW₁ hcl, st⟩
end
end VXH
theorem vx_ofWH {l : Launch} {y : MethodName} {ws ws' : List Cond} {rm : Room} {Pc : Array Value → State → Prop} {Qc : Array Value → State → Outcome → State → Prop} {XC : String → State → State → Prop} {mc ms : Nat} {free : Addr → Prop} {cc : ByteArray} {maxL : Nat} {ret : Option FieldType} {hh : List (Nat × Nat × Nat × Nat)}
    (hy : plainName y.cls = true) (hw : ws = Cond.codeWith y cc maxL ret hh :: ws')
    (body : ∀ p e s m args below meth c s₁, BodyLoose p l y (headSpec ws rm) cc maxL ret e s m args below meth c s₁ → c.maxLocals = maxL → Pc args s →
      W p l e (headSpec ws rm).room s m args below meth c s.heap [] 0 0 (vx_MQ below Qc XC args s mc ms free) (entryFrame m args maxL)) : vx_Met l y ws rm Pc Qc XC mc ms free := by
  refine MetFree.of_bodyS (code := cc) (maxLocals := maxL) (ret := ret) hy ?_ ?_
  · intro args s m h hn
    obtain ⟨m9, meth, c, hn9, h1, h2, h3, h4, -, h5, h6, -⟩ := Cond.codeWith_spec (atoms_spec (ws := ws) h _ (by rw [hw]; exact List.mem_cons_self))
    cases hn.symm.trans hn9
    exact ⟨meth, c, h1, h2, h3, h4, h5, h6⟩
  · intro p e s m args below meth c s₁ B hml hP _
    have hh0 : s₁.heap = s.heap := by rw [B.state]; rfl
    obtain ⟨t, a1, o, b1, b2, b3⟩ := body p e s m args below meth c s₁ B hml hP s₁ hh0 (Stand.of_body B)
    exact ⟨t, o, a1, b1, b2, b3⟩
/-! ===== END ===== -/
end
section
def RX0 : String := "Signtext$Line"
def TX0 : u_T := fun k => match k with
  | 0 => ("Signtext$Line", "codes", "[C", true)
  | _ => ("Signtext$Line", "count", "I", false)
def tyX0 : Nat → FieldType := fun k => match k with
  | 0 => .array .char
  | _ => .int
theorem nmX0 : ∀ a, a < 2 → ∀ b, b < 2 → a ≠ b → (TX0 a).2.1 ≠ (TX0 b).2.1 := by decide +kernel
theorem tyX0_ok : ∀ k, k < 2 → parseFieldDescriptor (TX0 k).2.2.1 = some (tyX0 k) := by decide +kernel
abbrev cX0_init : ByteArray := prog_2_method_1_code
def yX0_init : MethodName := ⟨RX0, "<init>", "()V"⟩
abbrev cX0_size : ByteArray := prog_2_method_2_code
def yX0_size : MethodName := ⟨RX0, "size", "()I"⟩
abbrev cX0_codeAt : ByteArray := prog_2_method_3_code
def yX0_codeAt : MethodName := ⟨RX0, "codeAt", "(I)I"⟩
abbrev cX0_empty : ByteArray := prog_2_method_4_code
def yX0_empty : MethodName := ⟨RX0, "empty", "()V"⟩
abbrev cX0_change : ByteArray := prog_2_method_5_code
def yX0_change : MethodName := ⟨RX0, "change", "(II)V"⟩
abbrev cX0_addCode : ByteArray := prog_2_method_6_code
def yX0_addCode : MethodName := ⟨RX0, "addCode", "(I)V"⟩
abbrev cX0_addPart : ByteArray := prog_2_method_7_code
def yX0_addPart : MethodName := ⟨RX0, "addPart", "(LSigntext$Line;II)V"⟩
abbrev cX0_addAll : ByteArray := prog_2_method_8_code
def yX0_addAll : MethodName := ⟨RX0, "addAll", "(LSigntext$Line;)V"⟩
abbrev cX0_addWord : ByteArray := prog_2_method_9_code
def yX0_addWord : MethodName := ⟨RX0, "addWord", "(Ljava/lang/String;)V"⟩
abbrev cX0_addNumber : ByteArray := prog_2_method_10_code
def yX0_addNumber : MethodName := ⟨RX0, "addNumber", "(J)V"⟩
abbrev cX0_become : ByteArray := prog_2_method_11_code
def yX0_become : MethodName := ⟨RX0, "become", "(LSigntext$Line;)V"⟩
abbrev cX0_asString : ByteArray := prog_2_method_12_code
def yX0_asString : MethodName := ⟨RX0, "asString", "()Ljava/lang/String;"⟩
abbrev cX0_hashOfSigns : ByteArray := prog_2_method_13_code
def yX0_hashOfSigns : MethodName := ⟨RX0, "hashOfSigns", "()I"⟩
abbrev cX0_isAllWhite : ByteArray := prog_2_method_14_code
def yX0_isAllWhite : MethodName := ⟨RX0, "isAllWhite", "()Z"⟩
abbrev cX0_trimmedBegin : ByteArray := prog_2_method_15_code
def yX0_trimmedBegin : MethodName := ⟨RX0, "trimmedBegin", "(Z)I"⟩
abbrev cX0_trimmedEnd : ByteArray := prog_2_method_16_code
def yX0_trimmedEnd : MethodName := ⟨RX0, "trimmedEnd", "(Z)I"⟩
abbrev cX0_goes : ByteArray := prog_2_method_17_code
def yX0_goes : MethodName := ⟨RX0, "goes", "(IZ)Z"⟩
abbrev cX0_seen : ByteArray := prog_2_method_18_code
def yX0_seen : MethodName := ⟨RX0, "seen", "(IZ)I"⟩
abbrev cX0_firstPlaceOfCode : ByteArray := prog_2_method_19_code
def yX0_firstPlaceOfCode : MethodName := ⟨RX0, "firstPlaceOfCode", "(II)I"⟩
abbrev cX0_lastPlaceOfCode : ByteArray := prog_2_method_20_code
def yX0_lastPlaceOfCode : MethodName := ⟨RX0, "lastPlaceOfCode", "(I)I"⟩
abbrev cX0_standsAt : ByteArray := prog_2_method_21_code
def yX0_standsAt : MethodName := ⟨RX0, "standsAt", "(LSigntext$Line;IZ)Z"⟩
abbrev cX0_firstPlaceOf : ByteArray := prog_2_method_22_code
def yX0_firstPlaceOf : MethodName := ⟨RX0, "firstPlaceOf", "(LSigntext$Line;)I"⟩
abbrev cX0_lastPlaceOf : ByteArray := prog_2_method_23_code
def yX0_lastPlaceOf : MethodName := ⟨RX0, "lastPlaceOf", "(LSigntext$Line;)I"⟩
abbrev cX0_holds : ByteArray := prog_2_method_24_code
def yX0_holds : MethodName := ⟨RX0, "holds", "(LSigntext$Line;)Z"⟩
abbrev cX0_isSameAs : ByteArray := prog_2_method_25_code
def yX0_isSameAs : MethodName := ⟨RX0, "isSameAs", "(LSigntext$Line;Z)Z"⟩
abbrev cX0_orderTo : ByteArray := prog_2_method_26_code
def yX0_orderTo : MethodName := ⟨RX0, "orderTo", "(LSigntext$Line;Z)I"⟩
def RX1 : String := "Signtext$Pieces"
def TX1 : u_T := fun k => match k with
  | 0 => ("Signtext$Pieces", "line", "LSigntext$Line;", true)
  | 1 => ("Signtext$Pieces", "ends", "[I", true)
  | _ => ("Signtext$Pieces", "count", "I", false)
def tyX1 : Nat → FieldType := fun k => match k with
  | 0 => .object "Signtext$Line"
  | 1 => .array .int
  | _ => .int
theorem nmX1 : ∀ a, a < 3 → ∀ b, b < 3 → a ≠ b → (TX1 a).2.1 ≠ (TX1 b).2.1 := by decide +kernel
theorem tyX1_ok : ∀ k, k < 3 → parseFieldDescriptor (TX1 k).2.2.1 = some (tyX1 k) := by decide +kernel
abbrev cX1_init : ByteArray := prog_3_method_1_code
def yX1_init : MethodName := ⟨RX1, "<init>", "()V"⟩
abbrev cX1_size : ByteArray := prog_3_method_2_code
def yX1_size : MethodName := ⟨RX1, "size", "()I"⟩
abbrev cX1_line : ByteArray := prog_3_method_3_code
def yX1_line : MethodName := ⟨RX1, "line", "()LSigntext$Line;"⟩
abbrev cX1_endOf : ByteArray := prog_3_method_4_code
def yX1_endOf : MethodName := ⟨RX1, "endOf", "(I)I"⟩
abbrev cX1_beginOf : ByteArray := prog_3_method_5_code
def yX1_beginOf : MethodName := ⟨RX1, "beginOf", "(I)I"⟩
abbrev cX1_cutOf : ByteArray := prog_3_method_6_code
def yX1_cutOf : MethodName := ⟨RX1, "cutOf", "(LSigntext$Line;)V"⟩
abbrev cX1_addEnd : ByteArray := prog_3_method_7_code
def yX1_addEnd : MethodName := ⟨RX1, "addEnd", "(I)V"⟩
def RX2 : String := "Signtext"
def TX2 : u_T := fun k => match k with
  | 0 => ("Signtext", "texts", "[LSigntext$Line;", true)
  | 1 => ("Signtext", "knownTexts", "[LSigntext$Line;", true)
  | 2 => ("Signtext", "row", "LSigntext$Line;", true)
  | 3 => ("Signtext", "pieces", "LSigntext$Pieces;", true)
  | 4 => ("Signtext", "knocks", "I", false)
  | 5 => ("Signtext", "made", "LSigntext$Line;", true)
  | 6 => ("Signtext", "draft", "LSigntext$Line;", true)
  | _ => ("Signtext", "tried", "LSigntext$Pieces;", true)
def tyX2 : Nat → FieldType := fun k => match k with
  | 0 => .array (.object "Signtext$Line")
  | 1 => .array (.object "Signtext$Line")
  | 2 => .object "Signtext$Line"
  | 3 => .object "Signtext$Pieces"
  | 4 => .int
  | 5 => .object "Signtext$Line"
  | 6 => .object "Signtext$Line"
  | _ => .object "Signtext$Pieces"
theorem nmX2 : ∀ a, a < 8 → ∀ b, b < 8 → a ≠ b → (TX2 a).2.1 ≠ (TX2 b).2.1 := by decide +kernel
theorem tyX2_ok : ∀ k, k < 8 → parseFieldDescriptor (TX2 k).2.2.1 = some (tyX2 k) := by decide +kernel
abbrev cX2_init : ByteArray := prog_1_method_1_code
def yX2_init : MethodName := ⟨RX2, "<init>", "()V"⟩
abbrev cX2_put : ByteArray := prog_1_method_2_code
def yX2_put : MethodName := ⟨RX2, "put", "(IIIIII)I"⟩
abbrev cX2_clear : ByteArray := prog_1_method_3_code
def yX2_clear : MethodName := ⟨RX2, "clear", "(I)I"⟩
abbrev cX2_copy : ByteArray := prog_1_method_4_code
def yX2_copy : MethodName := ⟨RX2, "copy", "(II)I"⟩
abbrev cX2_part : ByteArray := prog_1_method_5_code
def yX2_part : MethodName := ⟨RX2, "part", "(IIII)I"⟩
abbrev cX2_tail : ByteArray := prog_1_method_6_code
def yX2_tail : MethodName := ⟨RX2, "tail", "(III)I"⟩
abbrev cX2_join : ByteArray := prog_1_method_7_code
def yX2_join : MethodName := ⟨RX2, "join", "(III)I"⟩
abbrev cX2_times : ByteArray := prog_1_method_8_code
def yX2_times : MethodName := ⟨RX2, "times", "(III)I"⟩
abbrev cX2_trim : ByteArray := prog_1_method_9_code
def yX2_trim : MethodName := ⟨RX2, "trim", "(IZI)I"⟩
abbrev cX2_number : ByteArray := prog_1_method_10_code
def yX2_number : MethodName := ⟨RX2, "number", "(IIZ)I"⟩
abbrev cX2_great : ByteArray := prog_1_method_11_code
def yX2_great : MethodName := ⟨RX2, "great", "(III)I"⟩
abbrev cX2_truth : ByteArray := prog_1_method_12_code
def yX2_truth : MethodName := ⟨RX2, "truth", "(IZZ)I"⟩
abbrev cX2_ahead : ByteArray := prog_1_method_13_code
def yX2_ahead : MethodName := ⟨RX2, "ahead", "(II)I"⟩
abbrev cX2_known : ByteArray := prog_1_method_14_code
def yX2_known : MethodName := ⟨RX2, "known", "(II)I"⟩
abbrev cX2_lay : ByteArray := prog_1_method_15_code
def yX2_lay : MethodName := ⟨RX2, "lay", "(I)I"⟩
abbrev cX2_set : ByteArray := prog_1_method_16_code
def yX2_set : MethodName := ⟨RX2, "set", "(II)I"⟩
abbrev cX2_take : ByteArray := prog_1_method_17_code
def yX2_take : MethodName := ⟨RX2, "take", "(I)I"⟩
abbrev cX2_takePart : ByteArray := prog_1_method_18_code
def yX2_takePart : MethodName := ⟨RX2, "takePart", "(III)I"⟩
abbrev cX2_cut : ByteArray := prog_1_method_19_code
def yX2_cut : MethodName := ⟨RX2, "cut", "(I)I"⟩
abbrev cX2_takePiece : ByteArray := prog_1_method_20_code
def yX2_takePiece : MethodName := ⟨RX2, "takePiece", "(II)I"⟩
abbrev cX2_knock : ByteArray := prog_1_method_21_code
def yX2_knock : MethodName := ⟨RX2, "knock", "()I"⟩
abbrev cX2_text : ByteArray := prog_1_method_22_code
def yX2_text : MethodName := ⟨RX2, "text", "(I)Ljava/lang/String;"⟩
abbrev cX2_length : ByteArray := prog_1_method_23_code
def yX2_length : MethodName := ⟨RX2, "length", "(I)I"⟩
abbrev cX2_at : ByteArray := prog_1_method_24_code
def yX2_at : MethodName := ⟨RX2, "at", "(II)I"⟩
abbrev cX2_isEmpty : ByteArray := prog_1_method_25_code
def yX2_isEmpty : MethodName := ⟨RX2, "isEmpty", "(I)Z"⟩
abbrev cX2_isBlank : ByteArray := prog_1_method_26_code
def yX2_isBlank : MethodName := ⟨RX2, "isBlank", "(I)Z"⟩
abbrev cX2_hash : ByteArray := prog_1_method_27_code
def yX2_hash : MethodName := ⟨RX2, "hash", "(I)I"⟩
abbrev cX2_first : ByteArray := prog_1_method_28_code
def yX2_first : MethodName := ⟨RX2, "first", "(II)I"⟩
abbrev cX2_last : ByteArray := prog_1_method_29_code
def yX2_last : MethodName := ⟨RX2, "last", "(II)I"⟩
abbrev cX2_next : ByteArray := prog_1_method_30_code
def yX2_next : MethodName := ⟨RX2, "next", "(III)I"⟩
abbrev cX2_begins : ByteArray := prog_1_method_31_code
def yX2_begins : MethodName := ⟨RX2, "begins", "(IIZ)Z"⟩
abbrev cX2_stands : ByteArray := prog_1_method_32_code
def yX2_stands : MethodName := ⟨RX2, "stands", "(IIIZ)Z"⟩
abbrev cX2_firstOf : ByteArray := prog_1_method_33_code
def yX2_firstOf : MethodName := ⟨RX2, "firstOf", "(II)I"⟩
abbrev cX2_lastOf : ByteArray := prog_1_method_34_code
def yX2_lastOf : MethodName := ⟨RX2, "lastOf", "(II)I"⟩
abbrev cX2_isIn : ByteArray := prog_1_method_35_code
def yX2_isIn : MethodName := ⟨RX2, "isIn", "(II)Z"⟩
abbrev cX2_isSame : ByteArray := prog_1_method_36_code
def yX2_isSame : MethodName := ⟨RX2, "isSame", "(IIZ)Z"⟩
abbrev cX2_order : ByteArray := prog_1_method_37_code
def yX2_order : MethodName := ⟨RX2, "order", "(II)I"⟩
abbrev cX2_orderLike : ByteArray := prog_1_method_38_code
def yX2_orderLike : MethodName := ⟨RX2, "orderLike", "(II)I"⟩
abbrev cX2_row : ByteArray := prog_1_method_39_code
def yX2_row : MethodName := ⟨RX2, "row", "()Ljava/lang/String;"⟩
abbrev cX2_rowAt : ByteArray := prog_1_method_40_code
def yX2_rowAt : MethodName := ⟨RX2, "rowAt", "(I)I"⟩
abbrev cX2_piece : ByteArray := prog_1_method_41_code
def yX2_piece : MethodName := ⟨RX2, "piece", "(I)Ljava/lang/String;"⟩
abbrev cX2_isPiece : ByteArray := prog_1_method_42_code
def yX2_isPiece : MethodName := ⟨RX2, "isPiece", "(II)Z"⟩
abbrev cX2_house : ByteArray := prog_1_method_43_code
def yX2_house : MethodName := ⟨RX2, "house", "(I)I"⟩
abbrev cX2_isSound : ByteArray := prog_1_method_44_code
def yX2_isSound : MethodName := ⟨RX2, "isSound", "()Z"⟩
abbrev cX2_digest : ByteArray := prog_1_method_45_code
def yX2_digest : MethodName := ⟨RX2, "digest", "()J"⟩
abbrev cX2_textOf : ByteArray := prog_1_method_46_code
def yX2_textOf : MethodName := ⟨RX2, "textOf", "(I)LSigntext$Line;"⟩
abbrev cX2_knownOf : ByteArray := prog_1_method_47_code
def yX2_knownOf : MethodName := ⟨RX2, "knownOf", "(I)LSigntext$Line;"⟩
abbrev cX2_codeOf : ByteArray := prog_1_method_48_code
def yX2_codeOf : MethodName := ⟨RX2, "codeOf", "(I)I"⟩
abbrev cX2_needPlace : ByteArray := prog_1_method_49_code
def yX2_needPlace : MethodName := ⟨RX2, "needPlace", "(LSigntext$Line;I)V"⟩
abbrev cX2_needPlaceOrEnd : ByteArray := prog_1_method_50_code
def yX2_needPlaceOrEnd : MethodName := ⟨RX2, "needPlaceOrEnd", "(LSigntext$Line;I)V"⟩
abbrev cX2_needPiece : ByteArray := prog_1_method_51_code
def yX2_needPiece : MethodName := ⟨RX2, "needPiece", "(I)V"⟩
abbrev cX2_needRoom : ByteArray := prog_1_method_52_code
def yX2_needRoom : MethodName := ⟨RX2, "needRoom", "(I)V"⟩
abbrev cX2_addSignOrNone : ByteArray := prog_1_method_53_code
def yX2_addSignOrNone : MethodName := ⟨RX2, "addSignOrNone", "(I)V"⟩
abbrev cX2_addMade : ByteArray := prog_1_method_54_code
def yX2_addMade : MethodName := ⟨RX2, "addMade", "(LSigntext$Line;Z)I"⟩
abbrev cX2_joinInto : ByteArray := prog_1_method_55_code
def yX2_joinInto : MethodName := ⟨RX2, "joinInto", "(LSigntext$Line;LSigntext$Line;LSigntext$Line;)I"⟩
abbrev cX2_partInto : ByteArray := prog_1_method_56_code
def yX2_partInto : MethodName := ⟨RX2, "partInto", "(LSigntext$Line;IILSigntext$Line;)I"⟩
abbrev cX2_pieceInto : ByteArray := prog_1_method_57_code
def yX2_pieceInto : MethodName := ⟨RX2, "pieceInto", "(ILSigntext$Line;)I"⟩
abbrev cX2_wordOfKnown : ByteArray := prog_1_method_58_code
def yX2_wordOfKnown : MethodName := ⟨RX2, "wordOfKnown", "(I)Ljava/lang/String;"⟩
abbrev cX2_signsOfAll : ByteArray := prog_1_method_59_code
def yX2_signsOfAll : MethodName := ⟨RX2, "signsOfAll", "()I"⟩
abbrev cX2_emptyOnes : ByteArray := prog_1_method_60_code
def yX2_emptyOnes : MethodName := ⟨RX2, "emptyOnes", "()I"⟩
abbrev cX2_summed : ByteArray := prog_1_method_61_code
def yX2_summed : MethodName := ⟨RX2, "summed", "(JJ)J"⟩
abbrev cX2_summedText : ByteArray := prog_1_method_62_code
def yX2_summedText : MethodName := ⟨RX2, "summedText", "(JLSigntext$Line;)J"⟩
abbrev cX2_summedPair : ByteArray := prog_1_method_63_code
def yX2_summedPair : MethodName := ⟨RX2, "summedPair", "(JLSigntext$Line;LSigntext$Line;)J"⟩
abbrev cX2_directionOf : ByteArray := prog_1_method_64_code
def yX2_directionOf : MethodName := ⟨RX2, "directionOf", "(I)I"⟩
abbrev cX2_isSoundAlone : ByteArray := prog_1_method_65_code
def yX2_isSoundAlone : MethodName := ⟨RX2, "isSoundAlone", "(LSigntext$Line;)Z"⟩
abbrev cX2_isSameTakenAgain : ByteArray := prog_1_method_66_code
def yX2_isSameTakenAgain : MethodName := ⟨RX2, "isSameTakenAgain", "(LSigntext$Line;)Z"⟩
abbrev cX2_isSameInTwoParts : ByteArray := prog_1_method_67_code
def yX2_isSameInTwoParts : MethodName := ⟨RX2, "isSameInTwoParts", "(LSigntext$Line;)Z"⟩
abbrev cX2_isSameTrimmedAgain : ByteArray := prog_1_method_68_code
def yX2_isSameTrimmedAgain : MethodName := ⟨RX2, "isSameTrimmedAgain", "(LSigntext$Line;Z)Z"⟩
abbrev cX2_isSameOfPieces : ByteArray := prog_1_method_69_code
def yX2_isSameOfPieces : MethodName := ⟨RX2, "isSameOfPieces", "(LSigntext$Line;)Z"⟩
abbrev cX2_isSoundPair : ByteArray := prog_1_method_70_code
def yX2_isSoundPair : MethodName := ⟨RX2, "isSoundPair", "(LSigntext$Line;LSigntext$Line;)Z"⟩
def RX3 : String := "SigntextLaw$Out"
def TX3 : u_T := fun k => match k with
  | 0 => ("SigntextLaw$Out", "n", "J", false)
  | _ => ("SigntextLaw$Out", "s", "Ljava/lang/String;", false)
def tyX3 : Nat → FieldType := fun k => match k with
  | 0 => .long
  | _ => .object "java/lang/String"
theorem nmX3 : ∀ a, a < 2 → ∀ b, b < 2 → a ≠ b → (TX3 a).2.1 ≠ (TX3 b).2.1 := by decide +kernel
theorem tyX3_ok : ∀ k, k < 2 → parseFieldDescriptor (TX3 k).2.2.1 = some (tyX3 k) := by decide +kernel
abbrev cX3_init : ByteArray := prog_5_method_1_code
def yX3_init : MethodName := ⟨RX3, "<init>", "()V"⟩
def RX4 : String := "SigntextModel"
def TX4 : u_T := fun k => match k with
  | 0 => ("SigntextModel", "thrown", "I", false)
  | 1 => ("SigntextModel", "texts", "[[I", true)
  | 2 => ("SigntextModel", "row", "[I", false)
  | 3 => ("SigntextModel", "pieces", "Ljava/util/ArrayList;", false)
  | _ => ("SigntextModel", "knocks", "I", false)
def tyX4 : Nat → FieldType := fun k => match k with
  | 0 => .int
  | 1 => .array (.array .int)
  | 2 => .array .int
  | 3 => .object "java/util/ArrayList"
  | _ => .int
theorem nmX4 : ∀ a, a < 5 → ∀ b, b < 5 → a ≠ b → (TX4 a).2.1 ≠ (TX4 b).2.1 := by decide +kernel
theorem tyX4_ok : ∀ k, k < 5 → parseFieldDescriptor (TX4 k).2.2.1 = some (tyX4 k) := by decide +kernel
abbrev cX4_isIn : ByteArray := prog_6_method_1_code
def yX4_isIn : MethodName := ⟨RX4, "isIn", "(III)Z"⟩
abbrev cX4_one : ByteArray := prog_6_method_2_code
def yX4_one : MethodName := ⟨RX4, "one", "(Z)I"⟩
abbrev cX4_little : ByteArray := prog_6_method_3_code
def yX4_little : MethodName := ⟨RX4, "little", "(I)I"⟩
abbrev cX4_cut : ByteArray := prog_6_method_4_code
def yX4_cut : MethodName := ⟨RX4, "cut", "([III)[I"⟩
abbrev cX4_joined : ByteArray := prog_6_method_5_code
def yX4_joined : MethodName := ⟨RX4, "joined", "([I[I)[I"⟩
abbrev cX4_told : ByteArray := prog_6_method_6_code
def yX4_told : MethodName := ⟨RX4, "told", "([I)Ljava/lang/String;"⟩
abbrev cX4_digits : ByteArray := prog_6_method_7_code
def yX4_digits : MethodName := ⟨RX4, "digits", "(J)[I"⟩
abbrev cX4_truth : ByteArray := prog_6_method_8_code
def yX4_truth : MethodName := ⟨RX4, "truth", "(Z)[I"⟩
abbrev cX4_isWhite : ByteArray := prog_6_method_9_code
def yX4_isWhite : MethodName := ⟨RX4, "isWhite", "(I)Z"⟩
abbrev cX4_goes : ByteArray := prog_6_method_10_code
def yX4_goes : MethodName := ⟨RX4, "goes", "(IZ)Z"⟩
abbrev cX4_trimmed : ByteArray := prog_6_method_11_code
def yX4_trimmed : MethodName := ⟨RX4, "trimmed", "([IZ)[I"⟩
abbrev cX4_stands : ByteArray := prog_6_method_12_code
def yX4_stands : MethodName := ⟨RX4, "stands", "([II[IZ)Z"⟩
abbrev cX4_first : ByteArray := prog_6_method_13_code
def yX4_first : MethodName := ⟨RX4, "first", "([I[I)I"⟩
abbrev cX4_last : ByteArray := prog_6_method_14_code
def yX4_last : MethodName := ⟨RX4, "last", "([I[I)I"⟩
abbrev cX4_isSame : ByteArray := prog_6_method_15_code
def yX4_isSame : MethodName := ⟨RX4, "isSame", "([I[IZ)Z"⟩
abbrev cX4_order : ByteArray := prog_6_method_16_code
def yX4_order : MethodName := ⟨RX4, "order", "([I[IZ)I"⟩
abbrev cX4_hash : ByteArray := prog_6_method_17_code
def yX4_hash : MethodName := ⟨RX4, "hash", "([I)I"⟩
abbrev cX4_pieces : ByteArray := prog_6_method_18_code
def yX4_pieces : MethodName := ⟨RX4, "pieces", "([I)Ljava/util/ArrayList;"⟩
abbrev cX4_init : ByteArray := prog_6_method_19_code
def yX4_init : MethodName := ⟨RX4, "<init>", "()V"⟩
abbrev cX4_refuse : ByteArray := prog_6_method_21_code
def yX4_refuse : MethodName := ⟨RX4, "refuse", "(ZI)Z"⟩
abbrev cX4_start : ByteArray := prog_6_method_22_code
def yX4_start : MethodName := ⟨RX4, "start", "(ZI)Z"⟩
abbrev cX4_isNone : ByteArray := prog_6_method_23_code
def yX4_isNone : MethodName := ⟨RX4, "isNone", "(I)Z"⟩
abbrev cX4_isNoSign : ByteArray := prog_6_method_24_code
def yX4_isNoSign : MethodName := ⟨RX4, "isNoSign", "(I)Z"⟩
abbrev cX4_isNoKnown : ByteArray := prog_6_method_25_code
def yX4_isNoKnown : MethodName := ⟨RX4, "isNoKnown", "(I)Z"⟩
abbrev cX4_become : ByteArray := prog_6_method_26_code
def yX4_become : MethodName := ⟨RX4, "become", "(I[I)I"⟩
abbrev cX4_put : ByteArray := prog_6_method_27_code
def yX4_put : MethodName := ⟨RX4, "put", "(IIIIII)I"⟩
abbrev cX4_clear : ByteArray := prog_6_method_28_code
def yX4_clear : MethodName := ⟨RX4, "clear", "(I)I"⟩
abbrev cX4_copy : ByteArray := prog_6_method_29_code
def yX4_copy : MethodName := ⟨RX4, "copy", "(II)I"⟩
abbrev cX4_part : ByteArray := prog_6_method_30_code
def yX4_part : MethodName := ⟨RX4, "part", "(IIII)I"⟩
abbrev cX4_tail : ByteArray := prog_6_method_31_code
def yX4_tail : MethodName := ⟨RX4, "tail", "(III)I"⟩
abbrev cX4_join : ByteArray := prog_6_method_32_code
def yX4_join : MethodName := ⟨RX4, "join", "(III)I"⟩
abbrev cX4_times : ByteArray := prog_6_method_33_code
def yX4_times : MethodName := ⟨RX4, "times", "(III)I"⟩
abbrev cX4_trim : ByteArray := prog_6_method_34_code
def yX4_trim : MethodName := ⟨RX4, "trim", "(IZI)I"⟩
abbrev cX4_beside : ByteArray := prog_6_method_35_code
def yX4_beside : MethodName := ⟨RX4, "beside", "(I[IZ)I"⟩
abbrev cX4_number : ByteArray := prog_6_method_36_code
def yX4_number : MethodName := ⟨RX4, "number", "(IIZ)I"⟩
abbrev cX4_great : ByteArray := prog_6_method_37_code
def yX4_great : MethodName := ⟨RX4, "great", "(III)I"⟩
abbrev cX4_truth_ : ByteArray := prog_6_method_38_code
def yX4_truth_ : MethodName := ⟨RX4, "truth", "(IZZ)I"⟩
abbrev cX4_ahead : ByteArray := prog_6_method_39_code
def yX4_ahead : MethodName := ⟨RX4, "ahead", "(II)I"⟩
abbrev cX4_known : ByteArray := prog_6_method_40_code
def yX4_known : MethodName := ⟨RX4, "known", "(II)I"⟩
abbrev cX4_lay : ByteArray := prog_6_method_41_code
def yX4_lay : MethodName := ⟨RX4, "lay", "(I)I"⟩
abbrev cX4_isNoPlace : ByteArray := prog_6_method_42_code
def yX4_isNoPlace : MethodName := ⟨RX4, "isNoPlace", "(I)Z"⟩
abbrev cX4_set : ByteArray := prog_6_method_43_code
def yX4_set : MethodName := ⟨RX4, "set", "(II)I"⟩
abbrev cX4_take : ByteArray := prog_6_method_44_code
def yX4_take : MethodName := ⟨RX4, "take", "(I)I"⟩
abbrev cX4_takePart : ByteArray := prog_6_method_45_code
def yX4_takePart : MethodName := ⟨RX4, "takePart", "(III)I"⟩
abbrev cX4_cut_ : ByteArray := prog_6_method_46_code
def yX4_cut_ : MethodName := ⟨RX4, "cut", "(I)I"⟩
abbrev cX4_isNoPiece : ByteArray := prog_6_method_47_code
def yX4_isNoPiece : MethodName := ⟨RX4, "isNoPiece", "(I)Z"⟩
abbrev cX4_takePiece : ByteArray := prog_6_method_48_code
def yX4_takePiece : MethodName := ⟨RX4, "takePiece", "(II)I"⟩
abbrev cX4_knock : ByteArray := prog_6_method_49_code
def yX4_knock : MethodName := ⟨RX4, "knock", "()I"⟩
abbrev cX4_text : ByteArray := prog_6_method_50_code
def yX4_text : MethodName := ⟨RX4, "text", "(I)Ljava/lang/String;"⟩
abbrev cX4_length : ByteArray := prog_6_method_51_code
def yX4_length : MethodName := ⟨RX4, "length", "(I)I"⟩
abbrev cX4_at : ByteArray := prog_6_method_52_code
def yX4_at : MethodName := ⟨RX4, "at", "(II)I"⟩
abbrev cX4_isEmpty : ByteArray := prog_6_method_53_code
def yX4_isEmpty : MethodName := ⟨RX4, "isEmpty", "(I)Z"⟩
abbrev cX4_isBlank : ByteArray := prog_6_method_54_code
def yX4_isBlank : MethodName := ⟨RX4, "isBlank", "(I)Z"⟩
abbrev cX4_hash_ : ByteArray := prog_6_method_55_code
def yX4_hash_ : MethodName := ⟨RX4, "hash", "(I)I"⟩
abbrev cX4_first_ : ByteArray := prog_6_method_56_code
def yX4_first_ : MethodName := ⟨RX4, "first", "(II)I"⟩
abbrev cX4_last_ : ByteArray := prog_6_method_57_code
def yX4_last_ : MethodName := ⟨RX4, "last", "(II)I"⟩
abbrev cX4_next : ByteArray := prog_6_method_58_code
def yX4_next : MethodName := ⟨RX4, "next", "(III)I"⟩
abbrev cX4_begins : ByteArray := prog_6_method_59_code
def yX4_begins : MethodName := ⟨RX4, "begins", "(IIZ)Z"⟩
abbrev cX4_stands_ : ByteArray := prog_6_method_60_code
def yX4_stands_ : MethodName := ⟨RX4, "stands", "(IIIZ)Z"⟩
abbrev cX4_areNone : ByteArray := prog_6_method_61_code
def yX4_areNone : MethodName := ⟨RX4, "areNone", "(II)Z"⟩
abbrev cX4_firstOf : ByteArray := prog_6_method_62_code
def yX4_firstOf : MethodName := ⟨RX4, "firstOf", "(II)I"⟩
abbrev cX4_lastOf : ByteArray := prog_6_method_63_code
def yX4_lastOf : MethodName := ⟨RX4, "lastOf", "(II)I"⟩
abbrev cX4_isIn_ : ByteArray := prog_6_method_64_code
def yX4_isIn_ : MethodName := ⟨RX4, "isIn", "(II)Z"⟩
abbrev cX4_isSame_ : ByteArray := prog_6_method_65_code
def yX4_isSame_ : MethodName := ⟨RX4, "isSame", "(IIZ)Z"⟩
abbrev cX4_order_ : ByteArray := prog_6_method_66_code
def yX4_order_ : MethodName := ⟨RX4, "order", "(II)I"⟩
abbrev cX4_orderLike : ByteArray := prog_6_method_67_code
def yX4_orderLike : MethodName := ⟨RX4, "orderLike", "(II)I"⟩
abbrev cX4_row : ByteArray := prog_6_method_68_code
def yX4_row : MethodName := ⟨RX4, "row", "()Ljava/lang/String;"⟩
abbrev cX4_rowAt : ByteArray := prog_6_method_69_code
def yX4_rowAt : MethodName := ⟨RX4, "rowAt", "(I)I"⟩
abbrev cX4_piece : ByteArray := prog_6_method_70_code
def yX4_piece : MethodName := ⟨RX4, "piece", "(I)Ljava/lang/String;"⟩
abbrev cX4_isPiece : ByteArray := prog_6_method_71_code
def yX4_isPiece : MethodName := ⟨RX4, "isPiece", "(II)Z"⟩
abbrev cX4_houseTold : ByteArray := prog_6_method_72_code
def yX4_houseTold : MethodName := ⟨RX4, "houseTold", "(I)I"⟩
abbrev cX4_house : ByteArray := prog_6_method_73_code
def yX4_house : MethodName := ⟨RX4, "house", "(I)I"⟩
abbrev cX4_isTrue : ByteArray := prog_6_method_74_code
def yX4_isTrue : MethodName := ⟨RX4, "isTrue", "()Z"⟩
abbrev cX4_isSound : ByteArray := prog_6_method_75_code
def yX4_isSound : MethodName := ⟨RX4, "isSound", "()Z"⟩
abbrev cX4_add : ByteArray := prog_6_method_76_code
def yX4_add : MethodName := ⟨RX4, "add", "(JJ)J"⟩
abbrev cX4_digest : ByteArray := prog_6_method_77_code
def yX4_digest : MethodName := ⟨RX4, "digest", "()J"⟩
def RJx145de : String := "java/io/Serializable"
def TJx145de : u_T := fun k => match k with
  | _ => ("", "", "", false)
def tyJx145de : Nat → FieldType := fun k => match k with
  | _ => .int
theorem nmJx145de : ∀ a, a < 0 → ∀ b, b < 0 → a ≠ b → (TJx145de a).2.1 ≠ (TJx145de b).2.1 := by decide +kernel
theorem tyJx145de_ok : ∀ k, k < 0 → parseFieldDescriptor (TJx145de k).2.2.1 = some (tyJx145de k) := by decide +kernel
def RJ5 : String := "java/lang/AbstractStringBuilder"
def TJ5 : u_T := fun k => match k with
  | _ => ("", "", "", false)
def tyJ5 : Nat → FieldType := fun k => match k with
  | _ => .int
theorem nmJ5 : ∀ a, a < 0 → ∀ b, b < 0 → a ≠ b → (TJ5 a).2.1 ≠ (TJ5 b).2.1 := by decide +kernel
theorem tyJ5_ok : ∀ k, k < 0 → parseFieldDescriptor (TJ5 k).2.2.1 = some (tyJ5 k) := by decide +kernel
abbrev cJ5_init_d00df : ByteArray := prog_8_method_2_code
def yJ5_init_d00df : MethodName := ⟨RJ5, "<init>", "(I)V"⟩
abbrev cJ5_length_8abf5 : ByteArray := prog_8_method_6_code
def yJ5_length_8abf5 : MethodName := ⟨RJ5, "length", "()I"⟩
abbrev cJ5_ensureCapacityInternal_d00df : ByteArray := prog_8_method_9_code
def yJ5_ensureCapacityInternal_d00df : MethodName := ⟨RJ5, "ensureCapacityInternal", "(I)V"⟩
abbrev cJ5_newCapacity_0f7a4 : ByteArray := prog_8_method_10_code
def yJ5_newCapacity_0f7a4 : MethodName := ⟨RJ5, "newCapacity", "(I)I"⟩
abbrev cJ5_inflate_da8c8 : ByteArray := prog_8_method_11_code
def yJ5_inflate_da8c8 : MethodName := ⟨RJ5, "inflate", "()V"⟩
abbrev cJ5_append_cf1ce : ByteArray := prog_8_method_22_code
def yJ5_append_cf1ce : MethodName := ⟨RJ5, "append", "(Ljava/lang/String;)Ljava/lang/AbstractStringBuilder;"⟩
abbrev cJ5_appendNull_278bc : ByteArray := prog_8_method_26_code
def yJ5_appendNull_278bc : MethodName := ⟨RJ5, "appendNull", "()Ljava/lang/AbstractStringBuilder;"⟩
abbrev cJ5_append_3fe6f : ByteArray := prog_8_method_31_code
def yJ5_append_3fe6f : MethodName := ⟨RJ5, "append", "(C)Ljava/lang/AbstractStringBuilder;"⟩
abbrev cJ5_append_c97b9 : ByteArray := prog_8_method_32_code
def yJ5_append_c97b9 : MethodName := ⟨RJ5, "append", "(I)Ljava/lang/AbstractStringBuilder;"⟩
abbrev cJ5_getValue_6d5f1 : ByteArray := prog_8_method_64_code
def yJ5_getValue_6d5f1 : MethodName := ⟨RJ5, "getValue", "()[B"⟩
abbrev cJ5_isLatin1_aae02 : ByteArray := prog_8_method_68_code
def yJ5_isLatin1_aae02 : MethodName := ⟨RJ5, "isLatin1", "()Z"⟩
abbrev cJ5_inflateIfNeededFor_a7421 : ByteArray := prog_8_method_71_code
def yJ5_inflateIfNeededFor_a7421 : MethodName := ⟨RJ5, "inflateIfNeededFor", "(Ljava/lang/String;)V"⟩
abbrev cJ5_putStringAt_47b60 : ByteArray := prog_8_method_73_code
def yJ5_putStringAt_47b60 : MethodName := ⟨RJ5, "putStringAt", "(ILjava/lang/String;)V"⟩
def RJx2cfe8 : String := "java/lang/Appendable"
def TJx2cfe8 : u_T := fun k => match k with
  | _ => ("", "", "", false)
def tyJx2cfe8 : Nat → FieldType := fun k => match k with
  | _ => .int
theorem nmJx2cfe8 : ∀ a, a < 0 → ∀ b, b < 0 → a ≠ b → (TJx2cfe8 a).2.1 ≠ (TJx2cfe8 b).2.1 := by decide +kernel
theorem tyJx2cfe8_ok : ∀ k, k < 0 → parseFieldDescriptor (TJx2cfe8 k).2.2.1 = some (tyJx2cfe8 k) := by decide +kernel
def RJx9f9b0 : String := "java/lang/CharSequence"
def TJx9f9b0 : u_T := fun k => match k with
  | _ => ("", "", "", false)
def tyJx9f9b0 : Nat → FieldType := fun k => match k with
  | _ => .int
theorem nmJx9f9b0 : ∀ a, a < 0 → ∀ b, b < 0 → a ≠ b → (TJx9f9b0 a).2.1 ≠ (TJx9f9b0 b).2.1 := by decide +kernel
theorem tyJx9f9b0_ok : ∀ k, k < 0 → parseFieldDescriptor (TJx9f9b0 k).2.2.1 = some (tyJx9f9b0 k) := by decide +kernel
def RJx8e188 : String := "java/lang/Cloneable"
def TJx8e188 : u_T := fun k => match k with
  | _ => ("", "", "", false)
def tyJx8e188 : Nat → FieldType := fun k => match k with
  | _ => .int
theorem nmJx8e188 : ∀ a, a < 0 → ∀ b, b < 0 → a ≠ b → (TJx8e188 a).2.1 ≠ (TJx8e188 b).2.1 := by decide +kernel
theorem tyJx8e188_ok : ∀ k, k < 0 → parseFieldDescriptor (TJx8e188 k).2.2.1 = some (tyJx8e188 k) := by decide +kernel
def RJxb160c : String := "java/lang/Comparable"
def TJxb160c : u_T := fun k => match k with
  | _ => ("", "", "", false)
def tyJxb160c : Nat → FieldType := fun k => match k with
  | _ => .int
theorem nmJxb160c : ∀ a, a < 0 → ∀ b, b < 0 → a ≠ b → (TJxb160c a).2.1 ≠ (TJxb160c b).2.1 := by decide +kernel
theorem tyJxb160c_ok : ∀ k, k < 0 → parseFieldDescriptor (TJxb160c k).2.2.1 = some (tyJxb160c k) := by decide +kernel
def RJ6 : String := "java/lang/Integer"
def TJ6 : u_T := fun k => match k with
  | _ => ("", "", "", false)
def tyJ6 : Nat → FieldType := fun k => match k with
  | _ => .int
theorem nmJ6 : ∀ a, a < 0 → ∀ b, b < 0 → a ≠ b → (TJ6 a).2.1 ≠ (TJ6 b).2.1 := by decide +kernel
theorem tyJ6_ok : ∀ k, k < 0 → parseFieldDescriptor (TJ6 k).2.2.1 = some (tyJ6 k) := by decide +kernel
abbrev cJ6_getChars_ba4f3 : ByteArray := prog_17_method_12_code
def yJ6_getChars_ba4f3 : MethodName := ⟨RJ6, "getChars", "(II[B)I"⟩
abbrev cJ6_stringSize_0f7a4 : ByteArray := prog_17_method_13_code
def yJ6_stringSize_0f7a4 : MethodName := ⟨RJ6, "stringSize", "(I)I"⟩
abbrev cJ6_compare_7cf53 : ByteArray := prog_17_method_40_code
def yJ6_compare_7cf53 : MethodName := ⟨RJ6, "compare", "(II)I"⟩
def RJxab1ab : String := "java/lang/Iterable"
def TJxab1ab : u_T := fun k => match k with
  | _ => ("", "", "", false)
def tyJxab1ab : Nat → FieldType := fun k => match k with
  | _ => .int
theorem nmJxab1ab : ∀ a, a < 0 → ∀ b, b < 0 → a ≠ b → (TJxab1ab a).2.1 ≠ (TJxab1ab b).2.1 := by decide +kernel
theorem tyJxab1ab_ok : ∀ k, k < 0 → parseFieldDescriptor (TJxab1ab k).2.2.1 = some (tyJxab1ab k) := by decide +kernel
def RJ9 : String := "java/lang/Math"
def TJ9 : u_T := fun k => match k with
  | _ => ("", "", "", false)
def tyJ9 : Nat → FieldType := fun k => match k with
  | _ => .int
theorem nmJ9 : ∀ a, a < 0 → ∀ b, b < 0 → a ≠ b → (TJ9 a).2.1 ≠ (TJ9 b).2.1 := by decide +kernel
theorem tyJ9_ok : ∀ k, k < 0 → parseFieldDescriptor (TJ9 k).2.2.1 = some (tyJ9 k) := by decide +kernel
abbrev cJ9_abs_0f7a4 : ByteArray := prog_19_method_59_code
def yJ9_abs_0f7a4 : MethodName := ⟨RJ9, "abs", "(I)I"⟩
abbrev cJ9_max_7cf53 : ByteArray := prog_19_method_65_code
def yJ9_max_7cf53 : MethodName := ⟨RJ9, "max", "(II)I"⟩
abbrev cJ9_min_7cf53 : ByteArray := prog_19_method_69_code
def yJ9_min_7cf53 : MethodName := ⟨RJ9, "min", "(II)I"⟩
def RJxd2413 : String := "java/lang/Number"
def TJxd2413 : u_T := fun k => match k with
  | _ => ("", "", "", false)
def tyJxd2413 : Nat → FieldType := fun k => match k with
  | _ => .int
theorem nmJxd2413 : ∀ a, a < 0 → ∀ b, b < 0 → a ≠ b → (TJxd2413 a).2.1 ≠ (TJxd2413 b).2.1 := by decide +kernel
theorem tyJxd2413_ok : ∀ k, k < 0 → parseFieldDescriptor (TJxd2413 k).2.2.1 = some (tyJxd2413 k) := by decide +kernel
def RJ0 : String := "java/lang/String"
def TJ0 : u_T := fun k => match k with
  | 0 => ("java/lang/String", "value", "[B", true)
  | 1 => ("java/lang/String", "coder", "B", true)
  | 2 => ("java/lang/String", "hash", "I", false)
  | _ => ("java/lang/String", "hashIsZero", "Z", false)
def tyJ0 : Nat → FieldType := fun k => match k with
  | 0 => .array .byte
  | 1 => .byte
  | 2 => .int
  | _ => .boolean
theorem nmJ0 : ∀ a, a < 4 → ∀ b, b < 4 → a ≠ b → (TJ0 a).2.1 ≠ (TJ0 b).2.1 := by decide +kernel
theorem tyJ0_ok : ∀ k, k < 4 → parseFieldDescriptor (TJ0 k).2.2.1 = some (tyJ0 k) := by decide +kernel
abbrev cJ0_init_905df : ByteArray := prog_22_method_3_code
def yJ0_init_905df : MethodName := ⟨RJ0, "<init>", "([C)V"⟩
abbrev cJ0_init_81219 : ByteArray := prog_22_method_53_code
def yJ0_init_81219 : MethodName := ⟨RJ0, "<init>", "(Ljava/lang/StringBuilder;)V"⟩
abbrev cJ0_length_8abf5 : ByteArray := prog_22_method_54_code
def yJ0_length_8abf5 : MethodName := ⟨RJ0, "length", "()I"⟩
abbrev cJ0_charAt_5068e : ByteArray := prog_22_method_56_code
def yJ0_charAt_5068e : MethodName := ⟨RJ0, "charAt", "(I)C"⟩
abbrev cJ0_getBytes_840e7 : ByteArray := prog_22_method_147_code
def yJ0_getBytes_840e7 : MethodName := ⟨RJ0, "getBytes", "([BIB)V"⟩
abbrev cJ0_init_bb550 : ByteArray := prog_22_method_149_code
def yJ0_init_bb550 : MethodName := ⟨RJ0, "<init>", "([CIILjava/lang/Void;)V"⟩
abbrev cJ0_init_db425 : ByteArray := prog_22_method_150_code
def yJ0_init_db425 : MethodName := ⟨RJ0, "<init>", "(Ljava/lang/AbstractStringBuilder;Ljava/lang/Void;)V"⟩
abbrev cJ0_coder_7d493 : ByteArray := prog_22_method_152_code
def yJ0_coder_7d493 : MethodName := ⟨RJ0, "coder", "()B"⟩
abbrev cJ0_isLatin1_aae02 : ByteArray := prog_22_method_154_code
def yJ0_isLatin1_aae02 : MethodName := ⟨RJ0, "isLatin1", "()Z"⟩
abbrev cJ0_checkIndex_df160 : ByteArray := prog_22_method_155_code
def yJ0_checkIndex_df160 : MethodName := ⟨RJ0, "checkIndex", "(II)V"⟩
abbrev cJ0_checkBoundsOffCount_cabcc : ByteArray := prog_22_method_157_code
def yJ0_checkBoundsOffCount_cabcc : MethodName := ⟨RJ0, "checkBoundsOffCount", "(III)I"⟩
abbrev cJ0_checkBoundsBeginEnd_23922 : ByteArray := prog_22_method_158_code
def yJ0_checkBoundsBeginEnd_23922 : MethodName := ⟨RJ0, "checkBoundsBeginEnd", "(III)V"⟩
def RJ4 : String := "java/lang/StringBuilder"
def TJ4 : u_T := fun k => match k with
  | 0 => ("java/lang/AbstractStringBuilder", "value", "[B", false)
  | 1 => ("java/lang/AbstractStringBuilder", "coder", "B", false)
  | 2 => ("java/lang/AbstractStringBuilder", "maybeLatin1", "Z", false)
  | _ => ("java/lang/AbstractStringBuilder", "count", "I", false)
def tyJ4 : Nat → FieldType := fun k => match k with
  | 0 => .array .byte
  | 1 => .byte
  | 2 => .boolean
  | _ => .int
theorem nmJ4 : ∀ a, a < 4 → ∀ b, b < 4 → a ≠ b → (TJ4 a).2.1 ≠ (TJ4 b).2.1 := by decide +kernel
theorem tyJ4_ok : ∀ k, k < 4 → parseFieldDescriptor (TJ4 k).2.2.1 = some (tyJ4 k) := by decide +kernel
abbrev cJ4_init_da8c8 : ByteArray := prog_23_method_1_code
def yJ4_init_da8c8 : MethodName := ⟨RJ4, "<init>", "()V"⟩
abbrev cJ4_append_15ec4 : ByteArray := prog_23_method_7_code
def yJ4_append_15ec4 : MethodName := ⟨RJ4, "append", "(Ljava/lang/String;)Ljava/lang/StringBuilder;"⟩
abbrev cJ4_append_cf468 : ByteArray := prog_23_method_14_code
def yJ4_append_cf468 : MethodName := ⟨RJ4, "append", "(C)Ljava/lang/StringBuilder;"⟩
abbrev cJ4_append_bf812 : ByteArray := prog_23_method_15_code
def yJ4_append_bf812 : MethodName := ⟨RJ4, "append", "(I)Ljava/lang/StringBuilder;"⟩
abbrev cJ4_toString_0e30d : ByteArray := prog_23_method_42_code
def yJ4_toString_0e30d : MethodName := ⟨RJ4, "toString", "()Ljava/lang/String;"⟩
abbrev cJ4_length_8abf5 : ByteArray := prog_23_method_93_code
def yJ4_length_8abf5 : MethodName := ⟨RJ4, "length", "()I"⟩
def RJ1 : String := "java/lang/StringLatin1"
def TJ1 : u_T := fun k => match k with
  | _ => ("", "", "", false)
def tyJ1 : Nat → FieldType := fun k => match k with
  | _ => .int
theorem nmJ1 : ∀ a, a < 0 → ∀ b, b < 0 → a ≠ b → (TJ1 a).2.1 ≠ (TJ1 b).2.1 := by decide +kernel
theorem tyJ1_ok : ∀ k, k < 0 → parseFieldDescriptor (TJ1 k).2.2.1 = some (tyJ1 k) := by decide +kernel
abbrev cJ1_charAt_3b067 : ByteArray := prog_24_method_2_code
def yJ1_charAt_3b067 : MethodName := ⟨RJ1, "charAt", "([BI)C"⟩
abbrev cJ1_canEncode_fc78d : ByteArray := prog_24_method_3_code
def yJ1_canEncode_fc78d : MethodName := ⟨RJ1, "canEncode", "(C)Z"⟩
abbrev cJ1_inflate_0e8fd : ByteArray := prog_24_method_50_code
def yJ1_inflate_0e8fd : MethodName := ⟨RJ1, "inflate", "([BI[BII)V"⟩
def RJ2 : String := "java/lang/StringUTF16"
def TJ2 : u_T := fun k => match k with
  | _ => ("", "", "", false)
def tyJ2 : Nat → FieldType := fun k => match k with
  | _ => .int
theorem nmJ2 : ∀ a, a < 0 → ∀ b, b < 0 → a ≠ b → (TJ2 a).2.1 ≠ (TJ2 b).2.1 := by decide +kernel
theorem tyJ2_ok : ∀ k, k < 0 → parseFieldDescriptor (TJ2 k).2.2.1 = some (tyJ2 k) := by decide +kernel
abbrev cJ2_newBytesFor_77867 : ByteArray := prog_25_method_2_code
def yJ2_newBytesFor_77867 : MethodName := ⟨RJ2, "newBytesFor", "(I)[B"⟩
abbrev cJ2_newBytesLength_0f7a4 : ByteArray := prog_25_method_3_code
def yJ2_newBytesLength_0f7a4 : MethodName := ⟨RJ2, "newBytesLength", "(I)I"⟩
abbrev cJ2_putChar_b72d1 : ByteArray := prog_25_method_4_code
def yJ2_putChar_b72d1 : MethodName := ⟨RJ2, "putChar", "([BII)V"⟩
abbrev cJ2_getChar_3b067 : ByteArray := prog_25_method_5_code
def yJ2_getChar_3b067 : MethodName := ⟨RJ2, "getChar", "([BI)C"⟩
abbrev cJ2_length_9d52b : ByteArray := prog_25_method_6_code
def yJ2_length_9d52b : MethodName := ⟨RJ2, "length", "([B)I"⟩
abbrev cJ2_toBytes_dfd3c : ByteArray := prog_25_method_14_code
def yJ2_toBytes_dfd3c : MethodName := ⟨RJ2, "toBytes", "([CII)[B"⟩
abbrev cJ2_coderFromArrayLen_85cad : ByteArray := prog_25_method_15_code
def yJ2_coderFromArrayLen_85cad : MethodName := ⟨RJ2, "coderFromArrayLen", "([BI)B"⟩
abbrev cJ2_compress_dfd3c : ByteArray := prog_25_method_16_code
def yJ2_compress_dfd3c : MethodName := ⟨RJ2, "compress", "([CII)[B"⟩
abbrev cJ2_compress_39247 : ByteArray := prog_25_method_17_code
def yJ2_compress_39247 : MethodName := ⟨RJ2, "compress", "([BII)[B"⟩
abbrev cJ2_compress_fe38e : ByteArray := prog_25_method_21_code
def yJ2_compress_fe38e : MethodName := ⟨RJ2, "compress", "([CI[BII)I"⟩
abbrev cJ2_compress_5af95 : ByteArray := prog_25_method_22_code
def yJ2_compress_5af95 : MethodName := ⟨RJ2, "compress", "([BI[BII)I"⟩
abbrev cJ2_putCharSB_b72d1 : ByteArray := prog_25_method_71_code
def yJ2_putCharSB_b72d1 : MethodName := ⟨RJ2, "putCharSB", "([BII)V"⟩
abbrev cJ2_getChars_46870 : ByteArray := prog_25_method_77_code
def yJ2_getChars_46870 : MethodName := ⟨RJ2, "getChars", "(III[B)I"⟩
abbrev cJ2_putCharsAt_cd4e5 : ByteArray := prog_25_method_81_code
def yJ2_putCharsAt_cd4e5 : MethodName := ⟨RJ2, "putCharsAt", "([BICCCC)I"⟩
abbrev cJ2_charAt_3b067 : ByteArray := prog_25_method_83_code
def yJ2_charAt_3b067 : MethodName := ⟨RJ2, "charAt", "([BI)C"⟩
abbrev cJ2_inflate_0e8fd : ByteArray := prog_25_method_86_code
def yJ2_inflate_0e8fd : MethodName := ⟨RJ2, "inflate", "([BI[BII)V"⟩
abbrev cJ2_getChars_ba4f3 : ByteArray := prog_25_method_89_code
def yJ2_getChars_ba4f3 : MethodName := ⟨RJ2, "getChars", "(II[B)I"⟩
abbrev cJ2_checkIndex_2214a : ByteArray := prog_25_method_91_code
def yJ2_checkIndex_2214a : MethodName := ⟨RJ2, "checkIndex", "(I[B)V"⟩
abbrev cJ2_checkBoundsBeginEnd_d044e : ByteArray := prog_25_method_93_code
def yJ2_checkBoundsBeginEnd_d044e : MethodName := ⟨RJ2, "checkBoundsBeginEnd", "(II[B)V"⟩
abbrev cJ2_checkBoundsOffCount_d044e : ByteArray := prog_25_method_94_code
def yJ2_checkBoundsOffCount_d044e : MethodName := ⟨RJ2, "checkBoundsOffCount", "(II[B)V"⟩
def RJ10 : String := "java/lang/System"
def TJ10 : u_T := fun k => match k with
  | _ => ("", "", "", false)
def tyJ10 : Nat → FieldType := fun k => match k with
  | _ => .int
theorem nmJ10 : ∀ a, a < 0 → ∀ b, b < 0 → a ≠ b → (TJ10 a).2.1 ≠ (TJ10 b).2.1 := by decide +kernel
theorem tyJ10_ok : ∀ k, k < 0 → parseFieldDescriptor (TJ10 k).2.2.1 = some (tyJ10 k) := by decide +kernel
def RJxfd54e : String := "java/lang/constant/Constable"
def TJxfd54e : u_T := fun k => match k with
  | _ => ("", "", "", false)
def tyJxfd54e : Nat → FieldType := fun k => match k with
  | _ => .int
theorem nmJxfd54e : ∀ a, a < 0 → ∀ b, b < 0 → a ≠ b → (TJxfd54e a).2.1 ≠ (TJxfd54e b).2.1 := by decide +kernel
theorem tyJxfd54e_ok : ∀ k, k < 0 → parseFieldDescriptor (TJxfd54e k).2.2.1 = some (tyJxfd54e k) := by decide +kernel
def RJx3cf43 : String := "java/lang/constant/ConstantDesc"
def TJx3cf43 : u_T := fun k => match k with
  | _ => ("", "", "", false)
def tyJx3cf43 : Nat → FieldType := fun k => match k with
  | _ => .int
theorem nmJx3cf43 : ∀ a, a < 0 → ∀ b, b < 0 → a ≠ b → (TJx3cf43 a).2.1 ≠ (TJx3cf43 b).2.1 := by decide +kernel
theorem tyJx3cf43_ok : ∀ k, k < 0 → parseFieldDescriptor (TJx3cf43 k).2.2.1 = some (tyJx3cf43 k) := by decide +kernel
def RJxa1e45 : String := "java/util/AbstractCollection"
def TJxa1e45 : u_T := fun k => match k with
  | _ => ("", "", "", false)
def tyJxa1e45 : Nat → FieldType := fun k => match k with
  | _ => .int
theorem nmJxa1e45 : ∀ a, a < 0 → ∀ b, b < 0 → a ≠ b → (TJxa1e45 a).2.1 ≠ (TJxa1e45 b).2.1 := by decide +kernel
theorem tyJxa1e45_ok : ∀ k, k < 0 → parseFieldDescriptor (TJxa1e45 k).2.2.1 = some (tyJxa1e45 k) := by decide +kernel
abbrev cJxa1e45_init_da8c8 : ByteArray := prog_30_method_1_code
def yJxa1e45_init_da8c8 : MethodName := ⟨RJxa1e45, "<init>", "()V"⟩
def RJxc12de : String := "java/util/AbstractList"
def TJxc12de : u_T := fun k => match k with
  | _ => ("", "", "", false)
def tyJxc12de : Nat → FieldType := fun k => match k with
  | _ => .int
theorem nmJxc12de : ∀ a, a < 0 → ∀ b, b < 0 → a ≠ b → (TJxc12de a).2.1 ≠ (TJxc12de b).2.1 := by decide +kernel
theorem tyJxc12de_ok : ∀ k, k < 0 → parseFieldDescriptor (TJxc12de k).2.2.1 = some (tyJxc12de k) := by decide +kernel
abbrev cJxc12de_init_da8c8 : ByteArray := prog_31_method_1_code
def yJxc12de_init_da8c8 : MethodName := ⟨RJxc12de, "<init>", "()V"⟩
def RJx35411 : String := "java/util/ArrayList$Itr"
def TJx35411 : u_T := fun k => match k with
  | 0 => ("java/util/ArrayList$Itr", "cursor", "I", false)
  | 1 => ("java/util/ArrayList$Itr", "lastRet", "I", false)
  | 2 => ("java/util/ArrayList$Itr", "expectedModCount", "I", false)
  | _ => ("java/util/ArrayList$Itr", "this$0", "Ljava/util/ArrayList;", true)
def tyJx35411 : Nat → FieldType := fun k => match k with
  | 0 => .int
  | 1 => .int
  | 2 => .int
  | _ => .object "java/util/ArrayList"
theorem nmJx35411 : ∀ a, a < 4 → ∀ b, b < 4 → a ≠ b → (TJx35411 a).2.1 ≠ (TJx35411 b).2.1 := by decide +kernel
theorem tyJx35411_ok : ∀ k, k < 4 → parseFieldDescriptor (TJx35411 k).2.2.1 = some (tyJx35411 k) := by decide +kernel
abbrev cJx35411_init_45d68 : ByteArray := prog_33_method_1_code
def yJx35411_init_45d68 : MethodName := ⟨RJx35411, "<init>", "(Ljava/util/ArrayList;)V"⟩
abbrev cJx35411_hasNext_aae02 : ByteArray := prog_33_method_2_code
def yJx35411_hasNext_aae02 : MethodName := ⟨RJx35411, "hasNext", "()Z"⟩
abbrev cJx35411_next_0502b : ByteArray := prog_33_method_3_code
def yJx35411_next_0502b : MethodName := ⟨RJx35411, "next", "()Ljava/lang/Object;"⟩
abbrev cJx35411_checkForComodification_da8c8 : ByteArray := prog_33_method_6_code
def yJx35411_checkForComodification_da8c8 : MethodName := ⟨RJx35411, "checkForComodification", "()V"⟩
def RJx4a65c : String := "java/util/ArrayList"
def TJx4a65c : u_T := fun k => match k with
  | 0 => ("java/util/AbstractList", "modCount", "I", false)
  | 1 => ("java/util/ArrayList", "elementData", "[Ljava/lang/Object;", false)
  | _ => ("java/util/ArrayList", "size", "I", false)
def tyJx4a65c : Nat → FieldType := fun k => match k with
  | 0 => .int
  | 1 => .array (.object "java/lang/Object")
  | _ => .int
theorem nmJx4a65c : ∀ a, a < 3 → ∀ b, b < 3 → a ≠ b → (TJx4a65c a).2.1 ≠ (TJx4a65c b).2.1 := by decide +kernel
theorem tyJx4a65c_ok : ∀ k, k < 3 → parseFieldDescriptor (TJx4a65c k).2.2.1 = some (tyJx4a65c k) := by decide +kernel
abbrev cJx4a65c_init_da8c8 : ByteArray := prog_32_method_2_code
def yJx4a65c_init_da8c8 : MethodName := ⟨RJx4a65c, "<init>", "()V"⟩
abbrev cJx4a65c_grow_92f84 : ByteArray := prog_32_method_6_code
def yJx4a65c_grow_92f84 : MethodName := ⟨RJx4a65c, "grow", "(I)[Ljava/lang/Object;"⟩
abbrev cJx4a65c_grow_d5877 : ByteArray := prog_32_method_7_code
def yJx4a65c_grow_d5877 : MethodName := ⟨RJx4a65c, "grow", "()[Ljava/lang/Object;"⟩
abbrev cJx4a65c_size_8abf5 : ByteArray := prog_32_method_8_code
def yJx4a65c_size_8abf5 : MethodName := ⟨RJx4a65c, "size", "()I"⟩
abbrev cJx4a65c_isEmpty_aae02 : ByteArray := prog_32_method_9_code
def yJx4a65c_isEmpty_aae02 : MethodName := ⟨RJx4a65c, "isEmpty", "()Z"⟩
abbrev cJx4a65c_elementData_915e3 : ByteArray := prog_32_method_18_code
def yJx4a65c_elementData_915e3 : MethodName := ⟨RJx4a65c, "elementData", "(I)Ljava/lang/Object;"⟩
abbrev cJx4a65c_get_915e3 : ByteArray := prog_32_method_20_code
def yJx4a65c_get_915e3 : MethodName := ⟨RJx4a65c, "get", "(I)Ljava/lang/Object;"⟩
abbrev cJx4a65c_add_72be8 : ByteArray := prog_32_method_24_code
def yJx4a65c_add_72be8 : MethodName := ⟨RJx4a65c, "add", "(Ljava/lang/Object;[Ljava/lang/Object;I)V"⟩
abbrev cJx4a65c_add_9ea2d : ByteArray := prog_32_method_25_code
def yJx4a65c_add_9ea2d : MethodName := ⟨RJx4a65c, "add", "(Ljava/lang/Object;)Z"⟩
abbrev cJx4a65c_remove_915e3 : ByteArray := prog_32_method_29_code
def yJx4a65c_remove_915e3 : MethodName := ⟨RJx4a65c, "remove", "(I)Ljava/lang/Object;"⟩
abbrev cJx4a65c_fastRemove_b59b0 : ByteArray := prog_32_method_39_code
def yJx4a65c_fastRemove_b59b0 : MethodName := ⟨RJx4a65c, "fastRemove", "([Ljava/lang/Object;I)V"⟩
abbrev cJx4a65c_iterator_32c93 : ByteArray := prog_32_method_55_code
def yJx4a65c_iterator_32c93 : MethodName := ⟨RJx4a65c, "iterator", "()Ljava/util/Iterator;"⟩
def RJ7 : String := "java/util/Arrays"
def TJ7 : u_T := fun k => match k with
  | _ => ("", "", "", false)
def tyJ7 : Nat → FieldType := fun k => match k with
  | _ => .int
theorem nmJ7 : ∀ a, a < 0 → ∀ b, b < 0 → a ≠ b → (TJ7 a).2.1 ≠ (TJ7 b).2.1 := by decide +kernel
theorem tyJ7_ok : ∀ k, k < 0 → parseFieldDescriptor (TJ7 k).2.2.1 = some (tyJ7 k) := by decide +kernel
abbrev cJ7_copyOf_1904c : ByteArray := prog_34_method_119_code
def yJ7_copyOf_1904c : MethodName := ⟨RJ7, "copyOf", "([Ljava/lang/Object;I)[Ljava/lang/Object;"⟩
abbrev cJ7_copyOf_6403c : ByteArray := prog_34_method_120_code
def yJ7_copyOf_6403c : MethodName := ⟨RJ7, "copyOf", "([Ljava/lang/Object;ILjava/lang/Class;)[Ljava/lang/Object;"⟩
abbrev cJ7_copyOf_9075b : ByteArray := prog_34_method_121_code
def yJ7_copyOf_9075b : MethodName := ⟨RJ7, "copyOf", "([BI)[B"⟩
abbrev cJ7_checkLength_df160 : ByteArray := prog_34_method_131_code
def yJ7_checkLength_df160 : MethodName := ⟨RJ7, "checkLength", "(II)V"⟩
abbrev cJ7_copyOfRange_39247 : ByteArray := prog_34_method_132_code
def yJ7_copyOfRange_39247 : MethodName := ⟨RJ7, "copyOfRange", "([BII)[B"⟩
abbrev cJ7_copyOfRangeByte_39247 : ByteArray := prog_34_method_133_code
def yJ7_copyOfRangeByte_39247 : MethodName := ⟨RJ7, "copyOfRangeByte", "([BII)[B"⟩
def RJx5ef63 : String := "java/util/Collection"
def TJx5ef63 : u_T := fun k => match k with
  | _ => ("", "", "", false)
def tyJx5ef63 : Nat → FieldType := fun k => match k with
  | _ => .int
theorem nmJx5ef63 : ∀ a, a < 0 → ∀ b, b < 0 → a ≠ b → (TJx5ef63 a).2.1 ≠ (TJx5ef63 b).2.1 := by decide +kernel
theorem tyJx5ef63_ok : ∀ k, k < 0 → parseFieldDescriptor (TJx5ef63 k).2.2.1 = some (tyJx5ef63 k) := by decide +kernel
def RJx4d0d8 : String := "java/util/Iterator"
def TJx4d0d8 : u_T := fun k => match k with
  | _ => ("", "", "", false)
def tyJx4d0d8 : Nat → FieldType := fun k => match k with
  | _ => .int
theorem nmJx4d0d8 : ∀ a, a < 0 → ∀ b, b < 0 → a ≠ b → (TJx4d0d8 a).2.1 ≠ (TJx4d0d8 b).2.1 := by decide +kernel
theorem tyJx4d0d8_ok : ∀ k, k < 0 → parseFieldDescriptor (TJx4d0d8 k).2.2.1 = some (tyJx4d0d8 k) := by decide +kernel
def RJxbd725 : String := "java/util/List"
def TJxbd725 : u_T := fun k => match k with
  | _ => ("", "", "", false)
def tyJxbd725 : Nat → FieldType := fun k => match k with
  | _ => .int
theorem nmJxbd725 : ∀ a, a < 0 → ∀ b, b < 0 → a ≠ b → (TJxbd725 a).2.1 ≠ (TJxbd725 b).2.1 := by decide +kernel
theorem tyJxbd725_ok : ∀ k, k < 0 → parseFieldDescriptor (TJxbd725 k).2.2.1 = some (tyJxbd725 k) := by decide +kernel
def RJ15 : String := "java/util/Objects"
def TJ15 : u_T := fun k => match k with
  | _ => ("", "", "", false)
def tyJ15 : Nat → FieldType := fun k => match k with
  | _ => .int
theorem nmJ15 : ∀ a, a < 0 → ∀ b, b < 0 → a ≠ b → (TJ15 a).2.1 ≠ (TJ15 b).2.1 := by decide +kernel
theorem tyJ15_ok : ∀ k, k < 0 → parseFieldDescriptor (TJ15 k).2.2.1 = some (tyJ15 k) := by decide +kernel
abbrev cJ15_checkIndex_7cf53 : ByteArray := prog_38_method_17_code
def yJ15_checkIndex_7cf53 : MethodName := ⟨RJ15, "checkIndex", "(II)I"⟩
def RJxf0a74 : String := "java/util/RandomAccess"
def TJxf0a74 : u_T := fun k => match k with
  | _ => ("", "", "", false)
def tyJxf0a74 : Nat → FieldType := fun k => match k with
  | _ => .int
theorem nmJxf0a74 : ∀ a, a < 0 → ∀ b, b < 0 → a ≠ b → (TJxf0a74 a).2.1 ≠ (TJxf0a74 b).2.1 := by decide +kernel
theorem tyJxf0a74_ok : ∀ k, k < 0 → parseFieldDescriptor (TJxf0a74 k).2.2.1 = some (tyJxf0a74 k) := by decide +kernel
def RJxa66e6 : String := "java/util/SequencedCollection"
def TJxa66e6 : u_T := fun k => match k with
  | _ => ("", "", "", false)
def tyJxa66e6 : Nat → FieldType := fun k => match k with
  | _ => .int
theorem nmJxa66e6 : ∀ a, a < 0 → ∀ b, b < 0 → a ≠ b → (TJxa66e6 a).2.1 ≠ (TJxa66e6 b).2.1 := by decide +kernel
theorem tyJxa66e6_ok : ∀ k, k < 0 → parseFieldDescriptor (TJxa66e6 k).2.2.1 = some (tyJxa66e6 k) := by decide +kernel
def RJ8 : String := "jdk/internal/util/ArraysSupport"
def TJ8 : u_T := fun k => match k with
  | _ => ("", "", "", false)
def tyJ8 : Nat → FieldType := fun k => match k with
  | _ => .int
theorem nmJ8 : ∀ a, a < 0 → ∀ b, b < 0 → a ≠ b → (TJ8 a).2.1 ≠ (TJ8 b).2.1 := by decide +kernel
theorem tyJ8_ok : ∀ k, k < 0 → parseFieldDescriptor (TJ8 k).2.2.1 = some (tyJ8 k) := by decide +kernel
abbrev cJ8_newLength_cabcc : ByteArray := prog_41_method_27_code
def yJ8_newLength_cabcc : MethodName := ⟨RJ8, "newLength", "(III)I"⟩
abbrev cJ8_hugeLength_7cf53 : ByteArray := prog_41_method_28_code
def yJ8_hugeLength_7cf53 : MethodName := ⟨RJ8, "hugeLength", "(II)I"⟩
def RJ3 : String := "jdk/internal/util/Preconditions"
def TJ3 : u_T := fun k => match k with
  | _ => ("", "", "", false)
def tyJ3 : Nat → FieldType := fun k => match k with
  | _ => .int
theorem nmJ3 : ∀ a, a < 0 → ∀ b, b < 0 → a ≠ b → (TJ3 a).2.1 ≠ (TJ3 b).2.1 := by decide +kernel
theorem tyJ3_ok : ∀ k, k < 0 → parseFieldDescriptor (TJ3 k).2.2.1 = some (tyJ3 k) := by decide +kernel
abbrev cJ3_checkIndex_8e157 : ByteArray := prog_42_method_11_code
def yJ3_checkIndex_8e157 : MethodName := ⟨RJ3, "checkIndex", "(IILjava/util/function/BiFunction;)I"⟩
abbrev cJ3_checkFromToIndex_8c36e : ByteArray := prog_42_method_12_code
def yJ3_checkFromToIndex_8c36e : MethodName := ⟨RJ3, "checkFromToIndex", "(IIILjava/util/function/BiFunction;)I"⟩
abbrev cJ3_checkFromIndexSize_8c36e : ByteArray := prog_42_method_13_code
def yJ3_checkFromIndexSize_8c36e : MethodName := ⟨RJ3, "checkFromIndexSize", "(IIILjava/util/function/BiFunction;)I"⟩
def RL : String := "SigntextLaw"
abbrev cL_put : ByteArray := method_2_code
def yL_put : MethodName := ⟨RL, "put", "(LSigntext;IIIIIILSigntextLaw$Out;)I"⟩
abbrev cL_clear : ByteArray := method_3_code
def yL_clear : MethodName := ⟨RL, "clear", "(LSigntext;ILSigntextLaw$Out;)I"⟩
abbrev cL_copy : ByteArray := method_4_code
def yL_copy : MethodName := ⟨RL, "copy", "(LSigntext;IILSigntextLaw$Out;)I"⟩
abbrev cL_part : ByteArray := method_5_code
def yL_part : MethodName := ⟨RL, "part", "(LSigntext;IIIILSigntextLaw$Out;)I"⟩
abbrev cL_tail : ByteArray := method_6_code
def yL_tail : MethodName := ⟨RL, "tail", "(LSigntext;IIILSigntextLaw$Out;)I"⟩
abbrev cL_join : ByteArray := method_7_code
def yL_join : MethodName := ⟨RL, "join", "(LSigntext;IIILSigntextLaw$Out;)I"⟩
abbrev cL_times : ByteArray := method_8_code
def yL_times : MethodName := ⟨RL, "times", "(LSigntext;IIILSigntextLaw$Out;)I"⟩
abbrev cL_trim : ByteArray := method_9_code
def yL_trim : MethodName := ⟨RL, "trim", "(LSigntext;IZILSigntextLaw$Out;)I"⟩
abbrev cL_number : ByteArray := method_10_code
def yL_number : MethodName := ⟨RL, "number", "(LSigntext;IIZLSigntextLaw$Out;)I"⟩
abbrev cL_great : ByteArray := method_11_code
def yL_great : MethodName := ⟨RL, "great", "(LSigntext;IIILSigntextLaw$Out;)I"⟩
abbrev cL_truth : ByteArray := method_12_code
def yL_truth : MethodName := ⟨RL, "truth", "(LSigntext;IZZLSigntextLaw$Out;)I"⟩
abbrev cL_ahead : ByteArray := method_13_code
def yL_ahead : MethodName := ⟨RL, "ahead", "(LSigntext;IILSigntextLaw$Out;)I"⟩
abbrev cL_known : ByteArray := method_14_code
def yL_known : MethodName := ⟨RL, "known", "(LSigntext;IILSigntextLaw$Out;)I"⟩
abbrev cL_lay : ByteArray := method_15_code
def yL_lay : MethodName := ⟨RL, "lay", "(LSigntext;ILSigntextLaw$Out;)I"⟩
abbrev cL_set : ByteArray := method_16_code
def yL_set : MethodName := ⟨RL, "set", "(LSigntext;IILSigntextLaw$Out;)I"⟩
abbrev cL_take : ByteArray := method_17_code
def yL_take : MethodName := ⟨RL, "take", "(LSigntext;ILSigntextLaw$Out;)I"⟩
abbrev cL_takePart : ByteArray := method_18_code
def yL_takePart : MethodName := ⟨RL, "takePart", "(LSigntext;IIILSigntextLaw$Out;)I"⟩
abbrev cL_cut : ByteArray := method_19_code
def yL_cut : MethodName := ⟨RL, "cut", "(LSigntext;ILSigntextLaw$Out;)I"⟩
abbrev cL_takePiece : ByteArray := method_20_code
def yL_takePiece : MethodName := ⟨RL, "takePiece", "(LSigntext;IILSigntextLaw$Out;)I"⟩
abbrev cL_text : ByteArray := method_21_code
def yL_text : MethodName := ⟨RL, "text", "(LSigntext;ILSigntextLaw$Out;)I"⟩
abbrev cL_length : ByteArray := method_22_code
def yL_length : MethodName := ⟨RL, "length", "(LSigntext;ILSigntextLaw$Out;)I"⟩
abbrev cL_at : ByteArray := method_23_code
def yL_at : MethodName := ⟨RL, "at", "(LSigntext;IILSigntextLaw$Out;)I"⟩
abbrev cL_isEmpty : ByteArray := method_24_code
def yL_isEmpty : MethodName := ⟨RL, "isEmpty", "(LSigntext;ILSigntextLaw$Out;)I"⟩
abbrev cL_isBlank : ByteArray := method_25_code
def yL_isBlank : MethodName := ⟨RL, "isBlank", "(LSigntext;ILSigntextLaw$Out;)I"⟩
abbrev cL_hash : ByteArray := method_26_code
def yL_hash : MethodName := ⟨RL, "hash", "(LSigntext;ILSigntextLaw$Out;)I"⟩
abbrev cL_first : ByteArray := method_27_code
def yL_first : MethodName := ⟨RL, "first", "(LSigntext;IILSigntextLaw$Out;)I"⟩
abbrev cL_last : ByteArray := method_28_code
def yL_last : MethodName := ⟨RL, "last", "(LSigntext;IILSigntextLaw$Out;)I"⟩
abbrev cL_next : ByteArray := method_29_code
def yL_next : MethodName := ⟨RL, "next", "(LSigntext;IIILSigntextLaw$Out;)I"⟩
abbrev cL_begins : ByteArray := method_30_code
def yL_begins : MethodName := ⟨RL, "begins", "(LSigntext;IIZLSigntextLaw$Out;)I"⟩
abbrev cL_stands : ByteArray := method_31_code
def yL_stands : MethodName := ⟨RL, "stands", "(LSigntext;IIIZLSigntextLaw$Out;)I"⟩
abbrev cL_firstOf : ByteArray := method_32_code
def yL_firstOf : MethodName := ⟨RL, "firstOf", "(LSigntext;IILSigntextLaw$Out;)I"⟩
abbrev cL_lastOf : ByteArray := method_33_code
def yL_lastOf : MethodName := ⟨RL, "lastOf", "(LSigntext;IILSigntextLaw$Out;)I"⟩
abbrev cL_isIn : ByteArray := method_34_code
def yL_isIn : MethodName := ⟨RL, "isIn", "(LSigntext;IILSigntextLaw$Out;)I"⟩
abbrev cL_isSame : ByteArray := method_35_code
def yL_isSame : MethodName := ⟨RL, "isSame", "(LSigntext;IIZLSigntextLaw$Out;)I"⟩
abbrev cL_order : ByteArray := method_36_code
def yL_order : MethodName := ⟨RL, "order", "(LSigntext;IILSigntextLaw$Out;)I"⟩
abbrev cL_orderLike : ByteArray := method_37_code
def yL_orderLike : MethodName := ⟨RL, "orderLike", "(LSigntext;IILSigntextLaw$Out;)I"⟩
abbrev cL_rowAt : ByteArray := method_38_code
def yL_rowAt : MethodName := ⟨RL, "rowAt", "(LSigntext;ILSigntextLaw$Out;)I"⟩
abbrev cL_piece : ByteArray := method_39_code
def yL_piece : MethodName := ⟨RL, "piece", "(LSigntext;ILSigntextLaw$Out;)I"⟩
abbrev cL_isPiece : ByteArray := method_40_code
def yL_isPiece : MethodName := ⟨RL, "isPiece", "(LSigntext;IILSigntextLaw$Out;)I"⟩
abbrev cL_house : ByteArray := method_41_code
def yL_house : MethodName := ⟨RL, "house", "(LSigntext;ILSigntextLaw$Out;)I"⟩
abbrev cL_law : ByteArray := code
def yL_law : MethodName := ⟨RL, "law", "([I)Z"⟩
abbrev vwCl : List vw_C := [(RJ0, TJ0, 4), (RJ4, TJ4, 4), (RJx35411, TJx35411, 4), (RJx4a65c, TJx4a65c, 3), (RX0, TX0, 2), (RX1, TX1, 3), (RX2, TX2, 8), (RX3, TX3, 2), (RX4, TX4, 5)]
end
section
/-! the good words of the tables, and each by its place -/
def GW : List Cond := lw_tbl.filter goodWord
theorem gw_of {w : Cond} (h : w ∈ lw_tbl) (g : goodWord w = true) : w ∈ GW := List.mem_filter.mpr ⟨h, g⟩
theorem gw_good {w : Cond} (h : w ∈ GW) : goodWord w = true := (List.mem_filter.mp h).2
theorem gw_in {w : Cond} (h : w ∈ GW) : w ∈ lw_tbl := (List.mem_filter.mp h).1
theorem tin_1 : ∀ w ∈ tables_1_1, w ∈ lw_tbl := fun w h => List.mem_append_right _ (List.mem_append_left _ h)
theorem tin_2 : ∀ w ∈ tables_1_2, w ∈ lw_tbl := fun w h => List.mem_append_right _ (List.mem_append_right _ (List.mem_append_left _ h))
theorem tin_3 : ∀ w ∈ tables_1_3, w ∈ lw_tbl := fun w h => List.mem_append_right _ (List.mem_append_right _ (List.mem_append_right _ (List.mem_append_left _ h)))
theorem tin_4 : ∀ w ∈ tables_1_4, w ∈ lw_tbl := fun w h => List.mem_append_right _ (List.mem_append_right _ (List.mem_append_right _ (List.mem_append_right _ (List.mem_append_left _ h))))
theorem tin_5 : ∀ w ∈ tables_1_5, w ∈ lw_tbl := fun w h => List.mem_append_right _ (List.mem_append_right _ (List.mem_append_right _ (List.mem_append_right _ (List.mem_append_right _ (List.mem_append_left _ h)))))
theorem tin_6 : ∀ w ∈ tables_1_6, w ∈ lw_tbl := fun w h => List.mem_append_right _ (List.mem_append_right _ (List.mem_append_right _ (List.mem_append_right _ (List.mem_append_right _ (List.mem_append_right _ (List.mem_append_left _ h))))))
theorem tin_7 : ∀ w ∈ tables_1_7, w ∈ lw_tbl := fun w h => List.mem_append_right _ (List.mem_append_right _ (List.mem_append_right _ (List.mem_append_right _ (List.mem_append_right _ (List.mem_append_right _ (List.mem_append_right _ (h)))))))
theorem gw_at {w : Cond} {L : List Cond} (hL : ∀ x ∈ L, x ∈ lw_tbl) (k : Nat) (h : L[k]? = some w) (g : goodWord w = true) : w ∈ GW := gw_of (hL w (List.mem_of_getElem? h)) g
theorem tw_1_0 : (Cond.initialized "SigntextLaw") ∈ GW := gw_at tin_1 0 rfl rfl
theorem tw_1_1 : (Cond.initialized "Signtext") ∈ GW := gw_at tin_1 1 rfl rfl
theorem tw_1_2 : (Cond.initialized "Signtext$Line") ∈ GW := gw_at tin_1 2 rfl rfl
theorem tw_1_3 : (Cond.initialized "Signtext$Pieces") ∈ GW := gw_at tin_1 3 rfl rfl
theorem tw_1_4 : (Cond.initialized "java/lang/String") ∈ GW := gw_at tin_1 4 rfl rfl
theorem tw_1_5 : (Cond.initialized "java/lang/StringLatin1") ∈ GW := gw_at tin_1 5 rfl rfl
theorem tw_1_6 : (Cond.initialized "jdk/internal/util/Preconditions") ∈ GW := gw_at tin_1 6 rfl rfl
theorem tw_1_7 : (Cond.initialized "java/lang/StringUTF16") ∈ GW := gw_at tin_1 7 rfl rfl
theorem tw_1_8 : (Cond.initialized "SigntextModel") ∈ GW := gw_at tin_1 8 rfl rfl
theorem tw_1_9 : (Cond.initialized "java/util/AbstractCollection") ∈ GW := gw_at tin_1 9 rfl rfl
theorem tw_1_10 : (Cond.initialized "java/util/AbstractList") ∈ GW := gw_at tin_1 10 rfl rfl
theorem tw_1_11 : (Cond.initialized "java/util/ArrayList") ∈ GW := gw_at tin_1 11 rfl rfl
theorem tw_1_12 : (Cond.initialized "SigntextLaw$Out") ∈ GW := gw_at tin_1 12 rfl rfl
theorem tw_1_13 : (Cond.initialized "java/lang/Throwable") ∈ GW := gw_at tin_1 13 rfl rfl
theorem tw_1_14 : (Cond.initialized "java/lang/Exception") ∈ GW := gw_at tin_1 14 rfl rfl
theorem tw_1_15 : (Cond.initialized "java/lang/RuntimeException") ∈ GW := gw_at tin_1 15 rfl rfl
theorem tw_1_16 : (Cond.initialized "java/lang/IndexOutOfBoundsException") ∈ GW := gw_at tin_1 16 rfl rfl
theorem tw_1_17 : (Cond.initialized "java/lang/IllegalArgumentException") ∈ GW := gw_at tin_1 17 rfl rfl
theorem tw_1_18 : (Cond.initialized "java/lang/IllegalStateException") ∈ GW := gw_at tin_1 18 rfl rfl
theorem tw_1_19 : (Cond.initialized "java/lang/Math") ∈ GW := gw_at tin_1 19 rfl rfl
theorem tw_1_20 : (Cond.initialized "jdk/internal/util/ArraysSupport") ∈ GW := gw_at tin_1 20 rfl rfl
theorem tw_1_21 : (Cond.initialized "java/util/Arrays") ∈ GW := gw_at tin_1 21 rfl rfl
theorem tw_1_22 : (Cond.initialized "java/lang/System") ∈ GW := gw_at tin_1 22 rfl rfl
theorem tw_1_23 : (Cond.initialized "java/util/Objects") ∈ GW := gw_at tin_1 23 rfl rfl
theorem tw_1_24 : (Cond.initialized "java/lang/AbstractStringBuilder") ∈ GW := gw_at tin_1 24 rfl rfl
theorem tw_1_25 : (Cond.initialized "java/lang/StringBuilder") ∈ GW := gw_at tin_1 25 rfl rfl
theorem tw_1_26 : (Cond.initialized "java/lang/Number") ∈ GW := gw_at tin_1 26 rfl rfl
theorem tw_1_27 : (Cond.initialized "java/lang/Integer") ∈ GW := gw_at tin_1 27 rfl rfl
theorem tw_1_28 : (Cond.initialized "java/util/ArrayList$Itr") ∈ GW := gw_at tin_1 28 rfl rfl
theorem tw_1_29 : (Cond.classLink "SigntextLaw" 8 "Signtext") ∈ GW := gw_at tin_1 29 rfl rfl
theorem tw_1_30 : (Cond.instantiable "Signtext" 8) ∈ GW := gw_at tin_1 30 rfl rfl
theorem tw_1_31 : (Cond.methodLink "SigntextLaw" 158 yX2_init) ∈ GW := gw_at tin_1 31 rfl rfl
theorem tw_1_32 : (Cond.instanceMethod yX2_init) ∈ GW := gw_at tin_1 32 rfl rfl
theorem tw_1_33 : (Cond.code yX2_init cX2_init 2 (none : Option Jvm.ClassFile.FieldType)) ∈ GW := gw_at tin_1 33 rfl rfl
theorem tw_1_34 : (Cond.methodLink "Signtext" 1 ({ cls := "java/lang/Object", name := "<init>", desc := "()V" } : Jvm.MethodName)) ∈ GW := gw_at tin_1 34 rfl rfl
theorem tw_1_35 : (Cond.instanceMethod ({ cls := "java/lang/Object", name := "<init>", desc := "()V" } : Jvm.MethodName)) ∈ GW := gw_at tin_1 35 rfl rfl
theorem tw_1_36 : (Cond.code ({ cls := "java/lang/Object", name := "<init>", desc := "()V" } : Jvm.MethodName) object_method_1_code 1 (none : Option Jvm.ClassFile.FieldType)) ∈ GW := gw_at tin_1 36 rfl rfl
theorem tw_1_37 : (Cond.classLink "Signtext" 9 "Signtext$Line") ∈ GW := gw_at tin_1 37 rfl rfl
theorem tw_1_39 : (Cond.instantiable "Signtext$Line" 2) ∈ GW := gw_at tin_1 39 rfl rfl
theorem tw_1_41 : (Cond.instanceMethod yX0_init) ∈ GW := gw_at tin_1 41 rfl rfl
theorem tw_1_42 : (Cond.code yX0_init cX0_init 1 (none : Option Jvm.ClassFile.FieldType)) ∈ GW := gw_at tin_1 42 rfl rfl
theorem tw_1_43 : (Cond.methodLink "Signtext$Line" 3 ({ cls := "java/lang/Object", name := "<init>", desc := "()V" } : Jvm.MethodName)) ∈ GW := gw_at tin_1 43 rfl rfl
theorem tw_1_44 : (Cond.fieldLink "Signtext$Line" 9 "Signtext$Line" "codes" "[C") ∈ GW := gw_at tin_1 44 rfl rfl
theorem tw_1_45 : (Cond.fieldLink "Signtext$Line" 15 "Signtext$Line" "count" "I") ∈ GW := gw_at tin_1 45 rfl rfl
theorem tw_1_46 : (Cond.laysFinal "Signtext$Line" "Signtext$Line" "codes" "[C") ∈ GW := gw_at tin_1 46 rfl rfl
theorem tw_1_48 : (Cond.lays "Signtext$Line" "Signtext$Line" "count" "I") ∈ GW := gw_at tin_1 48 rfl rfl
theorem tw_1_50 : (Cond.superclass "Signtext$Line" "java/lang/Object") ∈ GW := gw_at tin_1 50 rfl rfl
theorem tw_1_51 : (Cond.arrayClass .char) ∈ GW := gw_at tin_1 51 rfl rfl
theorem tw_1_52 : (Cond.classLink "Signtext" 23 "Signtext$Pieces") ∈ GW := gw_at tin_1 52 rfl rfl
theorem tw_1_53 : (Cond.instantiable "Signtext$Pieces" 3) ∈ GW := gw_at tin_1 53 rfl rfl
theorem tw_1_55 : (Cond.instanceMethod yX1_init) ∈ GW := gw_at tin_1 55 rfl rfl
theorem tw_1_56 : (Cond.code yX1_init cX1_init 1 (none : Option Jvm.ClassFile.FieldType)) ∈ GW := gw_at tin_1 56 rfl rfl
theorem tw_1_57 : (Cond.methodLink "Signtext$Pieces" 3 ({ cls := "java/lang/Object", name := "<init>", desc := "()V" } : Jvm.MethodName)) ∈ GW := gw_at tin_1 57 rfl rfl
theorem tw_1_58 : (Cond.classLink "Signtext$Pieces" 9 "Signtext$Line") ∈ GW := gw_at tin_1 58 rfl rfl
theorem tw_1_60 : (Cond.fieldLink "Signtext$Pieces" 12 "Signtext$Pieces" "line" "LSigntext$Line;") ∈ GW := gw_at tin_1 60 rfl rfl
theorem tw_1_61 : (Cond.fieldLink "Signtext$Pieces" 18 "Signtext$Pieces" "ends" "[I") ∈ GW := gw_at tin_1 61 rfl rfl
theorem tw_1_62 : (Cond.fieldLink "Signtext$Pieces" 22 "Signtext$Pieces" "count" "I") ∈ GW := gw_at tin_1 62 rfl rfl
theorem tw_1_63 : (Cond.laysFinal "Signtext$Pieces" "Signtext$Pieces" "line" "LSigntext$Line;") ∈ GW := gw_at tin_1 63 rfl rfl
theorem tw_1_65 : (Cond.laysFinal "Signtext$Pieces" "Signtext$Pieces" "ends" "[I") ∈ GW := gw_at tin_1 65 rfl rfl
theorem tw_1_67 : (Cond.lays "Signtext$Pieces" "Signtext$Pieces" "count" "I") ∈ GW := gw_at tin_1 67 rfl rfl
theorem tw_1_69 : (Cond.superclass "Signtext$Pieces" "java/lang/Object") ∈ GW := gw_at tin_1 69 rfl rfl
theorem tw_1_70 : (Cond.arrayClass .int) ∈ GW := gw_at tin_1 70 rfl rfl
theorem tw_1_71 : (Cond.methodLink "Signtext" 43 yX2_wordOfKnown) ∈ GW := gw_at tin_1 71 rfl rfl
theorem tw_1_72 : (Cond.static yX2_wordOfKnown) ∈ GW := gw_at tin_1 72 rfl rfl
theorem tw_1_73 : (Cond.code yX2_wordOfKnown cX2_wordOfKnown 1 (some (.object "java/lang/String"))) ∈ GW := gw_at tin_1 73 rfl rfl
theorem tw_1_81 : (Cond.methodLink "Signtext" 47 yX0_addWord) ∈ GW := gw_at tin_1 81 rfl rfl
theorem tw_1_82 : (Cond.instanceMethod yX0_addWord) ∈ GW := gw_at tin_1 82 rfl rfl
theorem tw_1_83 : (Cond.selects "Signtext$Line" yX0_addWord yX0_addWord) ∈ GW := gw_at tin_1 83 rfl rfl
theorem tw_1_84 : (Cond.code yX0_addWord cX0_addWord 3 (none : Option Jvm.ClassFile.FieldType)) ∈ GW := gw_at tin_1 84 rfl rfl
theorem tw_1_85 : (Cond.methodLink "Signtext$Line" 35 yJ0_length_8abf5) ∈ GW := gw_at tin_1 85 rfl rfl
theorem tw_1_86 : (Cond.instanceMethod yJ0_length_8abf5) ∈ GW := gw_at tin_1 86 rfl rfl
theorem tw_1_87 : (Cond.selects "java/lang/String" yJ0_length_8abf5 yJ0_length_8abf5) ∈ GW := gw_at tin_1 87 rfl rfl
theorem tw_1_88 : (Cond.code yJ0_length_8abf5 cJ0_length_8abf5 1 (some .int)) ∈ GW := gw_at tin_1 88 rfl rfl
theorem tw_1_89 : (Cond.methodLink "java/lang/String" 335 yJ0_coder_7d493) ∈ GW := gw_at tin_1 89 rfl rfl
theorem tw_1_90 : (Cond.instanceMethod yJ0_coder_7d493) ∈ GW := gw_at tin_1 90 rfl rfl
theorem tw_1_91 : (Cond.selects "java/lang/String" yJ0_coder_7d493 yJ0_coder_7d493) ∈ GW := gw_at tin_1 91 rfl rfl
theorem tw_1_92 : (Cond.code yJ0_coder_7d493 cJ0_coder_7d493 1 (some .byte)) ∈ GW := gw_at tin_1 92 rfl rfl
theorem tw_1_93 : (Cond.fieldLink "java/lang/String" 38 "java/lang/String" "COMPACT_STRINGS" "Z") ∈ GW := gw_at tin_1 93 rfl rfl
theorem tw_1_95 : (Cond.methodLink "Signtext$Line" 40 yJ0_charAt_5068e) ∈ GW := gw_at tin_1 95 rfl rfl
theorem tw_1_96 : (Cond.instanceMethod yJ0_charAt_5068e) ∈ GW := gw_at tin_1 96 rfl rfl
theorem tw_1_97 : (Cond.selects "java/lang/String" yJ0_charAt_5068e yJ0_charAt_5068e) ∈ GW := gw_at tin_1 97 rfl rfl
theorem tw_1_98 : (Cond.code yJ0_charAt_5068e cJ0_charAt_5068e 2 (some .char)) ∈ GW := gw_at tin_1 98 rfl rfl
theorem tw_1_99 : (Cond.methodLink "java/lang/String" 492 yJ0_isLatin1_aae02) ∈ GW := gw_at tin_1 99 rfl rfl
theorem tw_1_100 : (Cond.instanceMethod yJ0_isLatin1_aae02) ∈ GW := gw_at tin_1 100 rfl rfl
theorem tw_1_101 : (Cond.selects "java/lang/String" yJ0_isLatin1_aae02 yJ0_isLatin1_aae02) ∈ GW := gw_at tin_1 101 rfl rfl
theorem tw_1_102 : (Cond.code yJ0_isLatin1_aae02 cJ0_isLatin1_aae02 1 (some .boolean)) ∈ GW := gw_at tin_1 102 rfl rfl
theorem tw_1_103 : (Cond.methodLink "java/lang/String" 495 yJ1_charAt_3b067) ∈ GW := gw_at tin_1 103 rfl rfl
theorem tw_1_104 : (Cond.static yJ1_charAt_3b067) ∈ GW := gw_at tin_1 104 rfl rfl
theorem tw_1_105 : (Cond.code yJ1_charAt_3b067 cJ1_charAt_3b067 2 (some .char)) ∈ GW := gw_at tin_1 105 rfl rfl
theorem tw_1_106 : (Cond.methodLink "java/lang/StringLatin1" 9 yJ0_checkIndex_df160) ∈ GW := gw_at tin_1 106 rfl rfl
theorem tw_1_107 : (Cond.static yJ0_checkIndex_df160) ∈ GW := gw_at tin_1 107 rfl rfl
theorem tw_1_108 : (Cond.code yJ0_checkIndex_df160 cJ0_checkIndex_df160 2 (none : Option Jvm.ClassFile.FieldType)) ∈ GW := gw_at tin_1 108 rfl rfl
theorem tw_1_109 : (Cond.fieldLink "java/lang/String" 1053 "jdk/internal/util/Preconditions" "SIOOBE_FORMATTER" "Ljava/util/function/BiFunction;") ∈ GW := gw_at tin_1 109 rfl rfl
theorem tw_1_111 : (Cond.methodLink "java/lang/String" 1059 yJ3_checkIndex_8e157) ∈ GW := gw_at tin_1 111 rfl rfl
theorem tw_1_112 : (Cond.static yJ3_checkIndex_8e157) ∈ GW := gw_at tin_1 112 rfl rfl
theorem tw_1_113 : (Cond.code yJ3_checkIndex_8e157 cJ3_checkIndex_8e157 3 (some .int)) ∈ GW := gw_at tin_1 113 rfl rfl
theorem tw_1_114 : (Cond.methodLink "java/lang/String" 498 yJ2_charAt_3b067) ∈ GW := gw_at tin_1 114 rfl rfl
theorem tw_1_115 : (Cond.static yJ2_charAt_3b067) ∈ GW := gw_at tin_1 115 rfl rfl
theorem tw_1_116 : (Cond.code yJ2_charAt_3b067 cJ2_charAt_3b067 2 (some .char)) ∈ GW := gw_at tin_1 116 rfl rfl
theorem tw_1_117 : (Cond.methodLink "java/lang/StringUTF16" 67 yJ2_checkIndex_2214a) ∈ GW := gw_at tin_1 117 rfl rfl
theorem tw_1_118 : (Cond.static yJ2_checkIndex_2214a) ∈ GW := gw_at tin_1 118 rfl rfl
theorem tw_1_119 : (Cond.code yJ2_checkIndex_2214a cJ2_checkIndex_2214a 2 (none : Option Jvm.ClassFile.FieldType)) ∈ GW := gw_at tin_1 119 rfl rfl
theorem tw_1_120 : (Cond.methodLink "java/lang/StringUTF16" 48 yJ2_length_9d52b) ∈ GW := gw_at tin_1 120 rfl rfl
theorem tw_1_121 : (Cond.static yJ2_length_9d52b) ∈ GW := gw_at tin_1 121 rfl rfl
theorem tw_1_122 : (Cond.code yJ2_length_9d52b cJ2_length_9d52b 1 (some .int)) ∈ GW := gw_at tin_1 122 rfl rfl
theorem tw_1_123 : (Cond.methodLink "java/lang/StringUTF16" 414 yJ0_checkIndex_df160) ∈ GW := gw_at tin_1 123 rfl rfl
theorem tw_1_124 : (Cond.methodLink "java/lang/StringUTF16" 71 yJ2_getChar_3b067) ∈ GW := gw_at tin_1 124 rfl rfl
theorem tw_1_125 : (Cond.static yJ2_getChar_3b067) ∈ GW := gw_at tin_1 125 rfl rfl
theorem tw_1_126 : (Cond.code yJ2_getChar_3b067 cJ2_getChar_3b067 2 (some .char)) ∈ GW := gw_at tin_1 126 rfl rfl
theorem tw_1_127 : (Cond.fieldLink "java/lang/StringUTF16" 44 "java/lang/StringUTF16" "$assertionsDisabled" "Z") ∈ GW := gw_at tin_1 127 rfl rfl
theorem tw_1_129 : (Cond.fieldLink "java/lang/StringUTF16" 59 "java/lang/StringUTF16" "HI_BYTE_SHIFT" "I") ∈ GW := gw_at tin_1 129 rfl rfl
theorem tw_1_131 : (Cond.fieldLink "java/lang/StringUTF16" 63 "java/lang/StringUTF16" "LO_BYTE_SHIFT" "I") ∈ GW := gw_at tin_1 131 rfl rfl
theorem tw_1_133 : (Cond.methodLink "Signtext$Line" 23 yX0_addCode) ∈ GW := gw_at tin_1 133 rfl rfl
theorem tw_1_134 : (Cond.instanceMethod yX0_addCode) ∈ GW := gw_at tin_1 134 rfl rfl
theorem tw_1_135 : (Cond.selects "Signtext$Line" yX0_addCode yX0_addCode) ∈ GW := gw_at tin_1 135 rfl rfl
theorem tw_1_136 : (Cond.code yX0_addCode cX0_addCode 2 (none : Option Jvm.ClassFile.FieldType)) ∈ GW := gw_at tin_1 136 rfl rfl
theorem tw_1_137 : (Cond.fieldLink "Signtext" 11 "Signtext" "texts" "[LSigntext$Line;") ∈ GW := gw_at tin_1 137 rfl rfl
theorem tw_1_138 : (Cond.fieldLink "Signtext" 15 "Signtext" "knownTexts" "[LSigntext$Line;") ∈ GW := gw_at tin_1 138 rfl rfl
theorem tw_1_139 : (Cond.fieldLink "Signtext" 19 "Signtext" "row" "LSigntext$Line;") ∈ GW := gw_at tin_1 139 rfl rfl
theorem tw_1_140 : (Cond.fieldLink "Signtext" 26 "Signtext" "pieces" "LSigntext$Pieces;") ∈ GW := gw_at tin_1 140 rfl rfl
theorem tw_1_141 : (Cond.fieldLink "Signtext" 30 "Signtext" "knocks" "I") ∈ GW := gw_at tin_1 141 rfl rfl
theorem tw_1_142 : (Cond.fieldLink "Signtext" 34 "Signtext" "made" "LSigntext$Line;") ∈ GW := gw_at tin_1 142 rfl rfl
theorem tw_1_143 : (Cond.fieldLink "Signtext" 37 "Signtext" "draft" "LSigntext$Line;") ∈ GW := gw_at tin_1 143 rfl rfl
theorem tw_1_144 : (Cond.fieldLink "Signtext" 40 "Signtext" "tried" "LSigntext$Pieces;") ∈ GW := gw_at tin_1 144 rfl rfl
theorem tw_1_145 : (Cond.laysFinal "Signtext" "Signtext" "texts" "[LSigntext$Line;") ∈ GW := gw_at tin_1 145 rfl rfl
theorem tw_1_147 : (Cond.laysFinal "Signtext" "Signtext" "knownTexts" "[LSigntext$Line;") ∈ GW := gw_at tin_1 147 rfl rfl
theorem tw_1_149 : (Cond.laysFinal "Signtext" "Signtext" "row" "LSigntext$Line;") ∈ GW := gw_at tin_1 149 rfl rfl
theorem tw_1_151 : (Cond.laysFinal "Signtext" "Signtext" "pieces" "LSigntext$Pieces;") ∈ GW := gw_at tin_1 151 rfl rfl
theorem tw_1_153 : (Cond.lays "Signtext" "Signtext" "knocks" "I") ∈ GW := gw_at tin_1 153 rfl rfl
theorem tw_1_155 : (Cond.laysFinal "Signtext" "Signtext" "made" "LSigntext$Line;") ∈ GW := gw_at tin_1 155 rfl rfl
theorem tw_1_157 : (Cond.laysFinal "Signtext" "Signtext" "draft" "LSigntext$Line;") ∈ GW := gw_at tin_1 157 rfl rfl
theorem tw_1_159 : (Cond.laysFinal "Signtext" "Signtext" "tried" "LSigntext$Pieces;") ∈ GW := gw_at tin_1 159 rfl rfl
theorem tw_1_161 : (Cond.superclass "Signtext" "java/lang/Object") ∈ GW := gw_at tin_1 161 rfl rfl
theorem tw_1_162 : (Cond.arrayClass .byte) ∈ GW := gw_at tin_1 162 rfl rfl
theorem tw_1_163 : (Cond.methodLink "SigntextLaw" 230 yX2_knock) ∈ GW := gw_at tin_1 163 rfl rfl
theorem tw_1_164 : (Cond.instanceMethod yX2_knock) ∈ GW := gw_at tin_1 164 rfl rfl
theorem tw_1_165 : (Cond.selects "Signtext" yX2_knock yX2_knock) ∈ GW := gw_at tin_1 165 rfl rfl
theorem tw_1_166 : (Cond.code yX2_knock cX2_knock 1 (some .int)) ∈ GW := gw_at tin_1 166 rfl rfl
theorem tw_1_167 : (Cond.methodLink "SigntextLaw" 287 yX2_row) ∈ GW := gw_at tin_1 167 rfl rfl
theorem tw_1_168 : (Cond.instanceMethod yX2_row) ∈ GW := gw_at tin_1 168 rfl rfl
theorem tw_1_169 : (Cond.selects "Signtext" yX2_row yX2_row) ∈ GW := gw_at tin_1 169 rfl rfl
theorem tw_1_170 : (Cond.code yX2_row cX2_row 1 (some (.object "java/lang/String"))) ∈ GW := gw_at tin_1 170 rfl rfl
theorem tw_1_171 : (Cond.methodLink "Signtext" 146 yX0_asString) ∈ GW := gw_at tin_1 171 rfl rfl
theorem tw_1_172 : (Cond.instanceMethod yX0_asString) ∈ GW := gw_at tin_1 172 rfl rfl
theorem tw_1_173 : (Cond.selects "Signtext$Line" yX0_asString yX0_asString) ∈ GW := gw_at tin_1 173 rfl rfl
theorem tw_1_174 : (Cond.code yX0_asString cX0_asString 3 (some (.object "java/lang/String"))) ∈ GW := gw_at tin_1 174 rfl rfl
theorem tw_1_175 : (Cond.classLink "Signtext$Line" 36 "java/lang/String") ∈ GW := gw_at tin_1 175 rfl rfl
theorem tw_1_176 : (Cond.instantiable "java/lang/String" 4) ∈ GW := gw_at tin_1 176 rfl rfl
theorem tw_1_177 : (Cond.methodLink "Signtext$Line" 53 yJ0_init_905df) ∈ GW := gw_at tin_1 177 rfl rfl
theorem tw_1_178 : (Cond.instanceMethod yJ0_init_905df) ∈ GW := gw_at tin_1 178 rfl rfl
theorem tw_1_179 : (Cond.code yJ0_init_905df cJ0_init_905df 2 (none : Option Jvm.ClassFile.FieldType)) ∈ GW := gw_at tin_1 179 rfl rfl
theorem tw_1_180 : (Cond.methodLink "java/lang/String" 27 yJ0_init_bb550) ∈ GW := gw_at tin_1 180 rfl rfl
theorem tw_1_181 : (Cond.instanceMethod yJ0_init_bb550) ∈ GW := gw_at tin_1 181 rfl rfl
theorem tw_1_182 : (Cond.code yJ0_init_bb550 cJ0_init_bb550 6 (none : Option Jvm.ClassFile.FieldType)) ∈ GW := gw_at tin_1 182 rfl rfl
theorem tw_1_183 : (Cond.methodLink "java/lang/String" 1 ({ cls := "java/lang/Object", name := "<init>", desc := "()V" } : Jvm.MethodName)) ∈ GW := gw_at tin_1 183 rfl rfl
theorem tw_1_185 : (Cond.methodLink "java/lang/String" 177 yJ2_compress_dfd3c) ∈ GW := gw_at tin_1 185 rfl rfl
theorem tw_1_186 : (Cond.static yJ2_compress_dfd3c) ∈ GW := gw_at tin_1 186 rfl rfl
theorem tw_1_187 : (Cond.code yJ2_compress_dfd3c cJ2_compress_dfd3c 6 (some (.array .byte))) ∈ GW := gw_at tin_1 187 rfl rfl
theorem tw_1_188 : (Cond.methodLink "java/lang/StringUTF16" 115 yJ2_compress_fe38e) ∈ GW := gw_at tin_1 188 rfl rfl
theorem tw_1_189 : (Cond.static yJ2_compress_fe38e) ∈ GW := gw_at tin_1 189 rfl rfl
theorem tw_1_190 : (Cond.code yJ2_compress_fe38e cJ2_compress_fe38e 7 (some .int)) ∈ GW := gw_at tin_1 190 rfl rfl
theorem tw_1_191 : (Cond.methodLink "java/lang/StringUTF16" 119 yJ2_toBytes_dfd3c) ∈ GW := gw_at tin_1 191 rfl rfl
theorem tw_1_192 : (Cond.static yJ2_toBytes_dfd3c) ∈ GW := gw_at tin_1 192 rfl rfl
theorem tw_1_193 : (Cond.code yJ2_toBytes_dfd3c cJ2_toBytes_dfd3c 5 (some (.array .byte))) ∈ GW := gw_at tin_1 193 rfl rfl
theorem tw_1_194 : (Cond.methodLink "java/lang/StringUTF16" 107 yJ2_newBytesFor_77867) ∈ GW := gw_at tin_1 194 rfl rfl
theorem tw_1_195 : (Cond.static yJ2_newBytesFor_77867) ∈ GW := gw_at tin_1 195 rfl rfl
theorem tw_1_196 : (Cond.code yJ2_newBytesFor_77867 cJ2_newBytesFor_77867 1 (some (.array .byte))) ∈ GW := gw_at tin_1 196 rfl rfl
theorem tw_1_197 : (Cond.methodLink "java/lang/StringUTF16" 11 yJ2_newBytesLength_0f7a4) ∈ GW := gw_at tin_1 197 rfl rfl
theorem tw_1_198 : (Cond.static yJ2_newBytesLength_0f7a4) ∈ GW := gw_at tin_1 198 rfl rfl
theorem tw_1_199 : (Cond.code yJ2_newBytesLength_0f7a4 cJ2_newBytesLength_0f7a4 1 (some .int)) ∈ GW := gw_at tin_1 199 rfl rfl
theorem tw_1_200 : (Cond.constant "java/lang/StringUTF16" 20 (1073741823 : Int32)) ∈ GW := gw_at tin_1 200 rfl rfl
theorem tw_1_201 : (Cond.methodLink "java/lang/StringUTF16" 111 yJ2_putChar_b72d1) ∈ GW := gw_at tin_1 201 rfl rfl
theorem tw_1_202 : (Cond.static yJ2_putChar_b72d1) ∈ GW := gw_at tin_1 202 rfl rfl
theorem tw_1_203 : (Cond.code yJ2_putChar_b72d1 cJ2_putChar_b72d1 3 (none : Option Jvm.ClassFile.FieldType)) ∈ GW := gw_at tin_1 203 rfl rfl
theorem tw_1_204 : (Cond.methodLink "java/lang/StringUTF16" 123 yJ2_compress_5af95) ∈ GW := gw_at tin_1 204 rfl rfl
theorem tw_1_205 : (Cond.static yJ2_compress_5af95) ∈ GW := gw_at tin_1 205 rfl rfl
theorem tw_1_206 : (Cond.code yJ2_compress_5af95 cJ2_compress_5af95 7 (some .int)) ∈ GW := gw_at tin_1 206 rfl rfl
theorem tw_1_207 : (Cond.methodLink "java/lang/StringUTF16" 173 yJ2_checkBoundsOffCount_d044e) ∈ GW := gw_at tin_1 207 rfl rfl
theorem tw_1_208 : (Cond.static yJ2_checkBoundsOffCount_d044e) ∈ GW := gw_at tin_1 208 rfl rfl
theorem tw_1_209 : (Cond.code yJ2_checkBoundsOffCount_d044e cJ2_checkBoundsOffCount_d044e 3 (none : Option Jvm.ClassFile.FieldType)) ∈ GW := gw_at tin_1 209 rfl rfl
theorem tw_1_210 : (Cond.methodLink "java/lang/StringUTF16" 419 yJ0_checkBoundsOffCount_cabcc) ∈ GW := gw_at tin_1 210 rfl rfl
theorem tw_1_211 : (Cond.static yJ0_checkBoundsOffCount_cabcc) ∈ GW := gw_at tin_1 211 rfl rfl
theorem tw_1_212 : (Cond.code yJ0_checkBoundsOffCount_cabcc cJ0_checkBoundsOffCount_cabcc 3 (some .int)) ∈ GW := gw_at tin_1 212 rfl rfl
theorem tw_1_213 : (Cond.methodLink "java/lang/String" 1065 yJ3_checkFromIndexSize_8c36e) ∈ GW := gw_at tin_1 213 rfl rfl
theorem tw_1_214 : (Cond.static yJ3_checkFromIndexSize_8c36e) ∈ GW := gw_at tin_1 214 rfl rfl
theorem tw_1_215 : (Cond.code yJ3_checkFromIndexSize_8c36e cJ3_checkFromIndexSize_8c36e 4 (some .int)) ∈ GW := gw_at tin_1 215 rfl rfl
theorem tw_1_216 : (Cond.methodLink "java/lang/String" 47 yJ2_coderFromArrayLen_85cad) ∈ GW := gw_at tin_1 216 rfl rfl
theorem tw_1_217 : (Cond.static yJ2_coderFromArrayLen_85cad) ∈ GW := gw_at tin_1 217 rfl rfl
theorem tw_1_218 : (Cond.code yJ2_coderFromArrayLen_85cad cJ2_coderFromArrayLen_85cad 2 (some .byte)) ∈ GW := gw_at tin_1 218 rfl rfl
theorem tw_1_219 : (Cond.methodLink "java/lang/String" 180 yJ2_toBytes_dfd3c) ∈ GW := gw_at tin_1 219 rfl rfl
theorem tw_1_220 : (Cond.fieldLink "java/lang/String" 9 "java/lang/String" "value" "[B") ∈ GW := gw_at tin_1 220 rfl rfl
theorem tw_1_221 : (Cond.fieldLink "java/lang/String" 15 "java/lang/String" "coder" "B") ∈ GW := gw_at tin_1 221 rfl rfl
theorem tw_1_222 : (Cond.laysFinal "java/lang/String" "java/lang/String" "value" "[B") ∈ GW := gw_at tin_1 222 rfl rfl
theorem tw_1_224 : (Cond.laysFinal "java/lang/String" "java/lang/String" "coder" "B") ∈ GW := gw_at tin_1 224 rfl rfl
theorem tw_1_226 : (Cond.lays "java/lang/String" "java/lang/String" "hash" "I") ∈ GW := gw_at tin_1 226 rfl rfl
theorem tw_1_228 : (Cond.lays "java/lang/String" "java/lang/String" "hashIsZero" "Z") ∈ GW := gw_at tin_1 228 rfl rfl
theorem tw_1_230 : (Cond.superclass "java/lang/String" "java/lang/Object") ∈ GW := gw_at tin_1 230 rfl rfl
theorem tw_1_231 : (Cond.methodLink "SigntextLaw" 304 yX2_isSound) ∈ GW := gw_at tin_1 231 rfl rfl
theorem tw_1_232 : (Cond.instanceMethod yX2_isSound) ∈ GW := gw_at tin_1 232 rfl rfl
theorem tw_1_233 : (Cond.selects "Signtext" yX2_isSound yX2_isSound) ∈ GW := gw_at tin_1 233 rfl rfl
theorem tw_1_234 : (Cond.code yX2_isSound cX2_isSound 3 (some .boolean)) ∈ GW := gw_at tin_1 234 rfl rfl
theorem tw_1_235 : (Cond.methodLink "Signtext" 195 yX2_isSoundAlone) ∈ GW := gw_at tin_1 235 rfl rfl
theorem tw_1_237 : (Cond.instanceMethod yX2_isSoundAlone) ∈ GW := gw_at tin_1 237 rfl rfl
theorem tw_1_238 : (Cond.code yX2_isSoundAlone cX2_isSoundAlone 2 (some .boolean)) ∈ GW := gw_at tin_1 238 rfl rfl
theorem tw_1_239 : (Cond.methodLink "Signtext" 264 yX2_isSameTakenAgain) ∈ GW := gw_at tin_1 239 rfl rfl
theorem tw_2_1 : (Cond.instanceMethod yX2_isSameTakenAgain) ∈ GW := gw_at tin_2 1 rfl rfl
theorem tw_2_2 : (Cond.code yX2_isSameTakenAgain cX2_isSameTakenAgain 2 (some .boolean)) ∈ GW := gw_at tin_2 2 rfl rfl
theorem tw_2_3 : (Cond.methodLink "Signtext" 91 yX0_become) ∈ GW := gw_at tin_2 3 rfl rfl
theorem tw_2_4 : (Cond.instanceMethod yX0_become) ∈ GW := gw_at tin_2 4 rfl rfl
theorem tw_2_5 : (Cond.selects "Signtext$Line" yX0_become yX0_become) ∈ GW := gw_at tin_2 5 rfl rfl
theorem tw_2_6 : (Cond.code yX0_become cX0_become 3 (none : Option Jvm.ClassFile.FieldType)) ∈ GW := gw_at tin_2 6 rfl rfl
theorem tw_2_7 : (Cond.methodLink "Signtext" 179 yX0_isSameAs) ∈ GW := gw_at tin_2 7 rfl rfl
theorem tw_2_8 : (Cond.instanceMethod yX0_isSameAs) ∈ GW := gw_at tin_2 8 rfl rfl
theorem tw_2_9 : (Cond.selects "Signtext$Line" yX0_isSameAs yX0_isSameAs) ∈ GW := gw_at tin_2 9 rfl rfl
theorem tw_2_10 : (Cond.code yX0_isSameAs cX0_isSameAs 3 (some .boolean)) ∈ GW := gw_at tin_2 10 rfl rfl
theorem tw_2_11 : (Cond.methodLink "Signtext$Line" 27 yX0_size) ∈ GW := gw_at tin_2 11 rfl rfl
theorem tw_2_12 : (Cond.instanceMethod yX0_size) ∈ GW := gw_at tin_2 12 rfl rfl
theorem tw_2_13 : (Cond.selects "Signtext$Line" yX0_size yX0_size) ∈ GW := gw_at tin_2 13 rfl rfl
theorem tw_2_14 : (Cond.code yX0_size cX0_size 1 (some .int)) ∈ GW := gw_at tin_2 14 rfl rfl
theorem tw_2_15 : (Cond.methodLink "Signtext$Line" 68 yX0_standsAt) ∈ GW := gw_at tin_2 15 rfl rfl
theorem tw_2_16 : (Cond.instanceMethod yX0_standsAt) ∈ GW := gw_at tin_2 16 rfl rfl
theorem tw_2_17 : (Cond.selects "Signtext$Line" yX0_standsAt yX0_standsAt) ∈ GW := gw_at tin_2 17 rfl rfl
theorem tw_2_18 : (Cond.code yX0_standsAt cX0_standsAt 5 (some .boolean)) ∈ GW := gw_at tin_2 18 rfl rfl
theorem tw_2_19 : (Cond.methodLink "Signtext$Line" 19 yX0_codeAt) ∈ GW := gw_at tin_2 19 rfl rfl
theorem tw_2_20 : (Cond.instanceMethod yX0_codeAt) ∈ GW := gw_at tin_2 20 rfl rfl
theorem tw_2_21 : (Cond.selects "Signtext$Line" yX0_codeAt yX0_codeAt) ∈ GW := gw_at tin_2 21 rfl rfl
theorem tw_2_22 : (Cond.code yX0_codeAt cX0_codeAt 2 (some .int)) ∈ GW := gw_at tin_2 22 rfl rfl
theorem tw_2_23 : (Cond.methodLink "Signtext$Line" 64 yX0_seen) ∈ GW := gw_at tin_2 23 rfl rfl
theorem tw_2_24 : (Cond.static yX0_seen) ∈ GW := gw_at tin_2 24 rfl rfl
theorem tw_2_25 : (Cond.code yX0_seen cX0_seen 2 (some .int)) ∈ GW := gw_at tin_2 25 rfl rfl
theorem tw_2_26 : (Cond.methodLink "Signtext" 267 yX2_isSameInTwoParts) ∈ GW := gw_at tin_2 26 rfl rfl
theorem tw_2_28 : (Cond.instanceMethod yX2_isSameInTwoParts) ∈ GW := gw_at tin_2 28 rfl rfl
theorem tw_2_29 : (Cond.code yX2_isSameInTwoParts cX2_isSameInTwoParts 3 (some .boolean)) ∈ GW := gw_at tin_2 29 rfl rfl
theorem tw_2_30 : (Cond.methodLink "Signtext" 66 yX0_size) ∈ GW := gw_at tin_2 30 rfl rfl
theorem tw_2_31 : (Cond.methodLink "Signtext" 55 yX0_empty) ∈ GW := gw_at tin_2 31 rfl rfl
theorem tw_2_32 : (Cond.instanceMethod yX0_empty) ∈ GW := gw_at tin_2 32 rfl rfl
theorem tw_2_33 : (Cond.selects "Signtext$Line" yX0_empty yX0_empty) ∈ GW := gw_at tin_2 33 rfl rfl
theorem tw_2_34 : (Cond.code yX0_empty cX0_empty 1 (none : Option Jvm.ClassFile.FieldType)) ∈ GW := gw_at tin_2 34 rfl rfl
theorem tw_2_35 : (Cond.methodLink "Signtext" 235 yX0_addPart) ∈ GW := gw_at tin_2 35 rfl rfl
theorem tw_2_36 : (Cond.instanceMethod yX0_addPart) ∈ GW := gw_at tin_2 36 rfl rfl
theorem tw_2_37 : (Cond.selects "Signtext$Line" yX0_addPart yX0_addPart) ∈ GW := gw_at tin_2 37 rfl rfl
theorem tw_2_38 : (Cond.code yX0_addPart cX0_addPart 5 (none : Option Jvm.ClassFile.FieldType)) ∈ GW := gw_at tin_2 38 rfl rfl
theorem tw_2_39 : (Cond.methodLink "Signtext" 270 yX2_isSameTrimmedAgain) ∈ GW := gw_at tin_2 39 rfl rfl
theorem tw_2_41 : (Cond.instanceMethod yX2_isSameTrimmedAgain) ∈ GW := gw_at tin_2 41 rfl rfl
theorem tw_2_42 : (Cond.code yX2_isSameTrimmedAgain cX2_isSameTrimmedAgain 3 (some .boolean)) ∈ GW := gw_at tin_2 42 rfl rfl
theorem tw_2_43 : (Cond.methodLink "Signtext" 94 yX0_trimmedBegin) ∈ GW := gw_at tin_2 43 rfl rfl
theorem tw_2_44 : (Cond.instanceMethod yX0_trimmedBegin) ∈ GW := gw_at tin_2 44 rfl rfl
theorem tw_2_45 : (Cond.selects "Signtext$Line" yX0_trimmedBegin yX0_trimmedBegin) ∈ GW := gw_at tin_2 45 rfl rfl
theorem tw_2_46 : (Cond.code yX0_trimmedBegin cX0_trimmedBegin 3 (some .int)) ∈ GW := gw_at tin_2 46 rfl rfl
theorem tw_2_47 : (Cond.methodLink "Signtext$Line" 60 yX0_goes) ∈ GW := gw_at tin_2 47 rfl rfl
theorem tw_2_48 : (Cond.static yX0_goes) ∈ GW := gw_at tin_2 48 rfl rfl
theorem tw_2_49 : (Cond.code yX0_goes cX0_goes 2 (some .boolean)) ∈ GW := gw_at tin_2 49 rfl rfl
theorem tw_2_50 : (Cond.methodLink "Signtext" 98 yX0_trimmedEnd) ∈ GW := gw_at tin_2 50 rfl rfl
theorem tw_2_51 : (Cond.instanceMethod yX0_trimmedEnd) ∈ GW := gw_at tin_2 51 rfl rfl
theorem tw_2_52 : (Cond.selects "Signtext$Line" yX0_trimmedEnd yX0_trimmedEnd) ∈ GW := gw_at tin_2 52 rfl rfl
theorem tw_2_53 : (Cond.code yX0_trimmedEnd cX0_trimmedEnd 4 (some .int)) ∈ GW := gw_at tin_2 53 rfl rfl
theorem tw_2_54 : (Cond.methodLink "Signtext$Line" 56 yX0_trimmedBegin) ∈ GW := gw_at tin_2 54 rfl rfl
theorem tw_2_55 : (Cond.methodLink "Signtext" 70 yX2_partInto) ∈ GW := gw_at tin_2 55 rfl rfl
theorem tw_2_57 : (Cond.instanceMethod yX2_partInto) ∈ GW := gw_at tin_2 57 rfl rfl
theorem tw_2_58 : (Cond.code yX2_partInto cX2_partInto 5 (some .int)) ∈ GW := gw_at tin_2 58 rfl rfl
theorem tw_2_59 : (Cond.methodLink "Signtext" 273 yX2_isSameOfPieces) ∈ GW := gw_at tin_2 59 rfl rfl
theorem tw_2_61 : (Cond.instanceMethod yX2_isSameOfPieces) ∈ GW := gw_at tin_2 61 rfl rfl
theorem tw_2_62 : (Cond.code yX2_isSameOfPieces cX2_isSameOfPieces 3 (some .boolean)) ∈ GW := gw_at tin_2 62 rfl rfl
theorem tw_2_63 : (Cond.methodLink "Signtext" 135 yX1_cutOf) ∈ GW := gw_at tin_2 63 rfl rfl
theorem tw_2_64 : (Cond.instanceMethod yX1_cutOf) ∈ GW := gw_at tin_2 64 rfl rfl
theorem tw_2_65 : (Cond.selects "Signtext$Pieces" yX1_cutOf yX1_cutOf) ∈ GW := gw_at tin_2 65 rfl rfl
theorem tw_2_66 : (Cond.code yX1_cutOf cX1_cutOf 3 (none : Option Jvm.ClassFile.FieldType)) ∈ GW := gw_at tin_2 66 rfl rfl
theorem tw_2_67 : (Cond.methodLink "Signtext$Pieces" 30 yX0_become) ∈ GW := gw_at tin_2 67 rfl rfl
theorem tw_2_68 : (Cond.methodLink "Signtext$Pieces" 34 yX0_size) ∈ GW := gw_at tin_2 68 rfl rfl
theorem tw_2_69 : (Cond.methodLink "Signtext$Pieces" 38 yX0_codeAt) ∈ GW := gw_at tin_2 69 rfl rfl
theorem tw_2_70 : (Cond.methodLink "Signtext$Pieces" 41 yX1_addEnd) ∈ GW := gw_at tin_2 70 rfl rfl
theorem tw_2_72 : (Cond.instanceMethod yX1_addEnd) ∈ GW := gw_at tin_2 72 rfl rfl
theorem tw_2_73 : (Cond.code yX1_addEnd cX1_addEnd 2 (none : Option Jvm.ClassFile.FieldType)) ∈ GW := gw_at tin_2 73 rfl rfl
theorem tw_2_74 : (Cond.methodLink "Signtext$Pieces" 45 yX1_beginOf) ∈ GW := gw_at tin_2 74 rfl rfl
theorem tw_2_75 : (Cond.instanceMethod yX1_beginOf) ∈ GW := gw_at tin_2 75 rfl rfl
theorem tw_2_76 : (Cond.selects "Signtext$Pieces" yX1_beginOf yX1_beginOf) ∈ GW := gw_at tin_2 76 rfl rfl
theorem tw_2_77 : (Cond.code yX1_beginOf cX1_beginOf 2 (some .int)) ∈ GW := gw_at tin_2 77 rfl rfl
theorem tw_2_78 : (Cond.methodLink "Signtext$Pieces" 26 yX1_endOf) ∈ GW := gw_at tin_2 78 rfl rfl
theorem tw_2_79 : (Cond.instanceMethod yX1_endOf) ∈ GW := gw_at tin_2 79 rfl rfl
theorem tw_2_80 : (Cond.selects "Signtext$Pieces" yX1_endOf yX1_endOf) ∈ GW := gw_at tin_2 80 rfl rfl
theorem tw_2_81 : (Cond.code yX1_endOf cX1_endOf 2 (some .int)) ∈ GW := gw_at tin_2 81 rfl rfl
theorem tw_2_82 : (Cond.methodLink "Signtext" 138 yX1_size) ∈ GW := gw_at tin_2 82 rfl rfl
theorem tw_2_83 : (Cond.instanceMethod yX1_size) ∈ GW := gw_at tin_2 83 rfl rfl
theorem tw_2_84 : (Cond.selects "Signtext$Pieces" yX1_size yX1_size) ∈ GW := gw_at tin_2 84 rfl rfl
theorem tw_2_85 : (Cond.code yX1_size cX1_size 1 (some .int)) ∈ GW := gw_at tin_2 85 rfl rfl
theorem tw_2_86 : (Cond.methodLink "Signtext" 119 yX0_addCode) ∈ GW := gw_at tin_2 86 rfl rfl
theorem tw_2_87 : (Cond.methodLink "Signtext" 239 yX1_line) ∈ GW := gw_at tin_2 87 rfl rfl
theorem tw_2_88 : (Cond.instanceMethod yX1_line) ∈ GW := gw_at tin_2 88 rfl rfl
theorem tw_2_89 : (Cond.selects "Signtext$Pieces" yX1_line yX1_line) ∈ GW := gw_at tin_2 89 rfl rfl
theorem tw_2_90 : (Cond.code yX1_line cX1_line 1 (some (.object "Signtext$Line"))) ∈ GW := gw_at tin_2 90 rfl rfl
theorem tw_2_91 : (Cond.methodLink "Signtext" 222 yX1_beginOf) ∈ GW := gw_at tin_2 91 rfl rfl
theorem tw_2_92 : (Cond.methodLink "Signtext" 219 yX1_endOf) ∈ GW := gw_at tin_2 92 rfl rfl
theorem tw_2_93 : (Cond.methodLink "Signtext" 128 yX0_codeAt) ∈ GW := gw_at tin_2 93 rfl rfl
theorem tw_2_94 : (Cond.methodLink "Signtext" 164 yX0_standsAt) ∈ GW := gw_at tin_2 94 rfl rfl
theorem tw_2_95 : (Cond.methodLink "Signtext" 198 yX2_isSoundPair) ∈ GW := gw_at tin_2 95 rfl rfl
theorem tw_2_96 : (Cond.static yX2_isSoundPair) ∈ GW := gw_at tin_2 96 rfl rfl
theorem tw_2_97 : (Cond.code yX2_isSoundPair cX2_isSoundPair 6 (some .boolean)) ∈ GW := gw_at tin_2 97 rfl rfl
theorem tw_2_98 : (Cond.methodLink "Signtext" 183 yX0_orderTo) ∈ GW := gw_at tin_2 98 rfl rfl
theorem tw_2_99 : (Cond.instanceMethod yX0_orderTo) ∈ GW := gw_at tin_2 99 rfl rfl
theorem tw_2_100 : (Cond.selects "Signtext$Line" yX0_orderTo yX0_orderTo) ∈ GW := gw_at tin_2 100 rfl rfl
theorem tw_2_101 : (Cond.code yX0_orderTo cX0_orderTo 5 (some .int)) ∈ GW := gw_at tin_2 101 rfl rfl
theorem tw_2_102 : (Cond.methodLink "Signtext" 168 yX0_firstPlaceOf) ∈ GW := gw_at tin_2 102 rfl rfl
theorem tw_2_103 : (Cond.instanceMethod yX0_firstPlaceOf) ∈ GW := gw_at tin_2 103 rfl rfl
theorem tw_2_104 : (Cond.selects "Signtext$Line" yX0_firstPlaceOf yX0_firstPlaceOf) ∈ GW := gw_at tin_2 104 rfl rfl
theorem tw_2_105 : (Cond.code yX0_firstPlaceOf cX0_firstPlaceOf 3 (some .int)) ∈ GW := gw_at tin_2 105 rfl rfl
theorem tw_2_106 : (Cond.methodLink "Signtext" 172 yX0_lastPlaceOf) ∈ GW := gw_at tin_2 106 rfl rfl
theorem tw_2_107 : (Cond.instanceMethod yX0_lastPlaceOf) ∈ GW := gw_at tin_2 107 rfl rfl
theorem tw_2_108 : (Cond.selects "Signtext$Line" yX0_lastPlaceOf yX0_lastPlaceOf) ∈ GW := gw_at tin_2 108 rfl rfl
theorem tw_2_109 : (Cond.code yX0_lastPlaceOf cX0_lastPlaceOf 3 (some .int)) ∈ GW := gw_at tin_2 109 rfl rfl
theorem tw_2_110 : (Cond.methodLink "Signtext" 154 yX0_hashOfSigns) ∈ GW := gw_at tin_2 110 rfl rfl
theorem tw_2_111 : (Cond.instanceMethod yX0_hashOfSigns) ∈ GW := gw_at tin_2 111 rfl rfl
theorem tw_2_112 : (Cond.selects "Signtext$Line" yX0_hashOfSigns yX0_hashOfSigns) ∈ GW := gw_at tin_2 112 rfl rfl
theorem tw_2_113 : (Cond.code yX0_hashOfSigns cX0_hashOfSigns 3 (some .int)) ∈ GW := gw_at tin_2 113 rfl rfl
theorem tw_2_114 : (Cond.methodLink "Signtext" 175 yX0_holds) ∈ GW := gw_at tin_2 114 rfl rfl
theorem tw_2_115 : (Cond.instanceMethod yX0_holds) ∈ GW := gw_at tin_2 115 rfl rfl
theorem tw_2_116 : (Cond.selects "Signtext$Line" yX0_holds yX0_holds) ∈ GW := gw_at tin_2 116 rfl rfl
theorem tw_2_117 : (Cond.code yX0_holds cX0_holds 2 (some .boolean)) ∈ GW := gw_at tin_2 117 rfl rfl
theorem tw_2_118 : (Cond.methodLink "Signtext$Line" 72 yX0_firstPlaceOf) ∈ GW := gw_at tin_2 118 rfl rfl
theorem tw_2_119 : (Cond.methodLink "SigntextLaw" 309 yX2_digest) ∈ GW := gw_at tin_2 119 rfl rfl
theorem tw_2_120 : (Cond.instanceMethod yX2_digest) ∈ GW := gw_at tin_2 120 rfl rfl
theorem tw_2_121 : (Cond.selects "Signtext" yX2_digest yX2_digest) ∈ GW := gw_at tin_2 121 rfl rfl
theorem tw_2_122 : (Cond.code yX2_digest cX2_digest 5 (some .long)) ∈ GW := gw_at tin_2 122 rfl rfl
theorem tw_2_123 : (Cond.constantLong "Signtext" 202 (6173 : Int64)) ∈ GW := gw_at tin_2 123 rfl rfl
theorem tw_2_124 : (Cond.methodLink "Signtext" 204 yX2_house) ∈ GW := gw_at tin_2 124 rfl rfl
theorem tw_2_125 : (Cond.instanceMethod yX2_house) ∈ GW := gw_at tin_2 125 rfl rfl
theorem tw_2_126 : (Cond.selects "Signtext" yX2_house yX2_house) ∈ GW := gw_at tin_2 126 rfl rfl
theorem tw_2_127 : (Cond.code yX2_house cX2_house 2 (some .int)) ∈ GW := gw_at tin_2 127 rfl rfl
theorem tw_2_128 : (Cond.methodLink "Signtext" 189 yX2_signsOfAll) ∈ GW := gw_at tin_2 128 rfl rfl
theorem tw_2_130 : (Cond.instanceMethod yX2_signsOfAll) ∈ GW := gw_at tin_2 130 rfl rfl
theorem tw_2_131 : (Cond.code yX2_signsOfAll cX2_signsOfAll 3 (some .int)) ∈ GW := gw_at tin_2 131 rfl rfl
theorem tw_2_132 : (Cond.methodLink "Signtext" 192 yX2_emptyOnes) ∈ GW := gw_at tin_2 132 rfl rfl
theorem tw_2_134 : (Cond.instanceMethod yX2_emptyOnes) ∈ GW := gw_at tin_2 134 rfl rfl
theorem tw_2_135 : (Cond.code yX2_emptyOnes cX2_emptyOnes 3 (some .int)) ∈ GW := gw_at tin_2 135 rfl rfl
theorem tw_2_136 : (Cond.classLink "Signtext" 81 "java/lang/IllegalArgumentException") ∈ GW := gw_at tin_2 136 rfl rfl
theorem tw_2_137 : (Cond.instantiable "java/lang/IllegalArgumentException" 6) ∈ GW := gw_at tin_2 137 rfl rfl
theorem tw_2_145 : (Cond.selects "java/lang/IllegalArgumentException" ({ cls := "java/lang/Throwable", name := "fillInStackTrace", desc := "(I)Ljava/lang/Throwable;" } : Jvm.MethodName) ({ cls := "java/lang/Throwable", name := "fillInStackTrace", desc := "(I)Ljava/lang/Throwable;" } : Jvm.MethodName)) ∈ GW := gw_at tin_2 145 rfl rfl
theorem tw_2_146 : (Cond.selects "java/lang/IllegalArgumentException" ({ cls := "java/lang/Throwable", name := "fillInStackTrace", desc := "()Ljava/lang/Throwable;" } : Jvm.MethodName) ({ cls := "java/lang/Throwable", name := "fillInStackTrace", desc := "()Ljava/lang/Throwable;" } : Jvm.MethodName)) ∈ GW := gw_at tin_2 146 rfl rfl
theorem tw_2_147 : (Cond.lays "java/lang/IllegalArgumentException" "java/lang/Throwable" "cause" "Ljava/lang/Throwable;") ∈ GW := gw_at tin_2 147 rfl rfl
theorem tw_2_148 : (Cond.lays "java/lang/Throwable" "java/lang/Throwable" "cause" "Ljava/lang/Throwable;") ∈ GW := gw_at tin_2 148 rfl rfl
theorem tw_2_149 : (Cond.lays "java/lang/IllegalArgumentException" "java/lang/Throwable" "stackTrace" "[Ljava/lang/StackTraceElement;") ∈ GW := gw_at tin_2 149 rfl rfl
theorem tw_2_150 : (Cond.lays "java/lang/Throwable" "java/lang/Throwable" "stackTrace" "[Ljava/lang/StackTraceElement;") ∈ GW := gw_at tin_2 150 rfl rfl
theorem tw_2_151 : (Cond.lays "java/lang/IllegalArgumentException" "java/lang/Throwable" "suppressedExceptions" "Ljava/util/List;") ∈ GW := gw_at tin_2 151 rfl rfl
theorem tw_2_152 : (Cond.lays "java/lang/Throwable" "java/lang/Throwable" "suppressedExceptions" "Ljava/util/List;") ∈ GW := gw_at tin_2 152 rfl rfl
theorem tw_2_153 : (Cond.lays "java/lang/IllegalArgumentException" "java/lang/Throwable" "detailMessage" "Ljava/lang/String;") ∈ GW := gw_at tin_2 153 rfl rfl
theorem tw_2_154 : (Cond.lays "java/lang/Throwable" "java/lang/Throwable" "detailMessage" "Ljava/lang/String;") ∈ GW := gw_at tin_2 154 rfl rfl
theorem tw_2_155 : (Cond.lays "java/lang/IllegalArgumentException" "java/lang/Throwable" "backtrace" "Ljava/lang/Object;") ∈ GW := gw_at tin_2 155 rfl rfl
theorem tw_2_156 : (Cond.lays "java/lang/Throwable" "java/lang/Throwable" "backtrace" "Ljava/lang/Object;") ∈ GW := gw_at tin_2 156 rfl rfl
theorem tw_2_157 : (Cond.fieldLink "java/lang/Throwable" 198 "java/lang/Throwable" "backtrace" "Ljava/lang/Object;") ∈ GW := gw_at tin_2 157 rfl rfl
theorem tw_2_158 : (Cond.superclass "java/lang/Throwable" "java/lang/Object") ∈ GW := gw_at tin_2 158 rfl rfl
theorem tw_2_159 : (Cond.instanceMethod ({ cls := "java/lang/Throwable", name := "<init>", desc := "()V" } : Jvm.MethodName)) ∈ GW := gw_at tin_2 159 rfl rfl
theorem tw_2_160 : (Cond.code ({ cls := "java/lang/Throwable", name := "<init>", desc := "()V" } : Jvm.MethodName) prog_27_method_1_code 1 (none : Option Jvm.ClassFile.FieldType)) ∈ GW := gw_at tin_2 160 rfl rfl
theorem tw_2_161 : (Cond.methodLink "java/lang/Throwable" 1 ({ cls := "java/lang/Object", name := "<init>", desc := "()V" } : Jvm.MethodName)) ∈ GW := gw_at tin_2 161 rfl rfl
theorem tw_2_162 : (Cond.fieldLink "java/lang/Throwable" 13 "java/lang/Throwable" "UNASSIGNED_STACK" "[Ljava/lang/StackTraceElement;") ∈ GW := gw_at tin_2 162 rfl rfl
theorem tw_2_164 : (Cond.fieldLink "java/lang/Throwable" 20 "java/lang/Throwable" "SUPPRESSED_SENTINEL" "Ljava/util/List;") ∈ GW := gw_at tin_2 164 rfl rfl
theorem tw_2_166 : (Cond.methodLink "java/lang/Throwable" 27 ({ cls := "java/lang/Throwable", name := "fillInStackTrace", desc := "()Ljava/lang/Throwable;" } : Jvm.MethodName)) ∈ GW := gw_at tin_2 166 rfl rfl
theorem tw_2_167 : (Cond.instanceMethod ({ cls := "java/lang/Throwable", name := "fillInStackTrace", desc := "()Ljava/lang/Throwable;" } : Jvm.MethodName)) ∈ GW := gw_at tin_2 167 rfl rfl
theorem tw_2_168 : (Cond.sameMethod "java/lang/Throwable" "java/lang/Throwable" "fillInStackTrace" "()Ljava/lang/Throwable;") ∈ GW := gw_at tin_2 168 rfl rfl
theorem tw_2_169 : (Cond.selects "java/lang/IllegalStateException" ({ cls := "java/lang/Throwable", name := "fillInStackTrace", desc := "()Ljava/lang/Throwable;" } : Jvm.MethodName) ({ cls := "java/lang/Throwable", name := "fillInStackTrace", desc := "()Ljava/lang/Throwable;" } : Jvm.MethodName)) ∈ GW := gw_at tin_2 169 rfl rfl
theorem tw_2_170 : (Cond.selects "java/lang/IndexOutOfBoundsException" ({ cls := "java/lang/Throwable", name := "fillInStackTrace", desc := "()Ljava/lang/Throwable;" } : Jvm.MethodName) ({ cls := "java/lang/Throwable", name := "fillInStackTrace", desc := "()Ljava/lang/Throwable;" } : Jvm.MethodName)) ∈ GW := gw_at tin_2 170 rfl rfl
theorem tw_2_172 : (Cond.methodLink "java/lang/Throwable" 202 ({ cls := "java/lang/Throwable", name := "fillInStackTrace", desc := "(I)Ljava/lang/Throwable;" } : Jvm.MethodName)) ∈ GW := gw_at tin_2 172 rfl rfl
theorem tw_2_174 : (Cond.instanceMethod ({ cls := "java/lang/Throwable", name := "fillInStackTrace", desc := "(I)Ljava/lang/Throwable;" } : Jvm.MethodName)) ∈ GW := gw_at tin_2 174 rfl rfl
theorem tw_2_175 : (Cond.instantiable "java/lang/Throwable" 6) ∈ GW := gw_at tin_2 175 rfl rfl
theorem tw_2_177 : (Cond.methodLink "Signtext" 83 ({ cls := "java/lang/IllegalArgumentException", name := "<init>", desc := "()V" } : Jvm.MethodName)) ∈ GW := gw_at tin_2 177 rfl rfl
theorem tw_2_178 : (Cond.instanceMethod ({ cls := "java/lang/IllegalArgumentException", name := "<init>", desc := "()V" } : Jvm.MethodName)) ∈ GW := gw_at tin_2 178 rfl rfl
theorem tw_2_179 : (Cond.code ({ cls := "java/lang/IllegalArgumentException", name := "<init>", desc := "()V" } : Jvm.MethodName) prog_14_method_1_code 1 (none : Option Jvm.ClassFile.FieldType)) ∈ GW := gw_at tin_2 179 rfl rfl
theorem tw_2_180 : (Cond.methodLink "java/lang/IllegalArgumentException" 1 ({ cls := "java/lang/RuntimeException", name := "<init>", desc := "()V" } : Jvm.MethodName)) ∈ GW := gw_at tin_2 180 rfl rfl
theorem tw_2_181 : (Cond.instanceMethod ({ cls := "java/lang/RuntimeException", name := "<init>", desc := "()V" } : Jvm.MethodName)) ∈ GW := gw_at tin_2 181 rfl rfl
theorem tw_2_182 : (Cond.code ({ cls := "java/lang/RuntimeException", name := "<init>", desc := "()V" } : Jvm.MethodName) prog_21_method_1_code 1 (none : Option Jvm.ClassFile.FieldType)) ∈ GW := gw_at tin_2 182 rfl rfl
theorem tw_2_183 : (Cond.methodLink "java/lang/RuntimeException" 1 ({ cls := "java/lang/Exception", name := "<init>", desc := "()V" } : Jvm.MethodName)) ∈ GW := gw_at tin_2 183 rfl rfl
theorem tw_2_184 : (Cond.instanceMethod ({ cls := "java/lang/Exception", name := "<init>", desc := "()V" } : Jvm.MethodName)) ∈ GW := gw_at tin_2 184 rfl rfl
theorem tw_2_185 : (Cond.code ({ cls := "java/lang/Exception", name := "<init>", desc := "()V" } : Jvm.MethodName) prog_13_method_1_code 1 (none : Option Jvm.ClassFile.FieldType)) ∈ GW := gw_at tin_2 185 rfl rfl
theorem tw_2_186 : (Cond.methodLink "java/lang/Exception" 1 ({ cls := "java/lang/Throwable", name := "<init>", desc := "()V" } : Jvm.MethodName)) ∈ GW := gw_at tin_2 186 rfl rfl
theorem tw_2_187 : (Cond.fieldLink "java/lang/Throwable" 198 "java/lang/Throwable" "backtrace" "Ljava/lang/Object;") ∈ GW := gw_at tin_2 187 rfl rfl
theorem tw_2_188 : (Cond.fieldLink "java/lang/Throwable" 31 "java/lang/Throwable" "detailMessage" "Ljava/lang/String;") ∈ GW := gw_at tin_2 188 rfl rfl
theorem tw_2_189 : (Cond.fieldLink "java/lang/Throwable" 7 "java/lang/Throwable" "cause" "Ljava/lang/Throwable;") ∈ GW := gw_at tin_2 189 rfl rfl
theorem tw_2_190 : (Cond.fieldLink "java/lang/Throwable" 17 "java/lang/Throwable" "stackTrace" "[Ljava/lang/StackTraceElement;") ∈ GW := gw_at tin_2 190 rfl rfl
theorem tw_2_191 : (Cond.fieldLink "java/lang/Throwable" 24 "java/lang/Throwable" "suppressedExceptions" "Ljava/util/List;") ∈ GW := gw_at tin_2 191 rfl rfl
theorem tw_2_196 : (Cond.lays "java/lang/IllegalArgumentException" "java/lang/Throwable" "depth" "I") ∈ GW := gw_at tin_2 196 rfl rfl
theorem tw_2_199 : (Cond.superclass "java/lang/IllegalArgumentException" "java/lang/RuntimeException") ∈ GW := gw_at tin_2 199 rfl rfl
theorem tw_2_200 : (Cond.methodLink "Signtext" 207 yX2_summed) ∈ GW := gw_at tin_2 200 rfl rfl
theorem tw_2_201 : (Cond.static yX2_summed) ∈ GW := gw_at tin_2 201 rfl rfl
theorem tw_2_202 : (Cond.code yX2_summed cX2_summed 4 (some .long)) ∈ GW := gw_at tin_2 202 rfl rfl
theorem tw_2_203 : (Cond.constantLong "Signtext" 257 (31 : Int64)) ∈ GW := gw_at tin_2 203 rfl rfl
theorem tw_2_204 : (Cond.methodLink "Signtext" 211 yX2_summedText) ∈ GW := gw_at tin_2 204 rfl rfl
theorem tw_2_205 : (Cond.static yX2_summedText) ∈ GW := gw_at tin_2 205 rfl rfl
theorem tw_2_206 : (Cond.code yX2_summedText cX2_summedText 5 (some .long)) ∈ GW := gw_at tin_2 206 rfl rfl
theorem tw_2_207 : (Cond.methodLink "Signtext" 150 yX0_isAllWhite) ∈ GW := gw_at tin_2 207 rfl rfl
theorem tw_2_208 : (Cond.instanceMethod yX0_isAllWhite) ∈ GW := gw_at tin_2 208 rfl rfl
theorem tw_2_209 : (Cond.selects "Signtext$Line" yX0_isAllWhite yX0_isAllWhite) ∈ GW := gw_at tin_2 209 rfl rfl
theorem tw_2_210 : (Cond.code yX0_isAllWhite cX0_isAllWhite 1 (some .boolean)) ∈ GW := gw_at tin_2 210 rfl rfl
theorem tw_2_211 : (Cond.methodLink "Signtext" 215 yX2_summedPair) ∈ GW := gw_at tin_2 211 rfl rfl
theorem tw_2_212 : (Cond.static yX2_summedPair) ∈ GW := gw_at tin_2 212 rfl rfl
theorem tw_2_213 : (Cond.code yX2_summedPair cX2_summedPair 6 (some .long)) ∈ GW := gw_at tin_2 213 rfl rfl
theorem tw_2_214 : (Cond.methodLink "Signtext" 186 yX2_directionOf) ∈ GW := gw_at tin_2 214 rfl rfl
theorem tw_2_215 : (Cond.static yX2_directionOf) ∈ GW := gw_at tin_2 215 rfl rfl
theorem tw_2_216 : (Cond.code yX2_directionOf cX2_directionOf 1 (some .int)) ∈ GW := gw_at tin_2 216 rfl rfl
theorem tw_2_217 : (Cond.methodLink "Signtext" 259 yJ6_compare_7cf53) ∈ GW := gw_at tin_2 217 rfl rfl
theorem tw_2_218 : (Cond.static yJ6_compare_7cf53) ∈ GW := gw_at tin_2 218 rfl rfl
theorem tw_2_219 : (Cond.code yJ6_compare_7cf53 cJ6_compare_7cf53 2 (some .int)) ∈ GW := gw_at tin_2 219 rfl rfl
theorem tw_2_220 : (Cond.methodLink "Signtext" 225 yX2_isSound) ∈ GW := gw_at tin_2 220 rfl rfl
theorem tw_2_221 : (Cond.classLink "SigntextLaw" 14 "SigntextLaw$Out") ∈ GW := gw_at tin_2 221 rfl rfl
theorem tw_2_222 : (Cond.instantiable "SigntextLaw$Out" 2) ∈ GW := gw_at tin_2 222 rfl rfl
theorem tw_2_224 : (Cond.instanceMethod yX3_init) ∈ GW := gw_at tin_2 224 rfl rfl
theorem tw_2_225 : (Cond.code yX3_init cX3_init 1 (none : Option Jvm.ClassFile.FieldType)) ∈ GW := gw_at tin_2 225 rfl rfl
theorem tw_2_226 : (Cond.methodLink "SigntextLaw$Out" 1 ({ cls := "java/lang/Object", name := "<init>", desc := "()V" } : Jvm.MethodName)) ∈ GW := gw_at tin_2 226 rfl rfl
theorem tw_2_229 : (Cond.lays "SigntextLaw$Out" "SigntextLaw$Out" "n" "J") ∈ GW := gw_at tin_2 229 rfl rfl
theorem tw_2_231 : (Cond.lays "SigntextLaw$Out" "SigntextLaw$Out" "s" "Ljava/lang/String;") ∈ GW := gw_at tin_2 231 rfl rfl
theorem tw_2_233 : (Cond.superclass "SigntextLaw$Out" "java/lang/Object") ∈ GW := gw_at tin_2 233 rfl rfl
theorem tw_2_234 : (Cond.methodLink "SigntextLaw" 163 yL_put) ∈ GW := gw_at tin_2 234 rfl rfl
theorem tw_2_235 : (Cond.static yL_put) ∈ GW := gw_at tin_2 235 rfl rfl
theorem tw_2_237 : (Cond.classLink "SigntextLaw" 19 "java/lang/IndexOutOfBoundsException") ∈ GW := gw_at tin_2 237 rfl rfl
theorem tw_2_238 : (Cond.classLink "SigntextLaw" 21 "java/lang/IllegalArgumentException") ∈ GW := gw_at tin_2 238 rfl rfl
theorem tw_2_239 : (Cond.classLink "SigntextLaw" 23 "java/lang/IllegalStateException") ∈ GW := gw_at tin_2 239 rfl rfl
theorem tw_3_0 : (Cond.methodLink "SigntextLaw" 7 yX2_put) ∈ GW := gw_at tin_3 0 rfl rfl
theorem tw_3_1 : (Cond.instanceMethod yX2_put) ∈ GW := gw_at tin_3 1 rfl rfl
theorem tw_3_2 : (Cond.selects "Signtext" yX2_put yX2_put) ∈ GW := gw_at tin_3 2 rfl rfl
theorem tw_3_3 : (Cond.code yX2_put cX2_put 8 (some .int)) ∈ GW := gw_at tin_3 3 rfl rfl
theorem tw_3_4 : (Cond.methodLink "Signtext" 51 yX2_textOf) ∈ GW := gw_at tin_3 4 rfl rfl
theorem tw_3_6 : (Cond.instanceMethod yX2_textOf) ∈ GW := gw_at tin_3 6 rfl rfl
theorem tw_3_7 : (Cond.code yX2_textOf cX2_textOf 2 (some (.object "Signtext$Line"))) ∈ GW := gw_at tin_3 7 rfl rfl
theorem tw_3_8 : (Cond.classLink "Signtext" 74 "java/lang/IndexOutOfBoundsException") ∈ GW := gw_at tin_3 8 rfl rfl
theorem tw_3_9 : (Cond.instantiable "java/lang/IndexOutOfBoundsException" 6) ∈ GW := gw_at tin_3 9 rfl rfl
theorem tw_3_11 : (Cond.selects "java/lang/IndexOutOfBoundsException" ({ cls := "java/lang/Throwable", name := "fillInStackTrace", desc := "(I)Ljava/lang/Throwable;" } : Jvm.MethodName) ({ cls := "java/lang/Throwable", name := "fillInStackTrace", desc := "(I)Ljava/lang/Throwable;" } : Jvm.MethodName)) ∈ GW := gw_at tin_3 11 rfl rfl
theorem tw_3_12 : (Cond.lays "java/lang/IndexOutOfBoundsException" "java/lang/Throwable" "cause" "Ljava/lang/Throwable;") ∈ GW := gw_at tin_3 12 rfl rfl
theorem tw_3_13 : (Cond.lays "java/lang/IndexOutOfBoundsException" "java/lang/Throwable" "stackTrace" "[Ljava/lang/StackTraceElement;") ∈ GW := gw_at tin_3 13 rfl rfl
theorem tw_3_14 : (Cond.lays "java/lang/IndexOutOfBoundsException" "java/lang/Throwable" "suppressedExceptions" "Ljava/util/List;") ∈ GW := gw_at tin_3 14 rfl rfl
theorem tw_3_15 : (Cond.lays "java/lang/IndexOutOfBoundsException" "java/lang/Throwable" "detailMessage" "Ljava/lang/String;") ∈ GW := gw_at tin_3 15 rfl rfl
theorem tw_3_16 : (Cond.lays "java/lang/IndexOutOfBoundsException" "java/lang/Throwable" "backtrace" "Ljava/lang/Object;") ∈ GW := gw_at tin_3 16 rfl rfl
theorem tw_3_17 : (Cond.methodLink "Signtext" 76 ({ cls := "java/lang/IndexOutOfBoundsException", name := "<init>", desc := "()V" } : Jvm.MethodName)) ∈ GW := gw_at tin_3 17 rfl rfl
theorem tw_3_18 : (Cond.instanceMethod ({ cls := "java/lang/IndexOutOfBoundsException", name := "<init>", desc := "()V" } : Jvm.MethodName)) ∈ GW := gw_at tin_3 18 rfl rfl
theorem tw_3_19 : (Cond.code ({ cls := "java/lang/IndexOutOfBoundsException", name := "<init>", desc := "()V" } : Jvm.MethodName) prog_16_method_1_code 1 (none : Option Jvm.ClassFile.FieldType)) ∈ GW := gw_at tin_3 19 rfl rfl
theorem tw_3_20 : (Cond.methodLink "java/lang/IndexOutOfBoundsException" 1 ({ cls := "java/lang/RuntimeException", name := "<init>", desc := "()V" } : Jvm.MethodName)) ∈ GW := gw_at tin_3 20 rfl rfl
theorem tw_3_21 : (Cond.lays "java/lang/IndexOutOfBoundsException" "java/lang/Throwable" "depth" "I") ∈ GW := gw_at tin_3 21 rfl rfl
theorem tw_3_22 : (Cond.superclass "java/lang/IndexOutOfBoundsException" "java/lang/RuntimeException") ∈ GW := gw_at tin_3 22 rfl rfl
theorem tw_3_23 : (Cond.methodLink "Signtext" 58 yX2_addSignOrNone) ∈ GW := gw_at tin_3 23 rfl rfl
theorem tw_3_25 : (Cond.instanceMethod yX2_addSignOrNone) ∈ GW := gw_at tin_3 25 rfl rfl
theorem tw_3_26 : (Cond.code yX2_addSignOrNone cX2_addSignOrNone 2 (none : Option Jvm.ClassFile.FieldType)) ∈ GW := gw_at tin_3 26 rfl rfl
theorem tw_3_27 : (Cond.methodLink "Signtext" 115 yX2_codeOf) ∈ GW := gw_at tin_3 27 rfl rfl
theorem tw_3_28 : (Cond.static yX2_codeOf) ∈ GW := gw_at tin_3 28 rfl rfl
theorem tw_3_29 : (Cond.code yX2_codeOf cX2_codeOf 1 (some .int)) ∈ GW := gw_at tin_3 29 rfl rfl
theorem tw_3_30 : (Cond.fieldLink "Signtext" 228 "Signtext" "CODES" "[I") ∈ GW := gw_at tin_3 30 rfl rfl
theorem tw_3_32 : (Cond.methodLink "Signtext" 62 yX2_joinInto) ∈ GW := gw_at tin_3 32 rfl rfl
theorem tw_3_34 : (Cond.instanceMethod yX2_joinInto) ∈ GW := gw_at tin_3 34 rfl rfl
theorem tw_3_35 : (Cond.code yX2_joinInto cX2_joinInto 4 (some .int)) ∈ GW := gw_at tin_3 35 rfl rfl
theorem tw_3_36 : (Cond.methodLink "Signtext" 84 yX2_needRoom) ∈ GW := gw_at tin_3 36 rfl rfl
theorem tw_3_37 : (Cond.static yX2_needRoom) ∈ GW := gw_at tin_3 37 rfl rfl
theorem tw_3_38 : (Cond.code yX2_needRoom cX2_needRoom 1 (none : Option Jvm.ClassFile.FieldType)) ∈ GW := gw_at tin_3 38 rfl rfl
theorem tw_3_39 : (Cond.classLink "Signtext" 232 "java/lang/IllegalStateException") ∈ GW := gw_at tin_3 39 rfl rfl
theorem tw_3_40 : (Cond.instantiable "java/lang/IllegalStateException" 6) ∈ GW := gw_at tin_3 40 rfl rfl
theorem tw_3_42 : (Cond.selects "java/lang/IllegalStateException" ({ cls := "java/lang/Throwable", name := "fillInStackTrace", desc := "(I)Ljava/lang/Throwable;" } : Jvm.MethodName) ({ cls := "java/lang/Throwable", name := "fillInStackTrace", desc := "(I)Ljava/lang/Throwable;" } : Jvm.MethodName)) ∈ GW := gw_at tin_3 42 rfl rfl
theorem tw_3_43 : (Cond.lays "java/lang/IllegalStateException" "java/lang/Throwable" "cause" "Ljava/lang/Throwable;") ∈ GW := gw_at tin_3 43 rfl rfl
theorem tw_3_44 : (Cond.lays "java/lang/IllegalStateException" "java/lang/Throwable" "stackTrace" "[Ljava/lang/StackTraceElement;") ∈ GW := gw_at tin_3 44 rfl rfl
theorem tw_3_45 : (Cond.lays "java/lang/IllegalStateException" "java/lang/Throwable" "suppressedExceptions" "Ljava/util/List;") ∈ GW := gw_at tin_3 45 rfl rfl
theorem tw_3_46 : (Cond.lays "java/lang/IllegalStateException" "java/lang/Throwable" "detailMessage" "Ljava/lang/String;") ∈ GW := gw_at tin_3 46 rfl rfl
theorem tw_3_47 : (Cond.lays "java/lang/IllegalStateException" "java/lang/Throwable" "backtrace" "Ljava/lang/Object;") ∈ GW := gw_at tin_3 47 rfl rfl
theorem tw_3_48 : (Cond.methodLink "Signtext" 234 ({ cls := "java/lang/IllegalStateException", name := "<init>", desc := "()V" } : Jvm.MethodName)) ∈ GW := gw_at tin_3 48 rfl rfl
theorem tw_3_49 : (Cond.instanceMethod ({ cls := "java/lang/IllegalStateException", name := "<init>", desc := "()V" } : Jvm.MethodName)) ∈ GW := gw_at tin_3 49 rfl rfl
theorem tw_3_50 : (Cond.code ({ cls := "java/lang/IllegalStateException", name := "<init>", desc := "()V" } : Jvm.MethodName) prog_15_method_1_code 1 (none : Option Jvm.ClassFile.FieldType)) ∈ GW := gw_at tin_3 50 rfl rfl
theorem tw_3_51 : (Cond.methodLink "java/lang/IllegalStateException" 1 ({ cls := "java/lang/RuntimeException", name := "<init>", desc := "()V" } : Jvm.MethodName)) ∈ GW := gw_at tin_3 51 rfl rfl
theorem tw_3_52 : (Cond.lays "java/lang/IllegalStateException" "java/lang/Throwable" "depth" "I") ∈ GW := gw_at tin_3 52 rfl rfl
theorem tw_3_53 : (Cond.superclass "java/lang/IllegalStateException" "java/lang/RuntimeException") ∈ GW := gw_at tin_3 53 rfl rfl
theorem tw_3_54 : (Cond.methodLink "Signtext" 87 yX0_addAll) ∈ GW := gw_at tin_3 54 rfl rfl
theorem tw_3_55 : (Cond.instanceMethod yX0_addAll) ∈ GW := gw_at tin_3 55 rfl rfl
theorem tw_3_56 : (Cond.selects "Signtext$Line" yX0_addAll yX0_addAll) ∈ GW := gw_at tin_3 56 rfl rfl
theorem tw_3_57 : (Cond.code yX0_addAll cX0_addAll 2 (none : Option Jvm.ClassFile.FieldType)) ∈ GW := gw_at tin_3 57 rfl rfl
theorem tw_3_58 : (Cond.methodLink "Signtext$Line" 31 yX0_addPart) ∈ GW := gw_at tin_3 58 rfl rfl
theorem tw_3_59 : (Cond.methodLink "SigntextLaw" 169 yL_clear) ∈ GW := gw_at tin_3 59 rfl rfl
theorem tw_3_60 : (Cond.static yL_clear) ∈ GW := gw_at tin_3 60 rfl rfl
theorem tw_3_62 : (Cond.methodLink "SigntextLaw" 25 yX2_clear) ∈ GW := gw_at tin_3 62 rfl rfl
theorem tw_3_63 : (Cond.instanceMethod yX2_clear) ∈ GW := gw_at tin_3 63 rfl rfl
theorem tw_3_64 : (Cond.selects "Signtext" yX2_clear yX2_clear) ∈ GW := gw_at tin_3 64 rfl rfl
theorem tw_3_65 : (Cond.code yX2_clear cX2_clear 4 (some .int)) ∈ GW := gw_at tin_3 65 rfl rfl
theorem tw_3_66 : (Cond.methodLink "SigntextLaw" 173 yL_copy) ∈ GW := gw_at tin_3 66 rfl rfl
theorem tw_3_67 : (Cond.static yL_copy) ∈ GW := gw_at tin_3 67 rfl rfl
theorem tw_3_69 : (Cond.methodLink "SigntextLaw" 29 yX2_copy) ∈ GW := gw_at tin_3 69 rfl rfl
theorem tw_3_70 : (Cond.instanceMethod yX2_copy) ∈ GW := gw_at tin_3 70 rfl rfl
theorem tw_3_71 : (Cond.selects "Signtext" yX2_copy yX2_copy) ∈ GW := gw_at tin_3 71 rfl rfl
theorem tw_3_72 : (Cond.code yX2_copy cX2_copy 4 (some .int)) ∈ GW := gw_at tin_3 72 rfl rfl
theorem tw_3_73 : (Cond.methodLink "SigntextLaw" 177 yL_part) ∈ GW := gw_at tin_3 73 rfl rfl
theorem tw_3_74 : (Cond.static yL_part) ∈ GW := gw_at tin_3 74 rfl rfl
theorem tw_3_76 : (Cond.methodLink "SigntextLaw" 33 yX2_part) ∈ GW := gw_at tin_3 76 rfl rfl
theorem tw_3_77 : (Cond.instanceMethod yX2_part) ∈ GW := gw_at tin_3 77 rfl rfl
theorem tw_3_78 : (Cond.selects "Signtext" yX2_part yX2_part) ∈ GW := gw_at tin_3 78 rfl rfl
theorem tw_3_79 : (Cond.code yX2_part cX2_part 7 (some .int)) ∈ GW := gw_at tin_3 79 rfl rfl
theorem tw_3_80 : (Cond.methodLink "SigntextLaw" 181 yL_tail) ∈ GW := gw_at tin_3 80 rfl rfl
theorem tw_3_81 : (Cond.static yL_tail) ∈ GW := gw_at tin_3 81 rfl rfl
theorem tw_3_83 : (Cond.methodLink "SigntextLaw" 37 yX2_tail) ∈ GW := gw_at tin_3 83 rfl rfl
theorem tw_3_84 : (Cond.instanceMethod yX2_tail) ∈ GW := gw_at tin_3 84 rfl rfl
theorem tw_3_85 : (Cond.selects "Signtext" yX2_tail yX2_tail) ∈ GW := gw_at tin_3 85 rfl rfl
theorem tw_3_86 : (Cond.code yX2_tail cX2_tail 6 (some .int)) ∈ GW := gw_at tin_3 86 rfl rfl
theorem tw_3_87 : (Cond.methodLink "Signtext" 77 yX2_needPlaceOrEnd) ∈ GW := gw_at tin_3 87 rfl rfl
theorem tw_3_88 : (Cond.static yX2_needPlaceOrEnd) ∈ GW := gw_at tin_3 88 rfl rfl
theorem tw_3_89 : (Cond.code yX2_needPlaceOrEnd cX2_needPlaceOrEnd 2 (none : Option Jvm.ClassFile.FieldType)) ∈ GW := gw_at tin_3 89 rfl rfl
theorem tw_3_90 : (Cond.methodLink "SigntextLaw" 185 yL_join) ∈ GW := gw_at tin_3 90 rfl rfl
theorem tw_3_91 : (Cond.static yL_join) ∈ GW := gw_at tin_3 91 rfl rfl
theorem tw_3_93 : (Cond.methodLink "SigntextLaw" 41 yX2_join) ∈ GW := gw_at tin_3 93 rfl rfl
theorem tw_3_94 : (Cond.instanceMethod yX2_join) ∈ GW := gw_at tin_3 94 rfl rfl
theorem tw_3_95 : (Cond.selects "Signtext" yX2_join yX2_join) ∈ GW := gw_at tin_3 95 rfl rfl
theorem tw_3_96 : (Cond.code yX2_join cX2_join 4 (some .int)) ∈ GW := gw_at tin_3 96 rfl rfl
theorem tw_3_97 : (Cond.methodLink "SigntextLaw" 188 yL_times) ∈ GW := gw_at tin_3 97 rfl rfl
theorem tw_3_98 : (Cond.static yL_times) ∈ GW := gw_at tin_3 98 rfl rfl
theorem tw_3_100 : (Cond.methodLink "SigntextLaw" 44 yX2_times) ∈ GW := gw_at tin_3 100 rfl rfl
theorem tw_3_101 : (Cond.instanceMethod yX2_times) ∈ GW := gw_at tin_3 101 rfl rfl
theorem tw_3_102 : (Cond.selects "Signtext" yX2_times yX2_times) ∈ GW := gw_at tin_3 102 rfl rfl
theorem tw_3_103 : (Cond.code yX2_times cX2_times 7 (some .int)) ∈ GW := gw_at tin_3 103 rfl rfl
theorem tw_3_104 : (Cond.methodLink "SigntextLaw" 191 yL_trim) ∈ GW := gw_at tin_3 104 rfl rfl
theorem tw_3_105 : (Cond.static yL_trim) ∈ GW := gw_at tin_3 105 rfl rfl
theorem tw_3_107 : (Cond.methodLink "SigntextLaw" 47 yX2_trim) ∈ GW := gw_at tin_3 107 rfl rfl
theorem tw_3_108 : (Cond.instanceMethod yX2_trim) ∈ GW := gw_at tin_3 108 rfl rfl
theorem tw_3_109 : (Cond.selects "Signtext" yX2_trim yX2_trim) ∈ GW := gw_at tin_3 109 rfl rfl
theorem tw_3_110 : (Cond.code yX2_trim cX2_trim 5 (some .int)) ∈ GW := gw_at tin_3 110 rfl rfl
theorem tw_3_111 : (Cond.methodLink "SigntextLaw" 195 yL_number) ∈ GW := gw_at tin_3 111 rfl rfl
theorem tw_3_112 : (Cond.static yL_number) ∈ GW := gw_at tin_3 112 rfl rfl
theorem tw_3_114 : (Cond.methodLink "SigntextLaw" 51 yX2_number) ∈ GW := gw_at tin_3 114 rfl rfl
theorem tw_3_115 : (Cond.instanceMethod yX2_number) ∈ GW := gw_at tin_3 115 rfl rfl
theorem tw_3_116 : (Cond.selects "Signtext" yX2_number yX2_number) ∈ GW := gw_at tin_3 116 rfl rfl
theorem tw_3_117 : (Cond.code yX2_number cX2_number 5 (some .int)) ∈ GW := gw_at tin_3 117 rfl rfl
theorem tw_3_118 : (Cond.methodLink "Signtext" 101 yX0_addNumber) ∈ GW := gw_at tin_3 118 rfl rfl
theorem tw_3_119 : (Cond.instanceMethod yX0_addNumber) ∈ GW := gw_at tin_3 119 rfl rfl
theorem tw_3_120 : (Cond.selects "Signtext$Line" yX0_addNumber yX0_addNumber) ∈ GW := gw_at tin_3 120 rfl rfl
theorem tw_3_121 : (Cond.code yX0_addNumber cX0_addNumber 7 (none : Option Jvm.ClassFile.FieldType)) ∈ GW := gw_at tin_3 121 rfl rfl
theorem tw_3_122 : (Cond.constantLong "Signtext$Line" 44 (1000000000000000000 : Int64)) ∈ GW := gw_at tin_3 122 rfl rfl
theorem tw_3_123 : (Cond.constantLong "Signtext$Line" 46 (10 : Int64)) ∈ GW := gw_at tin_3 123 rfl rfl
theorem tw_3_124 : (Cond.methodLink "Signtext$Line" 48 yJ9_abs_0f7a4) ∈ GW := gw_at tin_3 124 rfl rfl
theorem tw_3_125 : (Cond.static yJ9_abs_0f7a4) ∈ GW := gw_at tin_3 125 rfl rfl
theorem tw_3_126 : (Cond.code yJ9_abs_0f7a4 cJ9_abs_0f7a4 1 (some .int)) ∈ GW := gw_at tin_3 126 rfl rfl
theorem tw_3_127 : (Cond.methodLink "Signtext" 105 yX2_addMade) ∈ GW := gw_at tin_3 127 rfl rfl
theorem tw_3_129 : (Cond.instanceMethod yX2_addMade) ∈ GW := gw_at tin_3 129 rfl rfl
theorem tw_3_130 : (Cond.code yX2_addMade cX2_addMade 3 (some .int)) ∈ GW := gw_at tin_3 130 rfl rfl
theorem tw_3_131 : (Cond.methodLink "SigntextLaw" 199 yL_great) ∈ GW := gw_at tin_3 131 rfl rfl
theorem tw_3_132 : (Cond.static yL_great) ∈ GW := gw_at tin_3 132 rfl rfl
theorem tw_3_134 : (Cond.methodLink "SigntextLaw" 55 yX2_great) ∈ GW := gw_at tin_3 134 rfl rfl
theorem tw_3_135 : (Cond.instanceMethod yX2_great) ∈ GW := gw_at tin_3 135 rfl rfl
theorem tw_3_136 : (Cond.selects "Signtext" yX2_great yX2_great) ∈ GW := gw_at tin_3 136 rfl rfl
theorem tw_3_137 : (Cond.code yX2_great cX2_great 5 (some .int)) ∈ GW := gw_at tin_3 137 rfl rfl
theorem tw_3_138 : (Cond.constantLong "Signtext" 109 (4294967295 : Int64)) ∈ GW := gw_at tin_3 138 rfl rfl
theorem tw_3_139 : (Cond.methodLink "SigntextLaw" 202 yL_truth) ∈ GW := gw_at tin_3 139 rfl rfl
theorem tw_3_140 : (Cond.static yL_truth) ∈ GW := gw_at tin_3 140 rfl rfl
theorem tw_3_142 : (Cond.methodLink "SigntextLaw" 58 yX2_truth) ∈ GW := gw_at tin_3 142 rfl rfl
theorem tw_3_143 : (Cond.instanceMethod yX2_truth) ∈ GW := gw_at tin_3 143 rfl rfl
theorem tw_3_144 : (Cond.selects "Signtext" yX2_truth yX2_truth) ∈ GW := gw_at tin_3 144 rfl rfl
theorem tw_3_145 : (Cond.code yX2_truth cX2_truth 5 (some .int)) ∈ GW := gw_at tin_3 145 rfl rfl
theorem tw_3_148 : (Cond.methodLink "SigntextLaw" 206 yL_ahead) ∈ GW := gw_at tin_3 148 rfl rfl
theorem tw_3_149 : (Cond.static yL_ahead) ∈ GW := gw_at tin_3 149 rfl rfl
theorem tw_3_151 : (Cond.methodLink "SigntextLaw" 62 yX2_ahead) ∈ GW := gw_at tin_3 151 rfl rfl
theorem tw_3_152 : (Cond.instanceMethod yX2_ahead) ∈ GW := gw_at tin_3 152 rfl rfl
theorem tw_3_153 : (Cond.selects "Signtext" yX2_ahead yX2_ahead) ∈ GW := gw_at tin_3 153 rfl rfl
theorem tw_3_154 : (Cond.code yX2_ahead cX2_ahead 4 (some .int)) ∈ GW := gw_at tin_3 154 rfl rfl
theorem tw_3_155 : (Cond.methodLink "SigntextLaw" 209 yL_known) ∈ GW := gw_at tin_3 155 rfl rfl
theorem tw_3_156 : (Cond.static yL_known) ∈ GW := gw_at tin_3 156 rfl rfl
theorem tw_3_158 : (Cond.methodLink "SigntextLaw" 65 yX2_known) ∈ GW := gw_at tin_3 158 rfl rfl
theorem tw_3_159 : (Cond.instanceMethod yX2_known) ∈ GW := gw_at tin_3 159 rfl rfl
theorem tw_3_160 : (Cond.selects "Signtext" yX2_known yX2_known) ∈ GW := gw_at tin_3 160 rfl rfl
theorem tw_3_161 : (Cond.code yX2_known cX2_known 4 (some .int)) ∈ GW := gw_at tin_3 161 rfl rfl
theorem tw_3_162 : (Cond.methodLink "Signtext" 122 yX2_knownOf) ∈ GW := gw_at tin_3 162 rfl rfl
theorem tw_3_164 : (Cond.instanceMethod yX2_knownOf) ∈ GW := gw_at tin_3 164 rfl rfl
theorem tw_3_165 : (Cond.code yX2_knownOf cX2_knownOf 2 (some (.object "Signtext$Line"))) ∈ GW := gw_at tin_3 165 rfl rfl
theorem tw_3_166 : (Cond.methodLink "SigntextLaw" 212 yL_lay) ∈ GW := gw_at tin_3 166 rfl rfl
theorem tw_3_167 : (Cond.static yL_lay) ∈ GW := gw_at tin_3 167 rfl rfl
theorem tw_3_169 : (Cond.methodLink "SigntextLaw" 68 yX2_lay) ∈ GW := gw_at tin_3 169 rfl rfl
theorem tw_3_170 : (Cond.instanceMethod yX2_lay) ∈ GW := gw_at tin_3 170 rfl rfl
theorem tw_3_171 : (Cond.selects "Signtext" yX2_lay yX2_lay) ∈ GW := gw_at tin_3 171 rfl rfl
theorem tw_3_172 : (Cond.code yX2_lay cX2_lay 2 (some .int)) ∈ GW := gw_at tin_3 172 rfl rfl
theorem tw_3_173 : (Cond.methodLink "SigntextLaw" 215 yL_set) ∈ GW := gw_at tin_3 173 rfl rfl
theorem tw_3_174 : (Cond.static yL_set) ∈ GW := gw_at tin_3 174 rfl rfl
theorem tw_3_176 : (Cond.methodLink "SigntextLaw" 71 yX2_set) ∈ GW := gw_at tin_3 176 rfl rfl
theorem tw_3_177 : (Cond.instanceMethod yX2_set) ∈ GW := gw_at tin_3 177 rfl rfl
theorem tw_3_178 : (Cond.selects "Signtext" yX2_set yX2_set) ∈ GW := gw_at tin_3 178 rfl rfl
theorem tw_3_179 : (Cond.code yX2_set cX2_set 5 (some .int)) ∈ GW := gw_at tin_3 179 rfl rfl
theorem tw_3_180 : (Cond.methodLink "Signtext" 125 yX2_needPlace) ∈ GW := gw_at tin_3 180 rfl rfl
theorem tw_3_181 : (Cond.static yX2_needPlace) ∈ GW := gw_at tin_3 181 rfl rfl
theorem tw_3_182 : (Cond.code yX2_needPlace cX2_needPlace 2 (none : Option Jvm.ClassFile.FieldType)) ∈ GW := gw_at tin_3 182 rfl rfl
theorem tw_3_183 : (Cond.methodLink "Signtext" 131 yX0_change) ∈ GW := gw_at tin_3 183 rfl rfl
theorem tw_3_184 : (Cond.instanceMethod yX0_change) ∈ GW := gw_at tin_3 184 rfl rfl
theorem tw_3_185 : (Cond.selects "Signtext$Line" yX0_change yX0_change) ∈ GW := gw_at tin_3 185 rfl rfl
theorem tw_3_186 : (Cond.code yX0_change cX0_change 3 (none : Option Jvm.ClassFile.FieldType)) ∈ GW := gw_at tin_3 186 rfl rfl
theorem tw_3_187 : (Cond.methodLink "SigntextLaw" 218 yL_take) ∈ GW := gw_at tin_3 187 rfl rfl
theorem tw_3_188 : (Cond.static yL_take) ∈ GW := gw_at tin_3 188 rfl rfl
theorem tw_3_190 : (Cond.methodLink "SigntextLaw" 74 yX2_take) ∈ GW := gw_at tin_3 190 rfl rfl
theorem tw_3_191 : (Cond.instanceMethod yX2_take) ∈ GW := gw_at tin_3 191 rfl rfl
theorem tw_3_192 : (Cond.selects "Signtext" yX2_take yX2_take) ∈ GW := gw_at tin_3 192 rfl rfl
theorem tw_3_193 : (Cond.code yX2_take cX2_take 2 (some .int)) ∈ GW := gw_at tin_3 193 rfl rfl
theorem tw_3_194 : (Cond.methodLink "SigntextLaw" 221 yL_takePart) ∈ GW := gw_at tin_3 194 rfl rfl
theorem tw_3_195 : (Cond.static yL_takePart) ∈ GW := gw_at tin_3 195 rfl rfl
theorem tw_3_197 : (Cond.methodLink "SigntextLaw" 77 yX2_takePart) ∈ GW := gw_at tin_3 197 rfl rfl
theorem tw_3_198 : (Cond.instanceMethod yX2_takePart) ∈ GW := gw_at tin_3 198 rfl rfl
theorem tw_3_199 : (Cond.selects "Signtext" yX2_takePart yX2_takePart) ∈ GW := gw_at tin_3 199 rfl rfl
theorem tw_3_200 : (Cond.code yX2_takePart cX2_takePart 5 (some .int)) ∈ GW := gw_at tin_3 200 rfl rfl
theorem tw_3_201 : (Cond.methodLink "SigntextLaw" 224 yL_cut) ∈ GW := gw_at tin_3 201 rfl rfl
theorem tw_3_202 : (Cond.static yL_cut) ∈ GW := gw_at tin_3 202 rfl rfl
theorem tw_3_204 : (Cond.methodLink "SigntextLaw" 80 yX2_cut) ∈ GW := gw_at tin_3 204 rfl rfl
theorem tw_3_205 : (Cond.instanceMethod yX2_cut) ∈ GW := gw_at tin_3 205 rfl rfl
theorem tw_3_206 : (Cond.selects "Signtext" yX2_cut yX2_cut) ∈ GW := gw_at tin_3 206 rfl rfl
theorem tw_3_207 : (Cond.code yX2_cut cX2_cut 2 (some .int)) ∈ GW := gw_at tin_3 207 rfl rfl
theorem tw_3_208 : (Cond.methodLink "SigntextLaw" 227 yL_takePiece) ∈ GW := gw_at tin_3 208 rfl rfl
theorem tw_3_209 : (Cond.static yL_takePiece) ∈ GW := gw_at tin_3 209 rfl rfl
theorem tw_3_211 : (Cond.methodLink "SigntextLaw" 83 yX2_takePiece) ∈ GW := gw_at tin_3 211 rfl rfl
theorem tw_3_212 : (Cond.instanceMethod yX2_takePiece) ∈ GW := gw_at tin_3 212 rfl rfl
theorem tw_3_213 : (Cond.selects "Signtext" yX2_takePiece yX2_takePiece) ∈ GW := gw_at tin_3 213 rfl rfl
theorem tw_3_214 : (Cond.code yX2_takePiece cX2_takePiece 3 (some .int)) ∈ GW := gw_at tin_3 214 rfl rfl
theorem tw_3_215 : (Cond.methodLink "Signtext" 139 yX2_needPiece) ∈ GW := gw_at tin_3 215 rfl rfl
theorem tw_3_217 : (Cond.instanceMethod yX2_needPiece) ∈ GW := gw_at tin_3 217 rfl rfl
theorem tw_3_218 : (Cond.code yX2_needPiece cX2_needPiece 2 (none : Option Jvm.ClassFile.FieldType)) ∈ GW := gw_at tin_3 218 rfl rfl
theorem tw_3_219 : (Cond.methodLink "Signtext" 142 yX2_pieceInto) ∈ GW := gw_at tin_3 219 rfl rfl
theorem tw_3_221 : (Cond.instanceMethod yX2_pieceInto) ∈ GW := gw_at tin_3 221 rfl rfl
theorem tw_3_222 : (Cond.code yX2_pieceInto cX2_pieceInto 3 (some .int)) ∈ GW := gw_at tin_3 222 rfl rfl
theorem tw_3_223 : (Cond.methodLink "SigntextLaw" 235 yL_text) ∈ GW := gw_at tin_3 223 rfl rfl
theorem tw_3_224 : (Cond.static yL_text) ∈ GW := gw_at tin_3 224 rfl rfl
theorem tw_3_226 : (Cond.methodLink "SigntextLaw" 86 yX2_text) ∈ GW := gw_at tin_3 226 rfl rfl
theorem tw_3_227 : (Cond.instanceMethod yX2_text) ∈ GW := gw_at tin_3 227 rfl rfl
theorem tw_3_228 : (Cond.selects "Signtext" yX2_text yX2_text) ∈ GW := gw_at tin_3 228 rfl rfl
theorem tw_3_229 : (Cond.code yX2_text cX2_text 2 (some (.object "java/lang/String"))) ∈ GW := gw_at tin_3 229 rfl rfl
theorem tw_3_230 : (Cond.methodLink "SigntextLaw" 238 yL_length) ∈ GW := gw_at tin_3 230 rfl rfl
theorem tw_3_231 : (Cond.static yL_length) ∈ GW := gw_at tin_3 231 rfl rfl
theorem tw_3_233 : (Cond.methodLink "SigntextLaw" 94 yX2_length) ∈ GW := gw_at tin_3 233 rfl rfl
theorem tw_3_234 : (Cond.instanceMethod yX2_length) ∈ GW := gw_at tin_3 234 rfl rfl
theorem tw_3_235 : (Cond.selects "Signtext" yX2_length yX2_length) ∈ GW := gw_at tin_3 235 rfl rfl
theorem tw_3_236 : (Cond.code yX2_length cX2_length 2 (some .int)) ∈ GW := gw_at tin_3 236 rfl rfl
theorem tw_3_237 : (Cond.methodLink "SigntextLaw" 241 yL_at) ∈ GW := gw_at tin_3 237 rfl rfl
theorem tw_3_238 : (Cond.static yL_at) ∈ GW := gw_at tin_3 238 rfl rfl
theorem tw_4_0 : (Cond.methodLink "SigntextLaw" 97 yX2_at) ∈ GW := gw_at tin_4 0 rfl rfl
theorem tw_4_1 : (Cond.instanceMethod yX2_at) ∈ GW := gw_at tin_4 1 rfl rfl
theorem tw_4_2 : (Cond.selects "Signtext" yX2_at yX2_at) ∈ GW := gw_at tin_4 2 rfl rfl
theorem tw_4_3 : (Cond.code yX2_at cX2_at 4 (some .int)) ∈ GW := gw_at tin_4 3 rfl rfl
theorem tw_4_4 : (Cond.methodLink "SigntextLaw" 244 yL_isEmpty) ∈ GW := gw_at tin_4 4 rfl rfl
theorem tw_4_5 : (Cond.static yL_isEmpty) ∈ GW := gw_at tin_4 5 rfl rfl
theorem tw_4_7 : (Cond.methodLink "SigntextLaw" 100 yX2_isEmpty) ∈ GW := gw_at tin_4 7 rfl rfl
theorem tw_4_8 : (Cond.instanceMethod yX2_isEmpty) ∈ GW := gw_at tin_4 8 rfl rfl
theorem tw_4_9 : (Cond.selects "Signtext" yX2_isEmpty yX2_isEmpty) ∈ GW := gw_at tin_4 9 rfl rfl
theorem tw_4_10 : (Cond.code yX2_isEmpty cX2_isEmpty 2 (some .boolean)) ∈ GW := gw_at tin_4 10 rfl rfl
theorem tw_4_11 : (Cond.methodLink "SigntextLaw" 247 yL_isBlank) ∈ GW := gw_at tin_4 11 rfl rfl
theorem tw_4_12 : (Cond.static yL_isBlank) ∈ GW := gw_at tin_4 12 rfl rfl
theorem tw_4_14 : (Cond.methodLink "SigntextLaw" 104 yX2_isBlank) ∈ GW := gw_at tin_4 14 rfl rfl
theorem tw_4_15 : (Cond.instanceMethod yX2_isBlank) ∈ GW := gw_at tin_4 15 rfl rfl
theorem tw_4_16 : (Cond.selects "Signtext" yX2_isBlank yX2_isBlank) ∈ GW := gw_at tin_4 16 rfl rfl
theorem tw_4_17 : (Cond.code yX2_isBlank cX2_isBlank 2 (some .boolean)) ∈ GW := gw_at tin_4 17 rfl rfl
theorem tw_4_18 : (Cond.methodLink "SigntextLaw" 250 yL_hash) ∈ GW := gw_at tin_4 18 rfl rfl
theorem tw_4_19 : (Cond.static yL_hash) ∈ GW := gw_at tin_4 19 rfl rfl
theorem tw_4_21 : (Cond.methodLink "SigntextLaw" 107 yX2_hash) ∈ GW := gw_at tin_4 21 rfl rfl
theorem tw_4_22 : (Cond.instanceMethod yX2_hash) ∈ GW := gw_at tin_4 22 rfl rfl
theorem tw_4_23 : (Cond.selects "Signtext" yX2_hash yX2_hash) ∈ GW := gw_at tin_4 23 rfl rfl
theorem tw_4_24 : (Cond.code yX2_hash cX2_hash 2 (some .int)) ∈ GW := gw_at tin_4 24 rfl rfl
theorem tw_4_25 : (Cond.methodLink "SigntextLaw" 253 yL_first) ∈ GW := gw_at tin_4 25 rfl rfl
theorem tw_4_26 : (Cond.static yL_first) ∈ GW := gw_at tin_4 26 rfl rfl
theorem tw_4_28 : (Cond.methodLink "SigntextLaw" 110 yX2_first) ∈ GW := gw_at tin_4 28 rfl rfl
theorem tw_4_29 : (Cond.instanceMethod yX2_first) ∈ GW := gw_at tin_4 29 rfl rfl
theorem tw_4_30 : (Cond.selects "Signtext" yX2_first yX2_first) ∈ GW := gw_at tin_4 30 rfl rfl
theorem tw_4_31 : (Cond.code yX2_first cX2_first 4 (some .int)) ∈ GW := gw_at tin_4 31 rfl rfl
theorem tw_4_32 : (Cond.methodLink "Signtext" 157 yX0_firstPlaceOfCode) ∈ GW := gw_at tin_4 32 rfl rfl
theorem tw_4_33 : (Cond.instanceMethod yX0_firstPlaceOfCode) ∈ GW := gw_at tin_4 33 rfl rfl
theorem tw_4_34 : (Cond.selects "Signtext$Line" yX0_firstPlaceOfCode yX0_firstPlaceOfCode) ∈ GW := gw_at tin_4 34 rfl rfl
theorem tw_4_35 : (Cond.code yX0_firstPlaceOfCode cX0_firstPlaceOfCode 4 (some .int)) ∈ GW := gw_at tin_4 35 rfl rfl
theorem tw_4_36 : (Cond.methodLink "SigntextLaw" 256 yL_last) ∈ GW := gw_at tin_4 36 rfl rfl
theorem tw_4_37 : (Cond.static yL_last) ∈ GW := gw_at tin_4 37 rfl rfl
theorem tw_4_39 : (Cond.methodLink "SigntextLaw" 113 yX2_last) ∈ GW := gw_at tin_4 39 rfl rfl
theorem tw_4_40 : (Cond.instanceMethod yX2_last) ∈ GW := gw_at tin_4 40 rfl rfl
theorem tw_4_41 : (Cond.selects "Signtext" yX2_last yX2_last) ∈ GW := gw_at tin_4 41 rfl rfl
theorem tw_4_42 : (Cond.code yX2_last cX2_last 4 (some .int)) ∈ GW := gw_at tin_4 42 rfl rfl
theorem tw_4_43 : (Cond.methodLink "Signtext" 161 yX0_lastPlaceOfCode) ∈ GW := gw_at tin_4 43 rfl rfl
theorem tw_4_44 : (Cond.instanceMethod yX0_lastPlaceOfCode) ∈ GW := gw_at tin_4 44 rfl rfl
theorem tw_4_45 : (Cond.selects "Signtext$Line" yX0_lastPlaceOfCode yX0_lastPlaceOfCode) ∈ GW := gw_at tin_4 45 rfl rfl
theorem tw_4_46 : (Cond.code yX0_lastPlaceOfCode cX0_lastPlaceOfCode 3 (some .int)) ∈ GW := gw_at tin_4 46 rfl rfl
theorem tw_4_47 : (Cond.methodLink "SigntextLaw" 259 yL_next) ∈ GW := gw_at tin_4 47 rfl rfl
theorem tw_4_48 : (Cond.static yL_next) ∈ GW := gw_at tin_4 48 rfl rfl
theorem tw_4_50 : (Cond.methodLink "SigntextLaw" 116 yX2_next) ∈ GW := gw_at tin_4 50 rfl rfl
theorem tw_4_51 : (Cond.instanceMethod yX2_next) ∈ GW := gw_at tin_4 51 rfl rfl
theorem tw_4_52 : (Cond.selects "Signtext" yX2_next yX2_next) ∈ GW := gw_at tin_4 52 rfl rfl
theorem tw_4_53 : (Cond.code yX2_next cX2_next 5 (some .int)) ∈ GW := gw_at tin_4 53 rfl rfl
theorem tw_4_54 : (Cond.methodLink "SigntextLaw" 262 yL_begins) ∈ GW := gw_at tin_4 54 rfl rfl
theorem tw_4_55 : (Cond.static yL_begins) ∈ GW := gw_at tin_4 55 rfl rfl
theorem tw_4_57 : (Cond.methodLink "SigntextLaw" 119 yX2_begins) ∈ GW := gw_at tin_4 57 rfl rfl
theorem tw_4_58 : (Cond.instanceMethod yX2_begins) ∈ GW := gw_at tin_4 58 rfl rfl
theorem tw_4_59 : (Cond.selects "Signtext" yX2_begins yX2_begins) ∈ GW := gw_at tin_4 59 rfl rfl
theorem tw_4_60 : (Cond.code yX2_begins cX2_begins 6 (some .boolean)) ∈ GW := gw_at tin_4 60 rfl rfl
theorem tw_4_61 : (Cond.methodLink "SigntextLaw" 265 yL_stands) ∈ GW := gw_at tin_4 61 rfl rfl
theorem tw_4_62 : (Cond.static yL_stands) ∈ GW := gw_at tin_4 62 rfl rfl
theorem tw_4_64 : (Cond.methodLink "SigntextLaw" 123 yX2_stands) ∈ GW := gw_at tin_4 64 rfl rfl
theorem tw_4_65 : (Cond.instanceMethod yX2_stands) ∈ GW := gw_at tin_4 65 rfl rfl
theorem tw_4_66 : (Cond.selects "Signtext" yX2_stands yX2_stands) ∈ GW := gw_at tin_4 66 rfl rfl
theorem tw_4_67 : (Cond.code yX2_stands cX2_stands 6 (some .boolean)) ∈ GW := gw_at tin_4 67 rfl rfl
theorem tw_4_68 : (Cond.methodLink "SigntextLaw" 269 yL_firstOf) ∈ GW := gw_at tin_4 68 rfl rfl
theorem tw_4_69 : (Cond.static yL_firstOf) ∈ GW := gw_at tin_4 69 rfl rfl
theorem tw_4_71 : (Cond.methodLink "SigntextLaw" 127 yX2_firstOf) ∈ GW := gw_at tin_4 71 rfl rfl
theorem tw_4_72 : (Cond.instanceMethod yX2_firstOf) ∈ GW := gw_at tin_4 72 rfl rfl
theorem tw_4_73 : (Cond.selects "Signtext" yX2_firstOf yX2_firstOf) ∈ GW := gw_at tin_4 73 rfl rfl
theorem tw_4_74 : (Cond.code yX2_firstOf cX2_firstOf 3 (some .int)) ∈ GW := gw_at tin_4 74 rfl rfl
theorem tw_4_75 : (Cond.methodLink "SigntextLaw" 272 yL_lastOf) ∈ GW := gw_at tin_4 75 rfl rfl
theorem tw_4_76 : (Cond.static yL_lastOf) ∈ GW := gw_at tin_4 76 rfl rfl
theorem tw_4_78 : (Cond.methodLink "SigntextLaw" 130 yX2_lastOf) ∈ GW := gw_at tin_4 78 rfl rfl
theorem tw_4_79 : (Cond.instanceMethod yX2_lastOf) ∈ GW := gw_at tin_4 79 rfl rfl
theorem tw_4_80 : (Cond.selects "Signtext" yX2_lastOf yX2_lastOf) ∈ GW := gw_at tin_4 80 rfl rfl
theorem tw_4_81 : (Cond.code yX2_lastOf cX2_lastOf 3 (some .int)) ∈ GW := gw_at tin_4 81 rfl rfl
theorem tw_4_82 : (Cond.methodLink "SigntextLaw" 275 yL_isIn) ∈ GW := gw_at tin_4 82 rfl rfl
theorem tw_4_83 : (Cond.static yL_isIn) ∈ GW := gw_at tin_4 83 rfl rfl
theorem tw_4_85 : (Cond.methodLink "SigntextLaw" 133 yX2_isIn) ∈ GW := gw_at tin_4 85 rfl rfl
theorem tw_4_86 : (Cond.instanceMethod yX2_isIn) ∈ GW := gw_at tin_4 86 rfl rfl
theorem tw_4_87 : (Cond.selects "Signtext" yX2_isIn yX2_isIn) ∈ GW := gw_at tin_4 87 rfl rfl
theorem tw_4_88 : (Cond.code yX2_isIn cX2_isIn 3 (some .boolean)) ∈ GW := gw_at tin_4 88 rfl rfl
theorem tw_4_89 : (Cond.methodLink "SigntextLaw" 278 yL_isSame) ∈ GW := gw_at tin_4 89 rfl rfl
theorem tw_4_90 : (Cond.static yL_isSame) ∈ GW := gw_at tin_4 90 rfl rfl
theorem tw_4_92 : (Cond.methodLink "SigntextLaw" 137 yX2_isSame) ∈ GW := gw_at tin_4 92 rfl rfl
theorem tw_4_93 : (Cond.instanceMethod yX2_isSame) ∈ GW := gw_at tin_4 93 rfl rfl
theorem tw_4_94 : (Cond.selects "Signtext" yX2_isSame yX2_isSame) ∈ GW := gw_at tin_4 94 rfl rfl
theorem tw_4_95 : (Cond.code yX2_isSame cX2_isSame 4 (some .boolean)) ∈ GW := gw_at tin_4 95 rfl rfl
theorem tw_4_96 : (Cond.methodLink "SigntextLaw" 281 yL_order) ∈ GW := gw_at tin_4 96 rfl rfl
theorem tw_4_97 : (Cond.static yL_order) ∈ GW := gw_at tin_4 97 rfl rfl
theorem tw_4_99 : (Cond.methodLink "SigntextLaw" 140 yX2_order) ∈ GW := gw_at tin_4 99 rfl rfl
theorem tw_4_100 : (Cond.instanceMethod yX2_order) ∈ GW := gw_at tin_4 100 rfl rfl
theorem tw_4_101 : (Cond.selects "Signtext" yX2_order yX2_order) ∈ GW := gw_at tin_4 101 rfl rfl
theorem tw_4_102 : (Cond.code yX2_order cX2_order 3 (some .int)) ∈ GW := gw_at tin_4 102 rfl rfl
theorem tw_4_103 : (Cond.methodLink "SigntextLaw" 284 yL_orderLike) ∈ GW := gw_at tin_4 103 rfl rfl
theorem tw_4_104 : (Cond.static yL_orderLike) ∈ GW := gw_at tin_4 104 rfl rfl
theorem tw_4_106 : (Cond.methodLink "SigntextLaw" 143 yX2_orderLike) ∈ GW := gw_at tin_4 106 rfl rfl
theorem tw_4_107 : (Cond.instanceMethod yX2_orderLike) ∈ GW := gw_at tin_4 107 rfl rfl
theorem tw_4_108 : (Cond.selects "Signtext" yX2_orderLike yX2_orderLike) ∈ GW := gw_at tin_4 108 rfl rfl
theorem tw_4_109 : (Cond.code yX2_orderLike cX2_orderLike 3 (some .int)) ∈ GW := gw_at tin_4 109 rfl rfl
theorem tw_4_110 : (Cond.methodLink "SigntextLaw" 292 yL_rowAt) ∈ GW := gw_at tin_4 110 rfl rfl
theorem tw_4_111 : (Cond.static yL_rowAt) ∈ GW := gw_at tin_4 111 rfl rfl
theorem tw_4_113 : (Cond.methodLink "SigntextLaw" 146 yX2_rowAt) ∈ GW := gw_at tin_4 113 rfl rfl
theorem tw_4_114 : (Cond.instanceMethod yX2_rowAt) ∈ GW := gw_at tin_4 114 rfl rfl
theorem tw_4_115 : (Cond.selects "Signtext" yX2_rowAt yX2_rowAt) ∈ GW := gw_at tin_4 115 rfl rfl
theorem tw_4_116 : (Cond.code yX2_rowAt cX2_rowAt 2 (some .int)) ∈ GW := gw_at tin_4 116 rfl rfl
theorem tw_4_117 : (Cond.methodLink "SigntextLaw" 295 yL_piece) ∈ GW := gw_at tin_4 117 rfl rfl
theorem tw_4_118 : (Cond.static yL_piece) ∈ GW := gw_at tin_4 118 rfl rfl
theorem tw_4_120 : (Cond.methodLink "SigntextLaw" 149 yX2_piece) ∈ GW := gw_at tin_4 120 rfl rfl
theorem tw_4_121 : (Cond.instanceMethod yX2_piece) ∈ GW := gw_at tin_4 121 rfl rfl
theorem tw_4_122 : (Cond.selects "Signtext" yX2_piece yX2_piece) ∈ GW := gw_at tin_4 122 rfl rfl
theorem tw_4_123 : (Cond.code yX2_piece cX2_piece 2 (some (.object "java/lang/String"))) ∈ GW := gw_at tin_4 123 rfl rfl
theorem tw_4_124 : (Cond.methodLink "SigntextLaw" 298 yL_isPiece) ∈ GW := gw_at tin_4 124 rfl rfl
theorem tw_4_125 : (Cond.static yL_isPiece) ∈ GW := gw_at tin_4 125 rfl rfl
theorem tw_4_127 : (Cond.methodLink "SigntextLaw" 152 yX2_isPiece) ∈ GW := gw_at tin_4 127 rfl rfl
theorem tw_4_128 : (Cond.instanceMethod yX2_isPiece) ∈ GW := gw_at tin_4 128 rfl rfl
theorem tw_4_129 : (Cond.selects "Signtext" yX2_isPiece yX2_isPiece) ∈ GW := gw_at tin_4 129 rfl rfl
theorem tw_4_130 : (Cond.code yX2_isPiece cX2_isPiece 4 (some .boolean)) ∈ GW := gw_at tin_4 130 rfl rfl
theorem tw_4_131 : (Cond.methodLink "SigntextLaw" 301 yL_house) ∈ GW := gw_at tin_4 131 rfl rfl
theorem tw_4_132 : (Cond.static yL_house) ∈ GW := gw_at tin_4 132 rfl rfl
theorem tw_4_134 : (Cond.methodLink "SigntextLaw" 155 yX2_house) ∈ GW := gw_at tin_4 134 rfl rfl
theorem tw_4_135 : (Cond.classLink "SigntextLaw" 159 "SigntextModel") ∈ GW := gw_at tin_4 135 rfl rfl
theorem tw_4_136 : (Cond.instantiable "SigntextModel" 5) ∈ GW := gw_at tin_4 136 rfl rfl
theorem tw_4_137 : (Cond.methodLink "SigntextLaw" 161 yX4_init) ∈ GW := gw_at tin_4 137 rfl rfl
theorem tw_4_138 : (Cond.instanceMethod yX4_init) ∈ GW := gw_at tin_4 138 rfl rfl
theorem tw_4_139 : (Cond.code yX4_init cX4_init 1 (none : Option Jvm.ClassFile.FieldType)) ∈ GW := gw_at tin_4 139 rfl rfl
theorem tw_4_140 : (Cond.methodLink "SigntextModel" 67 ({ cls := "java/lang/Object", name := "<init>", desc := "()V" } : Jvm.MethodName)) ∈ GW := gw_at tin_4 140 rfl rfl
theorem tw_4_141 : (Cond.classLink "SigntextModel" 70 "[[I") ∈ GW := gw_at tin_4 141 rfl rfl
theorem tw_4_143 : (Cond.classLink "SigntextModel" 43 "java/util/ArrayList") ∈ GW := gw_at tin_4 143 rfl rfl
theorem tw_4_144 : (Cond.instantiable "java/util/ArrayList" 3) ∈ GW := gw_at tin_4 144 rfl rfl
theorem tw_4_145 : (Cond.methodLink "SigntextModel" 45 yJx4a65c_init_da8c8) ∈ GW := gw_at tin_4 145 rfl rfl
theorem tw_4_146 : (Cond.instanceMethod yJx4a65c_init_da8c8) ∈ GW := gw_at tin_4 146 rfl rfl
theorem tw_4_147 : (Cond.code yJx4a65c_init_da8c8 cJx4a65c_init_da8c8 1 (none : Option Jvm.ClassFile.FieldType)) ∈ GW := gw_at tin_4 147 rfl rfl
theorem tw_4_148 : (Cond.methodLink "java/util/ArrayList" 1 yJxc12de_init_da8c8) ∈ GW := gw_at tin_4 148 rfl rfl
theorem tw_4_149 : (Cond.instanceMethod yJxc12de_init_da8c8) ∈ GW := gw_at tin_4 149 rfl rfl
theorem tw_4_150 : (Cond.code yJxc12de_init_da8c8 cJxc12de_init_da8c8 1 (none : Option Jvm.ClassFile.FieldType)) ∈ GW := gw_at tin_4 150 rfl rfl
theorem tw_4_151 : (Cond.methodLink "java/util/AbstractList" 1 yJxa1e45_init_da8c8) ∈ GW := gw_at tin_4 151 rfl rfl
theorem tw_4_152 : (Cond.instanceMethod yJxa1e45_init_da8c8) ∈ GW := gw_at tin_4 152 rfl rfl
theorem tw_4_153 : (Cond.code yJxa1e45_init_da8c8 cJxa1e45_init_da8c8 1 (none : Option Jvm.ClassFile.FieldType)) ∈ GW := gw_at tin_4 153 rfl rfl
theorem tw_4_154 : (Cond.methodLink "java/util/AbstractCollection" 1 ({ cls := "java/lang/Object", name := "<init>", desc := "()V" } : Jvm.MethodName)) ∈ GW := gw_at tin_4 154 rfl rfl
theorem tw_4_155 : (Cond.fieldLink "java/util/ArrayList" 39 "java/util/ArrayList" "DEFAULTCAPACITY_EMPTY_ELEMENTDATA" "[Ljava/lang/Object;") ∈ GW := gw_at tin_4 155 rfl rfl
theorem tw_4_157 : (Cond.fieldLink "java/util/ArrayList" 9 "java/util/ArrayList" "elementData" "[Ljava/lang/Object;") ∈ GW := gw_at tin_4 157 rfl rfl
theorem tw_4_158 : (Cond.fieldLink "java/util/ArrayList$Itr" 37 "java/util/ArrayList" "elementData" "[Ljava/lang/Object;") ∈ GW := gw_at tin_4 158 rfl rfl
theorem tw_4_160 : (Cond.fieldLink "java/util/ArrayList" 48 "java/util/ArrayList" "size" "I") ∈ GW := gw_at tin_4 160 rfl rfl
theorem tw_4_161 : (Cond.fieldLink "java/util/AbstractList" 7 "java/util/AbstractList" "modCount" "I") ∈ GW := gw_at tin_4 161 rfl rfl
theorem tw_4_162 : (Cond.fieldLink "java/util/ArrayList$Itr" 17 "java/util/ArrayList" "modCount" "I") ∈ GW := gw_at tin_4 162 rfl rfl
theorem tw_4_163 : (Cond.sameField "java/util/ArrayList" "java/util/AbstractList" "modCount" "I") ∈ GW := gw_at tin_4 163 rfl rfl
theorem tw_4_164 : (Cond.fieldLink "java/util/ArrayList" 63 "java/util/ArrayList" "modCount" "I") ∈ GW := gw_at tin_4 164 rfl rfl
theorem tw_4_165 : (Cond.lays "java/util/ArrayList" "java/util/ArrayList" "elementData" "[Ljava/lang/Object;") ∈ GW := gw_at tin_4 165 rfl rfl
theorem tw_4_167 : (Cond.lays "java/util/ArrayList" "java/util/ArrayList" "size" "I") ∈ GW := gw_at tin_4 167 rfl rfl
theorem tw_4_169 : (Cond.lays "java/util/ArrayList" "java/util/AbstractList" "modCount" "I") ∈ GW := gw_at tin_4 169 rfl rfl
theorem tw_4_171 : (Cond.superclass "java/util/ArrayList" "java/util/AbstractList") ∈ GW := gw_at tin_4 171 rfl rfl
theorem tw_4_172 : (Cond.fieldLink "SigntextModel" 82 "SigntextModel" "thrown" "I") ∈ GW := gw_at tin_4 172 rfl rfl
theorem tw_4_173 : (Cond.fieldLink "SigntextModel" 72 "SigntextModel" "texts" "[[I") ∈ GW := gw_at tin_4 173 rfl rfl
theorem tw_4_174 : (Cond.fieldLink "SigntextModel" 75 "SigntextModel" "row" "[I") ∈ GW := gw_at tin_4 174 rfl rfl
theorem tw_4_175 : (Cond.fieldLink "SigntextModel" 78 "SigntextModel" "pieces" "Ljava/util/ArrayList;") ∈ GW := gw_at tin_4 175 rfl rfl
theorem tw_4_176 : (Cond.fieldLink "SigntextModel" 147 "SigntextModel" "knocks" "I") ∈ GW := gw_at tin_4 176 rfl rfl
theorem tw_4_177 : (Cond.lays "SigntextModel" "SigntextModel" "thrown" "I") ∈ GW := gw_at tin_4 177 rfl rfl
theorem tw_4_179 : (Cond.laysFinal "SigntextModel" "SigntextModel" "texts" "[[I") ∈ GW := gw_at tin_4 179 rfl rfl
theorem tw_4_181 : (Cond.lays "SigntextModel" "SigntextModel" "row" "[I") ∈ GW := gw_at tin_4 181 rfl rfl
theorem tw_4_183 : (Cond.lays "SigntextModel" "SigntextModel" "pieces" "Ljava/util/ArrayList;") ∈ GW := gw_at tin_4 183 rfl rfl
theorem tw_4_185 : (Cond.lays "SigntextModel" "SigntextModel" "knocks" "I") ∈ GW := gw_at tin_4 185 rfl rfl
theorem tw_4_187 : (Cond.superclass "SigntextModel" "java/lang/Object") ∈ GW := gw_at tin_4 187 rfl rfl
theorem tw_4_188 : (Cond.methodLink "SigntextLaw" 168 yX4_put) ∈ GW := gw_at tin_4 188 rfl rfl
theorem tw_4_189 : (Cond.instanceMethod yX4_put) ∈ GW := gw_at tin_4 189 rfl rfl
theorem tw_4_190 : (Cond.selects "SigntextModel" yX4_put yX4_put) ∈ GW := gw_at tin_4 190 rfl rfl
theorem tw_4_191 : (Cond.code yX4_put cX4_put 14 (some .int)) ∈ GW := gw_at tin_4 191 rfl rfl
theorem tw_4_192 : (Cond.methodLink "SigntextModel" 100 yX4_isNoSign) ∈ GW := gw_at tin_4 192 rfl rfl
theorem tw_4_193 : (Cond.static yX4_isNoSign) ∈ GW := gw_at tin_4 193 rfl rfl
theorem tw_4_194 : (Cond.code yX4_isNoSign cX4_isNoSign 1 (some .boolean)) ∈ GW := gw_at tin_4 194 rfl rfl
theorem tw_4_195 : (Cond.fieldLink "SigntextModel" 94 "SigntextModel" "CODES" "[I") ∈ GW := gw_at tin_4 195 rfl rfl
theorem tw_4_197 : (Cond.methodLink "SigntextModel" 90 yX4_isIn) ∈ GW := gw_at tin_4 197 rfl rfl
theorem tw_4_198 : (Cond.static yX4_isIn) ∈ GW := gw_at tin_4 198 rfl rfl
theorem tw_4_199 : (Cond.code yX4_isIn cX4_isIn 3 (some .boolean)) ∈ GW := gw_at tin_4 199 rfl rfl
theorem tw_4_200 : (Cond.methodLink "SigntextModel" 103 yX4_joined) ∈ GW := gw_at tin_4 200 rfl rfl
theorem tw_4_201 : (Cond.static yX4_joined) ∈ GW := gw_at tin_4 201 rfl rfl
theorem tw_4_202 : (Cond.code yX4_joined cX4_joined 4 (some (.array .int))) ∈ GW := gw_at tin_4 202 rfl rfl
theorem tw_4_203 : (Cond.methodLink "SigntextModel" 107 yX4_isNone) ∈ GW := gw_at tin_4 203 rfl rfl
theorem tw_4_204 : (Cond.static yX4_isNone) ∈ GW := gw_at tin_4 204 rfl rfl
theorem tw_4_205 : (Cond.code yX4_isNone cX4_isNone 1 (some .boolean)) ∈ GW := gw_at tin_4 205 rfl rfl
theorem tw_4_206 : (Cond.methodLink "SigntextModel" 110 yX4_start) ∈ GW := gw_at tin_4 206 rfl rfl
theorem tw_4_208 : (Cond.instanceMethod yX4_start) ∈ GW := gw_at tin_4 208 rfl rfl
theorem tw_4_209 : (Cond.code yX4_start cX4_start 3 (some .boolean)) ∈ GW := gw_at tin_4 209 rfl rfl
theorem tw_4_210 : (Cond.methodLink "SigntextModel" 86 yX4_refuse) ∈ GW := gw_at tin_4 210 rfl rfl
theorem tw_4_212 : (Cond.instanceMethod yX4_refuse) ∈ GW := gw_at tin_4 212 rfl rfl
theorem tw_4_213 : (Cond.code yX4_refuse cX4_refuse 3 (some .boolean)) ∈ GW := gw_at tin_4 213 rfl rfl
theorem tw_4_214 : (Cond.methodLink "SigntextModel" 113 yX4_become) ∈ GW := gw_at tin_4 214 rfl rfl
theorem tw_4_216 : (Cond.instanceMethod yX4_become) ∈ GW := gw_at tin_4 216 rfl rfl
theorem tw_4_217 : (Cond.code yX4_become cX4_become 3 (some .int)) ∈ GW := gw_at tin_4 217 rfl rfl
theorem tw_4_218 : (Cond.methodLink "SigntextLaw" 172 yX4_clear) ∈ GW := gw_at tin_4 218 rfl rfl
theorem tw_4_219 : (Cond.instanceMethod yX4_clear) ∈ GW := gw_at tin_4 219 rfl rfl
theorem tw_4_220 : (Cond.selects "SigntextModel" yX4_clear yX4_clear) ∈ GW := gw_at tin_4 220 rfl rfl
theorem tw_4_221 : (Cond.code yX4_clear cX4_clear 3 (some .int)) ∈ GW := gw_at tin_4 221 rfl rfl
theorem tw_4_222 : (Cond.methodLink "SigntextLaw" 176 yX4_copy) ∈ GW := gw_at tin_4 222 rfl rfl
theorem tw_4_223 : (Cond.instanceMethod yX4_copy) ∈ GW := gw_at tin_4 223 rfl rfl
theorem tw_4_224 : (Cond.selects "SigntextModel" yX4_copy yX4_copy) ∈ GW := gw_at tin_4 224 rfl rfl
theorem tw_4_225 : (Cond.code yX4_copy cX4_copy 3 (some .int)) ∈ GW := gw_at tin_4 225 rfl rfl
theorem tw_4_226 : (Cond.methodLink "SigntextModel" 31 yX4_cut) ∈ GW := gw_at tin_4 226 rfl rfl
theorem tw_4_227 : (Cond.static yX4_cut) ∈ GW := gw_at tin_4 227 rfl rfl
theorem tw_4_228 : (Cond.code yX4_cut cX4_cut 5 (some (.array .int))) ∈ GW := gw_at tin_4 228 rfl rfl
theorem tw_4_229 : (Cond.methodLink "SigntextLaw" 180 yX4_part) ∈ GW := gw_at tin_4 229 rfl rfl
theorem tw_4_230 : (Cond.instanceMethod yX4_part) ∈ GW := gw_at tin_4 230 rfl rfl
theorem tw_4_231 : (Cond.selects "SigntextModel" yX4_part yX4_part) ∈ GW := gw_at tin_4 231 rfl rfl
theorem tw_4_232 : (Cond.code yX4_part cX4_part 5 (some .int)) ∈ GW := gw_at tin_4 232 rfl rfl
theorem tw_4_233 : (Cond.methodLink "SigntextLaw" 184 yX4_tail) ∈ GW := gw_at tin_4 233 rfl rfl
theorem tw_4_234 : (Cond.instanceMethod yX4_tail) ∈ GW := gw_at tin_4 234 rfl rfl
theorem tw_4_235 : (Cond.selects "SigntextModel" yX4_tail yX4_tail) ∈ GW := gw_at tin_4 235 rfl rfl
theorem tw_4_236 : (Cond.code yX4_tail cX4_tail 4 (some .int)) ∈ GW := gw_at tin_4 236 rfl rfl
theorem tw_4_237 : (Cond.methodLink "SigntextLaw" 187 yX4_join) ∈ GW := gw_at tin_4 237 rfl rfl
theorem tw_4_238 : (Cond.instanceMethod yX4_join) ∈ GW := gw_at tin_4 238 rfl rfl
theorem tw_4_239 : (Cond.selects "SigntextModel" yX4_join yX4_join) ∈ GW := gw_at tin_4 239 rfl rfl
theorem tw_5_0 : (Cond.code yX4_join cX4_join 4 (some .int)) ∈ GW := gw_at tin_5 0 rfl rfl
theorem tw_5_1 : (Cond.methodLink "SigntextLaw" 190 yX4_times) ∈ GW := gw_at tin_5 1 rfl rfl
theorem tw_5_2 : (Cond.instanceMethod yX4_times) ∈ GW := gw_at tin_5 2 rfl rfl
theorem tw_5_3 : (Cond.selects "SigntextModel" yX4_times yX4_times) ∈ GW := gw_at tin_5 3 rfl rfl
theorem tw_5_4 : (Cond.code yX4_times cX4_times 6 (some .int)) ∈ GW := gw_at tin_5 4 rfl rfl
theorem tw_5_5 : (Cond.methodLink "SigntextLaw" 194 yX4_trim) ∈ GW := gw_at tin_5 5 rfl rfl
theorem tw_5_6 : (Cond.instanceMethod yX4_trim) ∈ GW := gw_at tin_5 6 rfl rfl
theorem tw_5_7 : (Cond.selects "SigntextModel" yX4_trim yX4_trim) ∈ GW := gw_at tin_5 7 rfl rfl
theorem tw_5_8 : (Cond.code yX4_trim cX4_trim 4 (some .int)) ∈ GW := gw_at tin_5 8 rfl rfl
theorem tw_5_9 : (Cond.methodLink "SigntextModel" 117 yX4_trimmed) ∈ GW := gw_at tin_5 9 rfl rfl
theorem tw_5_10 : (Cond.static yX4_trimmed) ∈ GW := gw_at tin_5 10 rfl rfl
theorem tw_5_11 : (Cond.code yX4_trimmed cX4_trimmed 4 (some (.array .int))) ∈ GW := gw_at tin_5 11 rfl rfl
theorem tw_5_12 : (Cond.methodLink "SigntextModel" 27 yX4_goes) ∈ GW := gw_at tin_5 12 rfl rfl
theorem tw_5_13 : (Cond.static yX4_goes) ∈ GW := gw_at tin_5 13 rfl rfl
theorem tw_5_14 : (Cond.code yX4_goes cX4_goes 2 (some .boolean)) ∈ GW := gw_at tin_5 14 rfl rfl
theorem tw_5_15 : (Cond.methodLink "SigntextModel" 23 yX4_isWhite) ∈ GW := gw_at tin_5 15 rfl rfl
theorem tw_5_16 : (Cond.static yX4_isWhite) ∈ GW := gw_at tin_5 16 rfl rfl
theorem tw_5_17 : (Cond.code yX4_isWhite cX4_isWhite 1 (some .boolean)) ∈ GW := gw_at tin_5 17 rfl rfl
theorem tw_5_18 : (Cond.methodLink "SigntextLaw" 198 yX4_number) ∈ GW := gw_at tin_5 18 rfl rfl
theorem tw_5_19 : (Cond.instanceMethod yX4_number) ∈ GW := gw_at tin_5 19 rfl rfl
theorem tw_5_20 : (Cond.selects "SigntextModel" yX4_number yX4_number) ∈ GW := gw_at tin_5 20 rfl rfl
theorem tw_5_21 : (Cond.code yX4_number cX4_number 4 (some .int)) ∈ GW := gw_at tin_5 21 rfl rfl
theorem tw_5_22 : (Cond.methodLink "SigntextModel" 121 yX4_digits) ∈ GW := gw_at tin_5 22 rfl rfl
theorem tw_5_23 : (Cond.static yX4_digits) ∈ GW := gw_at tin_5 23 rfl rfl
theorem tw_5_24 : (Cond.code yX4_digits cX4_digits 8 (some (.array .int))) ∈ GW := gw_at tin_5 24 rfl rfl
theorem tw_5_25 : (Cond.constantLong "SigntextModel" 15 (10 : Int64)) ∈ GW := gw_at tin_5 25 rfl rfl
theorem tw_5_26 : (Cond.methodLink "SigntextModel" 17 yX4_one) ∈ GW := gw_at tin_5 26 rfl rfl
theorem tw_5_27 : (Cond.static yX4_one) ∈ GW := gw_at tin_5 27 rfl rfl
theorem tw_5_28 : (Cond.code yX4_one cX4_one 1 (some .int)) ∈ GW := gw_at tin_5 28 rfl rfl
theorem tw_5_29 : (Cond.methodLink "SigntextModel" 125 yX4_beside) ∈ GW := gw_at tin_5 29 rfl rfl
theorem tw_5_31 : (Cond.instanceMethod yX4_beside) ∈ GW := gw_at tin_5 31 rfl rfl
theorem tw_5_32 : (Cond.code yX4_beside cX4_beside 4 (some .int)) ∈ GW := gw_at tin_5 32 rfl rfl
theorem tw_5_33 : (Cond.methodLink "SigntextLaw" 201 yX4_great) ∈ GW := gw_at tin_5 33 rfl rfl
theorem tw_5_34 : (Cond.instanceMethod yX4_great) ∈ GW := gw_at tin_5 34 rfl rfl
theorem tw_5_35 : (Cond.selects "SigntextModel" yX4_great yX4_great) ∈ GW := gw_at tin_5 35 rfl rfl
theorem tw_5_36 : (Cond.code yX4_great cX4_great 4 (some .int)) ∈ GW := gw_at tin_5 36 rfl rfl
theorem tw_5_37 : (Cond.constantLong "SigntextModel" 129 (4294967295 : Int64)) ∈ GW := gw_at tin_5 37 rfl rfl
theorem tw_5_38 : (Cond.methodLink "SigntextLaw" 205 yX4_truth_) ∈ GW := gw_at tin_5 38 rfl rfl
theorem tw_5_39 : (Cond.instanceMethod yX4_truth_) ∈ GW := gw_at tin_5 39 rfl rfl
theorem tw_5_40 : (Cond.selects "SigntextModel" yX4_truth_ yX4_truth_) ∈ GW := gw_at tin_5 40 rfl rfl
theorem tw_5_41 : (Cond.code yX4_truth_ cX4_truth_ 4 (some .int)) ∈ GW := gw_at tin_5 41 rfl rfl
theorem tw_5_42 : (Cond.methodLink "SigntextModel" 131 yX4_truth) ∈ GW := gw_at tin_5 42 rfl rfl
theorem tw_5_43 : (Cond.static yX4_truth) ∈ GW := gw_at tin_5 43 rfl rfl
theorem tw_5_44 : (Cond.code yX4_truth cX4_truth 1 (some (.array .int))) ∈ GW := gw_at tin_5 44 rfl rfl
theorem tw_5_45 : (Cond.methodLink "SigntextLaw" 208 yX4_ahead) ∈ GW := gw_at tin_5 45 rfl rfl
theorem tw_5_46 : (Cond.instanceMethod yX4_ahead) ∈ GW := gw_at tin_5 46 rfl rfl
theorem tw_5_47 : (Cond.selects "SigntextModel" yX4_ahead yX4_ahead) ∈ GW := gw_at tin_5 47 rfl rfl
theorem tw_5_48 : (Cond.code yX4_ahead cX4_ahead 3 (some .int)) ∈ GW := gw_at tin_5 48 rfl rfl
theorem tw_5_49 : (Cond.methodLink "SigntextLaw" 211 yX4_known) ∈ GW := gw_at tin_5 49 rfl rfl
theorem tw_5_50 : (Cond.instanceMethod yX4_known) ∈ GW := gw_at tin_5 50 rfl rfl
theorem tw_5_51 : (Cond.selects "SigntextModel" yX4_known yX4_known) ∈ GW := gw_at tin_5 51 rfl rfl
theorem tw_5_52 : (Cond.code yX4_known cX4_known 3 (some .int)) ∈ GW := gw_at tin_5 52 rfl rfl
theorem tw_5_53 : (Cond.methodLink "SigntextModel" 135 yX4_isNoKnown) ∈ GW := gw_at tin_5 53 rfl rfl
theorem tw_5_54 : (Cond.static yX4_isNoKnown) ∈ GW := gw_at tin_5 54 rfl rfl
theorem tw_5_55 : (Cond.code yX4_isNoKnown cX4_isNoKnown 1 (some .boolean)) ∈ GW := gw_at tin_5 55 rfl rfl
theorem tw_5_56 : (Cond.fieldLink "SigntextModel" 97 "SigntextModel" "KNOWN" "[[I") ∈ GW := gw_at tin_5 56 rfl rfl
theorem tw_5_58 : (Cond.methodLink "SigntextLaw" 214 yX4_lay) ∈ GW := gw_at tin_5 58 rfl rfl
theorem tw_5_59 : (Cond.instanceMethod yX4_lay) ∈ GW := gw_at tin_5 59 rfl rfl
theorem tw_5_60 : (Cond.selects "SigntextModel" yX4_lay yX4_lay) ∈ GW := gw_at tin_5 60 rfl rfl
theorem tw_5_61 : (Cond.code yX4_lay cX4_lay 2 (some .int)) ∈ GW := gw_at tin_5 61 rfl rfl
theorem tw_5_62 : (Cond.methodLink "SigntextLaw" 217 yX4_set) ∈ GW := gw_at tin_5 62 rfl rfl
theorem tw_5_63 : (Cond.instanceMethod yX4_set) ∈ GW := gw_at tin_5 63 rfl rfl
theorem tw_5_64 : (Cond.selects "SigntextModel" yX4_set yX4_set) ∈ GW := gw_at tin_5 64 rfl rfl
theorem tw_5_65 : (Cond.code yX4_set cX4_set 4 (some .int)) ∈ GW := gw_at tin_5 65 rfl rfl
theorem tw_5_66 : (Cond.methodLink "SigntextModel" 138 yX4_isNoPlace) ∈ GW := gw_at tin_5 66 rfl rfl
theorem tw_5_68 : (Cond.instanceMethod yX4_isNoPlace) ∈ GW := gw_at tin_5 68 rfl rfl
theorem tw_5_69 : (Cond.code yX4_isNoPlace cX4_isNoPlace 2 (some .boolean)) ∈ GW := gw_at tin_5 69 rfl rfl
theorem tw_5_70 : (Cond.methodLink "SigntextLaw" 220 yX4_take) ∈ GW := gw_at tin_5 70 rfl rfl
theorem tw_5_71 : (Cond.instanceMethod yX4_take) ∈ GW := gw_at tin_5 71 rfl rfl
theorem tw_5_72 : (Cond.selects "SigntextModel" yX4_take yX4_take) ∈ GW := gw_at tin_5 72 rfl rfl
theorem tw_5_73 : (Cond.code yX4_take cX4_take 2 (some .int)) ∈ GW := gw_at tin_5 73 rfl rfl
theorem tw_5_74 : (Cond.methodLink "SigntextLaw" 223 yX4_takePart) ∈ GW := gw_at tin_5 74 rfl rfl
theorem tw_5_75 : (Cond.instanceMethod yX4_takePart) ∈ GW := gw_at tin_5 75 rfl rfl
theorem tw_5_76 : (Cond.selects "SigntextModel" yX4_takePart yX4_takePart) ∈ GW := gw_at tin_5 76 rfl rfl
theorem tw_5_77 : (Cond.code yX4_takePart cX4_takePart 4 (some .int)) ∈ GW := gw_at tin_5 77 rfl rfl
theorem tw_5_78 : (Cond.methodLink "SigntextLaw" 226 yX4_cut_) ∈ GW := gw_at tin_5 78 rfl rfl
theorem tw_5_79 : (Cond.instanceMethod yX4_cut_) ∈ GW := gw_at tin_5 79 rfl rfl
theorem tw_5_80 : (Cond.selects "SigntextModel" yX4_cut_ yX4_cut_) ∈ GW := gw_at tin_5 80 rfl rfl
theorem tw_5_81 : (Cond.code yX4_cut_ cX4_cut_ 2 (some .int)) ∈ GW := gw_at tin_5 81 rfl rfl
theorem tw_5_82 : (Cond.methodLink "SigntextModel" 141 yX4_pieces) ∈ GW := gw_at tin_5 82 rfl rfl
theorem tw_5_83 : (Cond.static yX4_pieces) ∈ GW := gw_at tin_5 83 rfl rfl
theorem tw_5_84 : (Cond.code yX4_pieces cX4_pieces 5 (some (.object "java/util/ArrayList"))) ∈ GW := gw_at tin_5 84 rfl rfl
theorem tw_5_85 : (Cond.methodLink "SigntextModel" 46 yJx4a65c_add_9ea2d) ∈ GW := gw_at tin_5 85 rfl rfl
theorem tw_5_86 : (Cond.instanceMethod yJx4a65c_add_9ea2d) ∈ GW := gw_at tin_5 86 rfl rfl
theorem tw_5_87 : (Cond.selects "java/util/ArrayList" yJx4a65c_add_9ea2d yJx4a65c_add_9ea2d) ∈ GW := gw_at tin_5 87 rfl rfl
theorem tw_5_88 : (Cond.code yJx4a65c_add_9ea2d cJx4a65c_add_9ea2d 2 (some .boolean)) ∈ GW := gw_at tin_5 88 rfl rfl
theorem tw_5_89 : (Cond.methodLink "java/util/ArrayList" 131 yJx4a65c_add_72be8) ∈ GW := gw_at tin_5 89 rfl rfl
theorem tw_5_91 : (Cond.instanceMethod yJx4a65c_add_72be8) ∈ GW := gw_at tin_5 91 rfl rfl
theorem tw_5_92 : (Cond.code yJx4a65c_add_72be8 cJx4a65c_add_72be8 4 (none : Option Jvm.ClassFile.FieldType)) ∈ GW := gw_at tin_5 92 rfl rfl
theorem tw_5_93 : (Cond.methodLink "java/util/ArrayList" 129 yJx4a65c_grow_d5877) ∈ GW := gw_at tin_5 93 rfl rfl
theorem tw_5_95 : (Cond.instanceMethod yJx4a65c_grow_d5877) ∈ GW := gw_at tin_5 95 rfl rfl
theorem tw_5_96 : (Cond.code yJx4a65c_grow_d5877 cJx4a65c_grow_d5877 1 (some (.array (.object "java/lang/Object")))) ∈ GW := gw_at tin_5 96 rfl rfl
theorem tw_5_97 : (Cond.methodLink "java/util/ArrayList" 69 yJx4a65c_grow_92f84) ∈ GW := gw_at tin_5 97 rfl rfl
theorem tw_5_99 : (Cond.instanceMethod yJx4a65c_grow_92f84) ∈ GW := gw_at tin_5 99 rfl rfl
theorem tw_5_100 : (Cond.code yJx4a65c_grow_92f84 cJx4a65c_grow_92f84 4 (some (.array (.object "java/lang/Object")))) ∈ GW := gw_at tin_5 100 rfl rfl
theorem tw_5_101 : (Cond.methodLink "java/util/ArrayList" 73 yJ8_newLength_cabcc) ∈ GW := gw_at tin_5 101 rfl rfl
theorem tw_5_102 : (Cond.static yJ8_newLength_cabcc) ∈ GW := gw_at tin_5 102 rfl rfl
theorem tw_5_103 : (Cond.code yJ8_newLength_cabcc cJ8_newLength_cabcc 4 (some .int)) ∈ GW := gw_at tin_5 103 rfl rfl
theorem tw_5_104 : (Cond.methodLink "jdk/internal/util/ArraysSupport" 194 yJ9_max_7cf53) ∈ GW := gw_at tin_5 104 rfl rfl
theorem tw_5_105 : (Cond.static yJ9_max_7cf53) ∈ GW := gw_at tin_5 105 rfl rfl
theorem tw_5_106 : (Cond.code yJ9_max_7cf53 cJ9_max_7cf53 2 (some .int)) ∈ GW := gw_at tin_5 106 rfl rfl
theorem tw_5_107 : (Cond.constant "jdk/internal/util/ArraysSupport" 200 (2147483639 : Int32)) ∈ GW := gw_at tin_5 107 rfl rfl
theorem tw_5_108 : (Cond.methodLink "jdk/internal/util/ArraysSupport" 201 yJ8_hugeLength_7cf53) ∈ GW := gw_at tin_5 108 rfl rfl
theorem tw_5_109 : (Cond.static yJ8_hugeLength_7cf53) ∈ GW := gw_at tin_5 109 rfl rfl
theorem tw_5_110 : (Cond.code yJ8_hugeLength_7cf53 cJ8_hugeLength_7cf53 3 (some .int)) ∈ GW := gw_at tin_5 110 rfl rfl
theorem tw_5_111 : (Cond.methodLink "java/util/ArrayList" 66 yJ7_copyOf_1904c) ∈ GW := gw_at tin_5 111 rfl rfl
theorem tw_5_112 : (Cond.static yJ7_copyOf_1904c) ∈ GW := gw_at tin_5 112 rfl rfl
theorem tw_5_113 : (Cond.code yJ7_copyOf_1904c cJ7_copyOf_1904c 2 (some (.array (.object "java/lang/Object")))) ∈ GW := gw_at tin_5 113 rfl rfl
theorem tw_5_114 : (Cond.methodLink "java/util/Arrays" 86 ({ cls := "java/lang/Object", name := "getClass", desc := "()Ljava/lang/Class;" } : Jvm.MethodName)) ∈ GW := gw_at tin_5 114 rfl rfl
theorem tw_5_115 : (Cond.instanceMethod ({ cls := "java/lang/Object", name := "getClass", desc := "()Ljava/lang/Class;" } : Jvm.MethodName)) ∈ GW := gw_at tin_5 115 rfl rfl
theorem tw_5_116 : (Cond.sameMethod "java/lang/Object" "java/lang/Object" "getClass" "()Ljava/lang/Class;") ∈ GW := gw_at tin_5 116 rfl rfl
theorem tw_5_117 : (Cond.selects "Signtext" ({ cls := "java/lang/Object", name := "getClass", desc := "()Ljava/lang/Class;" } : Jvm.MethodName) ({ cls := "java/lang/Object", name := "getClass", desc := "()Ljava/lang/Class;" } : Jvm.MethodName)) ∈ GW := gw_at tin_5 117 rfl rfl
theorem tw_5_118 : (Cond.selects "Signtext$Line" ({ cls := "java/lang/Object", name := "getClass", desc := "()Ljava/lang/Class;" } : Jvm.MethodName) ({ cls := "java/lang/Object", name := "getClass", desc := "()Ljava/lang/Class;" } : Jvm.MethodName)) ∈ GW := gw_at tin_5 118 rfl rfl
theorem tw_5_119 : (Cond.selects "Signtext$Pieces" ({ cls := "java/lang/Object", name := "getClass", desc := "()Ljava/lang/Class;" } : Jvm.MethodName) ({ cls := "java/lang/Object", name := "getClass", desc := "()Ljava/lang/Class;" } : Jvm.MethodName)) ∈ GW := gw_at tin_5 119 rfl rfl
theorem tw_5_120 : (Cond.selects "SigntextLaw$Out" ({ cls := "java/lang/Object", name := "getClass", desc := "()Ljava/lang/Class;" } : Jvm.MethodName) ({ cls := "java/lang/Object", name := "getClass", desc := "()Ljava/lang/Class;" } : Jvm.MethodName)) ∈ GW := gw_at tin_5 120 rfl rfl
theorem tw_5_121 : (Cond.selects "SigntextModel" ({ cls := "java/lang/Object", name := "getClass", desc := "()Ljava/lang/Class;" } : Jvm.MethodName) ({ cls := "java/lang/Object", name := "getClass", desc := "()Ljava/lang/Class;" } : Jvm.MethodName)) ∈ GW := gw_at tin_5 121 rfl rfl
theorem tw_5_122 : (Cond.selects "java/lang/IllegalArgumentException" ({ cls := "java/lang/Object", name := "getClass", desc := "()Ljava/lang/Class;" } : Jvm.MethodName) ({ cls := "java/lang/Object", name := "getClass", desc := "()Ljava/lang/Class;" } : Jvm.MethodName)) ∈ GW := gw_at tin_5 122 rfl rfl
theorem tw_5_123 : (Cond.selects "java/lang/IllegalStateException" ({ cls := "java/lang/Object", name := "getClass", desc := "()Ljava/lang/Class;" } : Jvm.MethodName) ({ cls := "java/lang/Object", name := "getClass", desc := "()Ljava/lang/Class;" } : Jvm.MethodName)) ∈ GW := gw_at tin_5 123 rfl rfl
theorem tw_5_124 : (Cond.selects "java/lang/IndexOutOfBoundsException" ({ cls := "java/lang/Object", name := "getClass", desc := "()Ljava/lang/Class;" } : Jvm.MethodName) ({ cls := "java/lang/Object", name := "getClass", desc := "()Ljava/lang/Class;" } : Jvm.MethodName)) ∈ GW := gw_at tin_5 124 rfl rfl
theorem tw_5_125 : (Cond.selects "java/lang/String" ({ cls := "java/lang/Object", name := "getClass", desc := "()Ljava/lang/Class;" } : Jvm.MethodName) ({ cls := "java/lang/Object", name := "getClass", desc := "()Ljava/lang/Class;" } : Jvm.MethodName)) ∈ GW := gw_at tin_5 125 rfl rfl
theorem tw_5_126 : (Cond.selects "java/lang/StringBuilder" ({ cls := "java/lang/Object", name := "getClass", desc := "()Ljava/lang/Class;" } : Jvm.MethodName) ({ cls := "java/lang/Object", name := "getClass", desc := "()Ljava/lang/Class;" } : Jvm.MethodName)) ∈ GW := gw_at tin_5 126 rfl rfl
theorem tw_5_127 : (Cond.selects "java/util/ArrayList" ({ cls := "java/lang/Object", name := "getClass", desc := "()Ljava/lang/Class;" } : Jvm.MethodName) ({ cls := "java/lang/Object", name := "getClass", desc := "()Ljava/lang/Class;" } : Jvm.MethodName)) ∈ GW := gw_at tin_5 127 rfl rfl
theorem tw_5_128 : (Cond.selects "java/util/ArrayList$Itr" ({ cls := "java/lang/Object", name := "getClass", desc := "()Ljava/lang/Class;" } : Jvm.MethodName) ({ cls := "java/lang/Object", name := "getClass", desc := "()Ljava/lang/Class;" } : Jvm.MethodName)) ∈ GW := gw_at tin_5 128 rfl rfl
theorem tw_5_130 : (Cond.methodLink "java/util/Arrays" 300 yJ7_copyOf_6403c) ∈ GW := gw_at tin_5 130 rfl rfl
theorem tw_5_131 : (Cond.static yJ7_copyOf_6403c) ∈ GW := gw_at tin_5 131 rfl rfl
theorem tw_5_132 : (Cond.code yJ7_copyOf_6403c cJ7_copyOf_6403c 4 (some (.array (.object "java/lang/Object")))) ∈ GW := gw_at tin_5 132 rfl rfl
theorem tw_5_133 : (Cond.classLink "java/util/Arrays" 110 "[Ljava/lang/Object;") ∈ GW := gw_at tin_5 133 rfl rfl
theorem tw_5_135 : (Cond.classLink "java/util/Arrays" 2 "java/lang/Object") ∈ GW := gw_at tin_5 135 rfl rfl
theorem tw_5_136 : (Cond.methodLink "java/util/Arrays" 304 yJ9_min_7cf53) ∈ GW := gw_at tin_5 136 rfl rfl
theorem tw_5_137 : (Cond.static yJ9_min_7cf53) ∈ GW := gw_at tin_5 137 rfl rfl
theorem tw_5_138 : (Cond.code yJ9_min_7cf53 cJ9_min_7cf53 2 (some .int)) ∈ GW := gw_at tin_5 138 rfl rfl
theorem tw_5_139 : (Cond.methodLink "java/util/Arrays" 150 ({ cls := "java/lang/System", name := "arraycopy", desc := "(Ljava/lang/Object;ILjava/lang/Object;II)V" } : Jvm.MethodName)) ∈ GW := gw_at tin_5 139 rfl rfl
theorem tw_5_140 : (Cond.static ({ cls := "java/lang/System", name := "arraycopy", desc := "(Ljava/lang/Object;ILjava/lang/Object;II)V" } : Jvm.MethodName)) ∈ GW := gw_at tin_5 140 rfl rfl
theorem tw_5_142 : (Cond.methodLink "java/util/ArrayList" 79 yJ9_max_7cf53) ∈ GW := gw_at tin_5 142 rfl rfl
theorem tw_5_143 : (Cond.classLink "java/util/ArrayList" 7 "java/lang/Object") ∈ GW := gw_at tin_5 143 rfl rfl
theorem tw_5_144 : (Cond.methodLink "SigntextModel" 50 yJx4a65c_isEmpty_aae02) ∈ GW := gw_at tin_5 144 rfl rfl
theorem tw_5_145 : (Cond.instanceMethod yJx4a65c_isEmpty_aae02) ∈ GW := gw_at tin_5 145 rfl rfl
theorem tw_5_146 : (Cond.selects "java/util/ArrayList" yJx4a65c_isEmpty_aae02 yJx4a65c_isEmpty_aae02) ∈ GW := gw_at tin_5 146 rfl rfl
theorem tw_5_147 : (Cond.code yJx4a65c_isEmpty_aae02 cJx4a65c_isEmpty_aae02 1 (some .boolean)) ∈ GW := gw_at tin_5 147 rfl rfl
theorem tw_5_148 : (Cond.methodLink "SigntextModel" 54 yJx4a65c_size_8abf5) ∈ GW := gw_at tin_5 148 rfl rfl
theorem tw_5_149 : (Cond.instanceMethod yJx4a65c_size_8abf5) ∈ GW := gw_at tin_5 149 rfl rfl
theorem tw_5_150 : (Cond.selects "java/util/ArrayList" yJx4a65c_size_8abf5 yJx4a65c_size_8abf5) ∈ GW := gw_at tin_5 150 rfl rfl
theorem tw_5_151 : (Cond.code yJx4a65c_size_8abf5 cJx4a65c_size_8abf5 1 (some .int)) ∈ GW := gw_at tin_5 151 rfl rfl
theorem tw_5_152 : (Cond.methodLink "SigntextModel" 58 yJx4a65c_get_915e3) ∈ GW := gw_at tin_5 152 rfl rfl
theorem tw_5_153 : (Cond.instanceMethod yJx4a65c_get_915e3) ∈ GW := gw_at tin_5 153 rfl rfl
theorem tw_5_154 : (Cond.selects "java/util/ArrayList" yJx4a65c_get_915e3 yJx4a65c_get_915e3) ∈ GW := gw_at tin_5 154 rfl rfl
theorem tw_5_155 : (Cond.code yJx4a65c_get_915e3 cJx4a65c_get_915e3 2 (some (.object "java/lang/Object"))) ∈ GW := gw_at tin_5 155 rfl rfl
theorem tw_5_156 : (Cond.methodLink "java/util/ArrayList" 118 yJ15_checkIndex_7cf53) ∈ GW := gw_at tin_5 156 rfl rfl
theorem tw_5_157 : (Cond.static yJ15_checkIndex_7cf53) ∈ GW := gw_at tin_5 157 rfl rfl
theorem tw_5_158 : (Cond.code yJ15_checkIndex_7cf53 cJ15_checkIndex_7cf53 2 (some .int)) ∈ GW := gw_at tin_5 158 rfl rfl
theorem tw_5_159 : (Cond.methodLink "java/util/Objects" 105 yJ3_checkIndex_8e157) ∈ GW := gw_at tin_5 159 rfl rfl
theorem tw_5_160 : (Cond.methodLink "java/util/ArrayList" 123 yJx4a65c_elementData_915e3) ∈ GW := gw_at tin_5 160 rfl rfl
theorem tw_5_161 : (Cond.instanceMethod yJx4a65c_elementData_915e3) ∈ GW := gw_at tin_5 161 rfl rfl
theorem tw_5_162 : (Cond.selects "java/util/ArrayList" yJx4a65c_elementData_915e3 yJx4a65c_elementData_915e3) ∈ GW := gw_at tin_5 162 rfl rfl
theorem tw_5_163 : (Cond.code yJx4a65c_elementData_915e3 cJx4a65c_elementData_915e3 2 (some (.object "java/lang/Object"))) ∈ GW := gw_at tin_5 163 rfl rfl
theorem tw_5_164 : (Cond.classLink "SigntextModel" 62 "[I") ∈ GW := gw_at tin_5 164 rfl rfl
theorem tw_5_165 : (Cond.methodLink "SigntextModel" 64 yJx4a65c_remove_915e3) ∈ GW := gw_at tin_5 165 rfl rfl
theorem tw_5_166 : (Cond.instanceMethod yJx4a65c_remove_915e3) ∈ GW := gw_at tin_5 166 rfl rfl
theorem tw_5_167 : (Cond.selects "java/util/ArrayList" yJx4a65c_remove_915e3 yJx4a65c_remove_915e3) ∈ GW := gw_at tin_5 167 rfl rfl
theorem tw_5_168 : (Cond.code yJx4a65c_remove_915e3 cJx4a65c_remove_915e3 4 (some (.object "java/lang/Object"))) ∈ GW := gw_at tin_5 168 rfl rfl
theorem tw_5_169 : (Cond.methodLink "java/util/ArrayList" 144 yJx4a65c_fastRemove_b59b0) ∈ GW := gw_at tin_5 169 rfl rfl
theorem tw_5_171 : (Cond.instanceMethod yJx4a65c_fastRemove_b59b0) ∈ GW := gw_at tin_5 171 rfl rfl
theorem tw_5_172 : (Cond.code yJx4a65c_fastRemove_b59b0 cJx4a65c_fastRemove_b59b0 4 (none : Option Jvm.ClassFile.FieldType)) ∈ GW := gw_at tin_5 172 rfl rfl
theorem tw_5_173 : (Cond.methodLink "java/util/ArrayList" 112 ({ cls := "java/lang/System", name := "arraycopy", desc := "(Ljava/lang/Object;ILjava/lang/Object;II)V" } : Jvm.MethodName)) ∈ GW := gw_at tin_5 173 rfl rfl
theorem tw_5_174 : (Cond.methodLink "SigntextLaw" 229 yX4_takePiece) ∈ GW := gw_at tin_5 174 rfl rfl
theorem tw_5_175 : (Cond.instanceMethod yX4_takePiece) ∈ GW := gw_at tin_5 175 rfl rfl
theorem tw_5_176 : (Cond.selects "SigntextModel" yX4_takePiece yX4_takePiece) ∈ GW := gw_at tin_5 176 rfl rfl
theorem tw_5_177 : (Cond.code yX4_takePiece cX4_takePiece 3 (some .int)) ∈ GW := gw_at tin_5 177 rfl rfl
theorem tw_5_178 : (Cond.methodLink "SigntextModel" 144 yX4_isNoPiece) ∈ GW := gw_at tin_5 178 rfl rfl
theorem tw_5_180 : (Cond.instanceMethod yX4_isNoPiece) ∈ GW := gw_at tin_5 180 rfl rfl
theorem tw_5_181 : (Cond.code yX4_isNoPiece cX4_isNoPiece 2 (some .boolean)) ∈ GW := gw_at tin_5 181 rfl rfl
theorem tw_5_182 : (Cond.methodLink "SigntextLaw" 234 yX4_knock) ∈ GW := gw_at tin_5 182 rfl rfl
theorem tw_5_183 : (Cond.instanceMethod yX4_knock) ∈ GW := gw_at tin_5 183 rfl rfl
theorem tw_5_184 : (Cond.selects "SigntextModel" yX4_knock yX4_knock) ∈ GW := gw_at tin_5 184 rfl rfl
theorem tw_5_185 : (Cond.code yX4_knock cX4_knock 1 (some .int)) ∈ GW := gw_at tin_5 185 rfl rfl
theorem tw_5_186 : (Cond.methodLink "SigntextLaw" 237 yX4_text) ∈ GW := gw_at tin_5 186 rfl rfl
theorem tw_5_187 : (Cond.instanceMethod yX4_text) ∈ GW := gw_at tin_5 187 rfl rfl
theorem tw_5_188 : (Cond.selects "SigntextModel" yX4_text yX4_text) ∈ GW := gw_at tin_5 188 rfl rfl
theorem tw_5_189 : (Cond.code yX4_text cX4_text 2 (some (.object "java/lang/String"))) ∈ GW := gw_at tin_5 189 rfl rfl
theorem tw_5_191 : (Cond.methodLink "SigntextModel" 152 yX4_told) ∈ GW := gw_at tin_5 191 rfl rfl
theorem tw_5_192 : (Cond.static yX4_told) ∈ GW := gw_at tin_5 192 rfl rfl
theorem tw_5_193 : (Cond.code yX4_told cX4_told 6 (some (.object "java/lang/String"))) ∈ GW := gw_at tin_5 193 rfl rfl
theorem tw_5_194 : (Cond.classLink "SigntextModel" 1 "java/lang/StringBuilder") ∈ GW := gw_at tin_5 194 rfl rfl
theorem tw_5_195 : (Cond.instantiable "java/lang/StringBuilder" 4) ∈ GW := gw_at tin_5 195 rfl rfl
theorem tw_5_196 : (Cond.methodLink "SigntextModel" 3 yJ4_init_da8c8) ∈ GW := gw_at tin_5 196 rfl rfl
theorem tw_5_197 : (Cond.instanceMethod yJ4_init_da8c8) ∈ GW := gw_at tin_5 197 rfl rfl
theorem tw_5_198 : (Cond.code yJ4_init_da8c8 cJ4_init_da8c8 1 (none : Option Jvm.ClassFile.FieldType)) ∈ GW := gw_at tin_5 198 rfl rfl
theorem tw_5_199 : (Cond.methodLink "java/lang/StringBuilder" 1 yJ5_init_d00df) ∈ GW := gw_at tin_5 199 rfl rfl
theorem tw_5_200 : (Cond.instanceMethod yJ5_init_d00df) ∈ GW := gw_at tin_5 200 rfl rfl
theorem tw_5_201 : (Cond.code yJ5_init_d00df cJ5_init_d00df 2 (none : Option Jvm.ClassFile.FieldType)) ∈ GW := gw_at tin_5 201 rfl rfl
theorem tw_5_202 : (Cond.methodLink "java/lang/AbstractStringBuilder" 3 ({ cls := "java/lang/Object", name := "<init>", desc := "()V" } : Jvm.MethodName)) ∈ GW := gw_at tin_5 202 rfl rfl
theorem tw_5_203 : (Cond.fieldLink "java/lang/AbstractStringBuilder" 18 "java/lang/String" "COMPACT_STRINGS" "Z") ∈ GW := gw_at tin_5 203 rfl rfl
theorem tw_5_204 : (Cond.methodLink "java/lang/AbstractStringBuilder" 26 yJ2_newBytesFor_77867) ∈ GW := gw_at tin_5 204 rfl rfl
theorem tw_5_205 : (Cond.fieldLink "java/lang/AbstractStringBuilder" 15 "java/lang/AbstractStringBuilder" "value" "[B") ∈ GW := gw_at tin_5 205 rfl rfl
theorem tw_5_206 : (Cond.fieldLink "java/lang/AbstractStringBuilder" 22 "java/lang/AbstractStringBuilder" "coder" "B") ∈ GW := gw_at tin_5 206 rfl rfl
theorem tw_5_207 : (Cond.fieldLink "java/lang/String" 1048 "java/lang/AbstractStringBuilder" "maybeLatin1" "Z") ∈ GW := gw_at tin_5 207 rfl rfl
theorem tw_5_208 : (Cond.fieldLink "java/lang/AbstractStringBuilder" 79 "java/lang/AbstractStringBuilder" "count" "I") ∈ GW := gw_at tin_5 208 rfl rfl
theorem tw_5_209 : (Cond.lays "java/lang/StringBuilder" "java/lang/AbstractStringBuilder" "value" "[B") ∈ GW := gw_at tin_5 209 rfl rfl
theorem tw_5_211 : (Cond.lays "java/lang/StringBuilder" "java/lang/AbstractStringBuilder" "coder" "B") ∈ GW := gw_at tin_5 211 rfl rfl
theorem tw_5_213 : (Cond.lays "java/lang/StringBuilder" "java/lang/AbstractStringBuilder" "maybeLatin1" "Z") ∈ GW := gw_at tin_5 213 rfl rfl
theorem tw_5_215 : (Cond.lays "java/lang/StringBuilder" "java/lang/AbstractStringBuilder" "count" "I") ∈ GW := gw_at tin_5 215 rfl rfl
theorem tw_5_217 : (Cond.superclass "java/lang/StringBuilder" "java/lang/AbstractStringBuilder") ∈ GW := gw_at tin_5 217 rfl rfl
theorem tw_5_218 : (Cond.methodLink "SigntextModel" 7 yJ4_append_cf468) ∈ GW := gw_at tin_5 218 rfl rfl
theorem tw_5_219 : (Cond.instanceMethod yJ4_append_cf468) ∈ GW := gw_at tin_5 219 rfl rfl
theorem tw_5_220 : (Cond.selects "java/lang/StringBuilder" yJ4_append_cf468 yJ4_append_cf468) ∈ GW := gw_at tin_5 220 rfl rfl
theorem tw_5_221 : (Cond.code yJ4_append_cf468 cJ4_append_cf468 2 (some (.object "java/lang/StringBuilder"))) ∈ GW := gw_at tin_5 221 rfl rfl
theorem tw_5_222 : (Cond.methodLink "java/lang/StringBuilder" 50 yJ5_append_3fe6f) ∈ GW := gw_at tin_5 222 rfl rfl
theorem tw_5_223 : (Cond.instanceMethod yJ5_append_3fe6f) ∈ GW := gw_at tin_5 223 rfl rfl
theorem tw_5_224 : (Cond.code yJ5_append_3fe6f cJ5_append_3fe6f 2 (some (.object "java/lang/AbstractStringBuilder"))) ∈ GW := gw_at tin_5 224 rfl rfl
theorem tw_5_225 : (Cond.methodLink "java/lang/AbstractStringBuilder" 100 yJ5_ensureCapacityInternal_d00df) ∈ GW := gw_at tin_5 225 rfl rfl
theorem tw_5_227 : (Cond.instanceMethod yJ5_ensureCapacityInternal_d00df) ∈ GW := gw_at tin_5 227 rfl rfl
theorem tw_5_228 : (Cond.code yJ5_ensureCapacityInternal_d00df cJ5_ensureCapacityInternal_d00df 3 (none : Option Jvm.ClassFile.FieldType)) ∈ GW := gw_at tin_5 228 rfl rfl
theorem tw_5_229 : (Cond.methodLink "java/lang/AbstractStringBuilder" 104 yJ5_newCapacity_0f7a4) ∈ GW := gw_at tin_5 229 rfl rfl
theorem tw_5_231 : (Cond.instanceMethod yJ5_newCapacity_0f7a4) ∈ GW := gw_at tin_5 231 rfl rfl
theorem tw_5_232 : (Cond.code yJ5_newCapacity_0f7a4 cJ5_newCapacity_0f7a4 6 (some .int)) ∈ GW := gw_at tin_5 232 rfl rfl
theorem tw_5_233 : (Cond.methodLink "java/lang/AbstractStringBuilder" 114 yJ8_newLength_cabcc) ∈ GW := gw_at tin_5 233 rfl rfl
theorem tw_5_234 : (Cond.constant "java/lang/AbstractStringBuilder" 39 (2147483647 : Int32)) ∈ GW := gw_at tin_5 234 rfl rfl
theorem tw_5_235 : (Cond.methodLink "java/lang/AbstractStringBuilder" 108 yJ7_copyOf_9075b) ∈ GW := gw_at tin_5 235 rfl rfl
theorem tw_5_236 : (Cond.static yJ7_copyOf_9075b) ∈ GW := gw_at tin_5 236 rfl rfl
theorem tw_5_237 : (Cond.code yJ7_copyOf_9075b cJ7_copyOf_9075b 3 (some (.array .byte))) ∈ GW := gw_at tin_5 237 rfl rfl
theorem tw_5_238 : (Cond.methodLink "java/util/Arrays" 310 ({ cls := "[B", name := "clone", desc := "()Ljava/lang/Object;" } : Jvm.MethodName)) ∈ GW := gw_at tin_5 238 rfl rfl
theorem tw_5_239 : (Cond.sameMethod "[B" "java/lang/Object" "clone" "()Ljava/lang/Object;") ∈ GW := gw_at tin_5 239 rfl rfl
theorem tw_6_1 : (Cond.instanceMethod ({ cls := "java/lang/Object", name := "clone", desc := "()Ljava/lang/Object;" } : Jvm.MethodName)) ∈ GW := gw_at tin_6 1 rfl rfl
theorem tw_6_2 : (Cond.selects "[B" ({ cls := "[B", name := "clone", desc := "()Ljava/lang/Object;" } : Jvm.MethodName) ({ cls := "java/lang/Object", name := "clone", desc := "()Ljava/lang/Object;" } : Jvm.MethodName)) ∈ GW := gw_at tin_6 2 rfl rfl
theorem tw_6_4 : (Cond.classLink "java/util/Arrays" 311 "[B") ∈ GW := gw_at tin_6 4 rfl rfl
theorem tw_6_5 : (Cond.methodLink "java/lang/AbstractStringBuilder" 83 yJ5_isLatin1_aae02) ∈ GW := gw_at tin_6 5 rfl rfl
theorem tw_6_6 : (Cond.instanceMethod yJ5_isLatin1_aae02) ∈ GW := gw_at tin_6 6 rfl rfl
theorem tw_6_7 : (Cond.sameMethod "java/lang/AbstractStringBuilder" "java/lang/AbstractStringBuilder" "isLatin1" "()Z") ∈ GW := gw_at tin_6 7 rfl rfl
theorem tw_6_8 : (Cond.selects "java/lang/StringBuilder" yJ5_isLatin1_aae02 yJ5_isLatin1_aae02) ∈ GW := gw_at tin_6 8 rfl rfl
theorem tw_6_9 : (Cond.code yJ5_isLatin1_aae02 cJ5_isLatin1_aae02 1 (some .boolean)) ∈ GW := gw_at tin_6 9 rfl rfl
theorem tw_6_10 : (Cond.methodLink "java/lang/AbstractStringBuilder" 191 yJ1_canEncode_fc78d) ∈ GW := gw_at tin_6 10 rfl rfl
theorem tw_6_11 : (Cond.static yJ1_canEncode_fc78d) ∈ GW := gw_at tin_6 11 rfl rfl
theorem tw_6_12 : (Cond.code yJ1_canEncode_fc78d cJ1_canEncode_fc78d 1 (some .boolean)) ∈ GW := gw_at tin_6 12 rfl rfl
theorem tw_6_13 : (Cond.methodLink "java/lang/AbstractStringBuilder" 195 yJ5_inflate_da8c8) ∈ GW := gw_at tin_6 13 rfl rfl
theorem tw_6_15 : (Cond.instanceMethod yJ5_inflate_da8c8) ∈ GW := gw_at tin_6 15 rfl rfl
theorem tw_6_16 : (Cond.code yJ5_inflate_da8c8 cJ5_inflate_da8c8 2 (none : Option Jvm.ClassFile.FieldType)) ∈ GW := gw_at tin_6 16 rfl rfl
theorem tw_6_17 : (Cond.methodLink "java/lang/AbstractStringBuilder" 125 yJ1_inflate_0e8fd) ∈ GW := gw_at tin_6 17 rfl rfl
theorem tw_6_18 : (Cond.static yJ1_inflate_0e8fd) ∈ GW := gw_at tin_6 18 rfl rfl
theorem tw_6_19 : (Cond.code yJ1_inflate_0e8fd cJ1_inflate_0e8fd 5 (none : Option Jvm.ClassFile.FieldType)) ∈ GW := gw_at tin_6 19 rfl rfl
theorem tw_6_20 : (Cond.methodLink "java/lang/StringLatin1" 240 yJ2_inflate_0e8fd) ∈ GW := gw_at tin_6 20 rfl rfl
theorem tw_6_21 : (Cond.static yJ2_inflate_0e8fd) ∈ GW := gw_at tin_6 21 rfl rfl
theorem tw_6_22 : (Cond.code yJ2_inflate_0e8fd cJ2_inflate_0e8fd 6 (none : Option Jvm.ClassFile.FieldType)) ∈ GW := gw_at tin_6 22 rfl rfl
theorem tw_6_23 : (Cond.methodLink "java/lang/AbstractStringBuilder" 197 yJ2_putCharSB_b72d1) ∈ GW := gw_at tin_6 23 rfl rfl
theorem tw_6_24 : (Cond.static yJ2_putCharSB_b72d1) ∈ GW := gw_at tin_6 24 rfl rfl
theorem tw_6_25 : (Cond.code yJ2_putCharSB_b72d1 cJ2_putCharSB_b72d1 3 (none : Option Jvm.ClassFile.FieldType)) ∈ GW := gw_at tin_6 25 rfl rfl
theorem tw_6_26 : (Cond.methodLink "SigntextModel" 11 yJ4_toString_0e30d) ∈ GW := gw_at tin_6 26 rfl rfl
theorem tw_6_27 : (Cond.instanceMethod yJ4_toString_0e30d) ∈ GW := gw_at tin_6 27 rfl rfl
theorem tw_6_28 : (Cond.selects "java/lang/StringBuilder" yJ4_toString_0e30d yJ4_toString_0e30d) ∈ GW := gw_at tin_6 28 rfl rfl
theorem tw_6_29 : (Cond.code yJ4_toString_0e30d cJ4_toString_0e30d 1 (some (.object "java/lang/String"))) ∈ GW := gw_at tin_6 29 rfl rfl
theorem tw_6_30 : (Cond.classLink "java/lang/StringBuilder" 18 "java/lang/String") ∈ GW := gw_at tin_6 30 rfl rfl
theorem tw_6_31 : (Cond.methodLink "java/lang/StringBuilder" 137 yJ0_init_81219) ∈ GW := gw_at tin_6 31 rfl rfl
theorem tw_6_32 : (Cond.instanceMethod yJ0_init_81219) ∈ GW := gw_at tin_6 32 rfl rfl
theorem tw_6_33 : (Cond.code yJ0_init_81219 cJ0_init_81219 2 (none : Option Jvm.ClassFile.FieldType)) ∈ GW := gw_at tin_6 33 rfl rfl
theorem tw_6_34 : (Cond.methodLink "java/lang/String" 489 yJ0_init_db425) ∈ GW := gw_at tin_6 34 rfl rfl
theorem tw_6_35 : (Cond.instanceMethod yJ0_init_db425) ∈ GW := gw_at tin_6 35 rfl rfl
theorem tw_6_36 : (Cond.code yJ0_init_db425 cJ0_init_db425 5 (none : Option Jvm.ClassFile.FieldType)) ∈ GW := gw_at tin_6 36 rfl rfl
theorem tw_6_37 : (Cond.methodLink "java/lang/String" 552 yJ5_getValue_6d5f1) ∈ GW := gw_at tin_6 37 rfl rfl
theorem tw_6_38 : (Cond.instanceMethod yJ5_getValue_6d5f1) ∈ GW := gw_at tin_6 38 rfl rfl
theorem tw_6_39 : (Cond.sameMethod "java/lang/AbstractStringBuilder" "java/lang/AbstractStringBuilder" "getValue" "()[B") ∈ GW := gw_at tin_6 39 rfl rfl
theorem tw_6_40 : (Cond.selects "java/lang/StringBuilder" yJ5_getValue_6d5f1 yJ5_getValue_6d5f1) ∈ GW := gw_at tin_6 40 rfl rfl
theorem tw_6_41 : (Cond.code yJ5_getValue_6d5f1 cJ5_getValue_6d5f1 1 (some (.array .byte))) ∈ GW := gw_at tin_6 41 rfl rfl
theorem tw_6_42 : (Cond.methodLink "java/lang/String" 549 yJ5_length_8abf5) ∈ GW := gw_at tin_6 42 rfl rfl
theorem tw_6_43 : (Cond.instanceMethod yJ5_length_8abf5) ∈ GW := gw_at tin_6 43 rfl rfl
theorem tw_6_44 : (Cond.sameMethod "java/lang/AbstractStringBuilder" "java/lang/AbstractStringBuilder" "length" "()I") ∈ GW := gw_at tin_6 44 rfl rfl
theorem tw_6_45 : (Cond.selects "java/lang/StringBuilder" yJ5_length_8abf5 yJ4_length_8abf5) ∈ GW := gw_at tin_6 45 rfl rfl
theorem tw_6_46 : (Cond.instanceMethod yJ4_length_8abf5) ∈ GW := gw_at tin_6 46 rfl rfl
theorem tw_6_47 : (Cond.code yJ4_length_8abf5 cJ4_length_8abf5 1 (some .int)) ∈ GW := gw_at tin_6 47 rfl rfl
theorem tw_6_48 : (Cond.methodLink "java/lang/StringBuilder" 343 yJ5_length_8abf5) ∈ GW := gw_at tin_6 48 rfl rfl
theorem tw_6_49 : (Cond.code yJ5_length_8abf5 cJ5_length_8abf5 1 (some .int)) ∈ GW := gw_at tin_6 49 rfl rfl
theorem tw_6_50 : (Cond.methodLink "java/lang/String" 1047 yJ5_isLatin1_aae02) ∈ GW := gw_at tin_6 50 rfl rfl
theorem tw_6_51 : (Cond.methodLink "java/lang/String" 54 yJ7_copyOfRange_39247) ∈ GW := gw_at tin_6 51 rfl rfl
theorem tw_6_52 : (Cond.static yJ7_copyOfRange_39247) ∈ GW := gw_at tin_6 52 rfl rfl
theorem tw_6_53 : (Cond.code yJ7_copyOfRange_39247 cJ7_copyOfRange_39247 3 (some (.array .byte))) ∈ GW := gw_at tin_6 53 rfl rfl
theorem tw_6_54 : (Cond.methodLink "java/util/Arrays" 339 yJ7_copyOfRangeByte_39247) ∈ GW := gw_at tin_6 54 rfl rfl
theorem tw_6_55 : (Cond.static yJ7_copyOfRangeByte_39247) ∈ GW := gw_at tin_6 55 rfl rfl
theorem tw_6_56 : (Cond.code yJ7_copyOfRangeByte_39247 cJ7_copyOfRangeByte_39247 5 (some (.array .byte))) ∈ GW := gw_at tin_6 56 rfl rfl
theorem tw_6_57 : (Cond.methodLink "java/util/Arrays" 343 yJ7_checkLength_df160) ∈ GW := gw_at tin_6 57 rfl rfl
theorem tw_6_58 : (Cond.static yJ7_checkLength_df160) ∈ GW := gw_at tin_6 58 rfl rfl
theorem tw_6_59 : (Cond.code yJ7_checkLength_df160 cJ7_checkLength_df160 2 (none : Option Jvm.ClassFile.FieldType)) ∈ GW := gw_at tin_6 59 rfl rfl
theorem tw_6_60 : (Cond.classLink "java/util/Arrays" 43 "java/lang/IllegalArgumentException") ∈ GW := gw_at tin_6 60 rfl rfl
theorem tw_6_61 : (Cond.classLink "java/util/Arrays" 45 "java/lang/StringBuilder") ∈ GW := gw_at tin_6 61 rfl rfl
theorem tw_6_62 : (Cond.methodLink "java/util/Arrays" 47 yJ4_init_da8c8) ∈ GW := gw_at tin_6 62 rfl rfl
theorem tw_6_63 : (Cond.methodLink "java/util/Arrays" 54 yJ4_append_bf812) ∈ GW := gw_at tin_6 63 rfl rfl
theorem tw_6_64 : (Cond.instanceMethod yJ4_append_bf812) ∈ GW := gw_at tin_6 64 rfl rfl
theorem tw_6_65 : (Cond.selects "java/lang/StringBuilder" yJ4_append_bf812 yJ4_append_bf812) ∈ GW := gw_at tin_6 65 rfl rfl
theorem tw_6_66 : (Cond.code yJ4_append_bf812 cJ4_append_bf812 2 (some (.object "java/lang/StringBuilder"))) ∈ GW := gw_at tin_6 66 rfl rfl
theorem tw_6_67 : (Cond.methodLink "java/lang/StringBuilder" 53 yJ5_append_c97b9) ∈ GW := gw_at tin_6 67 rfl rfl
theorem tw_6_68 : (Cond.instanceMethod yJ5_append_c97b9) ∈ GW := gw_at tin_6 68 rfl rfl
theorem tw_6_69 : (Cond.code yJ5_append_c97b9 cJ5_append_c97b9 4 (some (.object "java/lang/AbstractStringBuilder"))) ∈ GW := gw_at tin_6 69 rfl rfl
theorem tw_6_70 : (Cond.methodLink "java/lang/AbstractStringBuilder" 245 yJ6_stringSize_0f7a4) ∈ GW := gw_at tin_6 70 rfl rfl
theorem tw_6_71 : (Cond.static yJ6_stringSize_0f7a4) ∈ GW := gw_at tin_6 71 rfl rfl
theorem tw_6_72 : (Cond.code yJ6_stringSize_0f7a4 cJ6_stringSize_0f7a4 4 (some .int)) ∈ GW := gw_at tin_6 72 rfl rfl
theorem tw_6_73 : (Cond.methodLink "java/lang/AbstractStringBuilder" 248 yJ6_getChars_ba4f3) ∈ GW := gw_at tin_6 73 rfl rfl
theorem tw_6_74 : (Cond.static yJ6_getChars_ba4f3) ∈ GW := gw_at tin_6 74 rfl rfl
theorem tw_6_75 : (Cond.code yJ6_getChars_ba4f3 cJ6_getChars_ba4f3 7 (some .int)) ∈ GW := gw_at tin_6 75 rfl rfl
theorem tw_6_76 : (Cond.fieldLink "java/lang/Integer" 83 "java/lang/Integer" "DigitOnes" "[B") ∈ GW := gw_at tin_6 76 rfl rfl
theorem tw_6_78 : (Cond.fieldLink "java/lang/Integer" 87 "java/lang/Integer" "DigitTens" "[B") ∈ GW := gw_at tin_6 78 rfl rfl
theorem tw_6_80 : (Cond.methodLink "java/lang/AbstractStringBuilder" 251 yJ2_getChars_46870) ∈ GW := gw_at tin_6 80 rfl rfl
theorem tw_6_81 : (Cond.static yJ2_getChars_46870) ∈ GW := gw_at tin_6 81 rfl rfl
theorem tw_6_82 : (Cond.code yJ2_getChars_46870 cJ2_getChars_46870 5 (some .int)) ∈ GW := gw_at tin_6 82 rfl rfl
theorem tw_6_83 : (Cond.methodLink "java/lang/StringUTF16" 96 yJ2_checkBoundsBeginEnd_d044e) ∈ GW := gw_at tin_6 83 rfl rfl
theorem tw_6_84 : (Cond.static yJ2_checkBoundsBeginEnd_d044e) ∈ GW := gw_at tin_6 84 rfl rfl
theorem tw_6_85 : (Cond.code yJ2_checkBoundsBeginEnd_d044e cJ2_checkBoundsBeginEnd_d044e 3 (none : Option Jvm.ClassFile.FieldType)) ∈ GW := gw_at tin_6 85 rfl rfl
theorem tw_6_86 : (Cond.methodLink "java/lang/StringUTF16" 241 yJ0_checkBoundsBeginEnd_23922) ∈ GW := gw_at tin_6 86 rfl rfl
theorem tw_6_87 : (Cond.static yJ0_checkBoundsBeginEnd_23922) ∈ GW := gw_at tin_6 87 rfl rfl
theorem tw_6_88 : (Cond.code yJ0_checkBoundsBeginEnd_23922 cJ0_checkBoundsBeginEnd_23922 3 (none : Option Jvm.ClassFile.FieldType)) ∈ GW := gw_at tin_6 88 rfl rfl
theorem tw_6_89 : (Cond.methodLink "java/lang/String" 1062 yJ3_checkFromToIndex_8c36e) ∈ GW := gw_at tin_6 89 rfl rfl
theorem tw_6_90 : (Cond.static yJ3_checkFromToIndex_8c36e) ∈ GW := gw_at tin_6 90 rfl rfl
theorem tw_6_91 : (Cond.code yJ3_checkFromToIndex_8c36e cJ3_checkFromToIndex_8c36e 4 (some .int)) ∈ GW := gw_at tin_6 91 rfl rfl
theorem tw_6_92 : (Cond.methodLink "java/lang/StringUTF16" 393 yJ2_getChars_ba4f3) ∈ GW := gw_at tin_6 92 rfl rfl
theorem tw_6_93 : (Cond.static yJ2_getChars_ba4f3) ∈ GW := gw_at tin_6 93 rfl rfl
theorem tw_6_94 : (Cond.code yJ2_getChars_ba4f3 cJ2_getChars_ba4f3 7 (some .int)) ∈ GW := gw_at tin_6 94 rfl rfl
theorem tw_6_95 : (Cond.fieldLink "java/lang/StringUTF16" 403 "java/lang/Integer" "DigitOnes" "[B") ∈ GW := gw_at tin_6 95 rfl rfl
theorem tw_6_96 : (Cond.fieldLink "java/lang/StringUTF16" 407 "java/lang/Integer" "DigitTens" "[B") ∈ GW := gw_at tin_6 96 rfl rfl
theorem tw_6_98 : (Cond.methodLink "java/util/Arrays" 50 yJ4_append_15ec4) ∈ GW := gw_at tin_6 98 rfl rfl
theorem tw_6_99 : (Cond.instanceMethod yJ4_append_15ec4) ∈ GW := gw_at tin_6 99 rfl rfl
theorem tw_6_100 : (Cond.selects "java/lang/StringBuilder" yJ4_append_15ec4 yJ4_append_15ec4) ∈ GW := gw_at tin_6 100 rfl rfl
theorem tw_6_101 : (Cond.code yJ4_append_15ec4 cJ4_append_15ec4 2 (some (.object "java/lang/StringBuilder"))) ∈ GW := gw_at tin_6 101 rfl rfl
theorem tw_6_102 : (Cond.methodLink "java/lang/StringBuilder" 29 yJ5_append_cf1ce) ∈ GW := gw_at tin_6 102 rfl rfl
theorem tw_6_103 : (Cond.instanceMethod yJ5_append_cf1ce) ∈ GW := gw_at tin_6 103 rfl rfl
theorem tw_6_104 : (Cond.code yJ5_append_cf1ce cJ5_append_cf1ce 3 (some (.object "java/lang/AbstractStringBuilder"))) ∈ GW := gw_at tin_6 104 rfl rfl
theorem tw_6_105 : (Cond.methodLink "java/lang/AbstractStringBuilder" 204 yJ5_appendNull_278bc) ∈ GW := gw_at tin_6 105 rfl rfl
theorem tw_6_107 : (Cond.instanceMethod yJ5_appendNull_278bc) ∈ GW := gw_at tin_6 107 rfl rfl
theorem tw_6_108 : (Cond.code yJ5_appendNull_278bc cJ5_appendNull_278bc 3 (some (.object "java/lang/AbstractStringBuilder"))) ∈ GW := gw_at tin_6 108 rfl rfl
theorem tw_6_109 : (Cond.methodLink "java/lang/AbstractStringBuilder" 226 yJ2_putCharsAt_cd4e5) ∈ GW := gw_at tin_6 109 rfl rfl
theorem tw_6_110 : (Cond.static yJ2_putCharsAt_cd4e5) ∈ GW := gw_at tin_6 110 rfl rfl
theorem tw_6_111 : (Cond.code yJ2_putCharsAt_cd4e5 cJ2_putCharsAt_cd4e5 7 (some .int)) ∈ GW := gw_at tin_6 111 rfl rfl
theorem tw_6_112 : (Cond.methodLink "java/lang/AbstractStringBuilder" 32 yJ0_length_8abf5) ∈ GW := gw_at tin_6 112 rfl rfl
theorem tw_6_113 : (Cond.methodLink "java/lang/AbstractStringBuilder" 208 yJ5_putStringAt_47b60) ∈ GW := gw_at tin_6 113 rfl rfl
theorem tw_6_115 : (Cond.instanceMethod yJ5_putStringAt_47b60) ∈ GW := gw_at tin_6 115 rfl rfl
theorem tw_6_116 : (Cond.code yJ5_putStringAt_47b60 cJ5_putStringAt_47b60 3 (none : Option Jvm.ClassFile.FieldType)) ∈ GW := gw_at tin_6 116 rfl rfl
theorem tw_6_117 : (Cond.methodLink "java/lang/AbstractStringBuilder" 397 yJ5_inflateIfNeededFor_a7421) ∈ GW := gw_at tin_6 117 rfl rfl
theorem tw_6_119 : (Cond.instanceMethod yJ5_inflateIfNeededFor_a7421) ∈ GW := gw_at tin_6 119 rfl rfl
theorem tw_6_120 : (Cond.code yJ5_inflateIfNeededFor_a7421 cJ5_inflateIfNeededFor_a7421 2 (none : Option Jvm.ClassFile.FieldType)) ∈ GW := gw_at tin_6 120 rfl rfl
theorem tw_6_121 : (Cond.methodLink "java/lang/AbstractStringBuilder" 40 yJ0_coder_7d493) ∈ GW := gw_at tin_6 121 rfl rfl
theorem tw_6_122 : (Cond.methodLink "java/lang/AbstractStringBuilder" 399 yJ0_getBytes_840e7) ∈ GW := gw_at tin_6 122 rfl rfl
theorem tw_6_123 : (Cond.instanceMethod yJ0_getBytes_840e7) ∈ GW := gw_at tin_6 123 rfl rfl
theorem tw_6_124 : (Cond.selects "java/lang/String" yJ0_getBytes_840e7 yJ0_getBytes_840e7) ∈ GW := gw_at tin_6 124 rfl rfl
theorem tw_6_125 : (Cond.code yJ0_getBytes_840e7 cJ0_getBytes_840e7 4 (none : Option Jvm.ClassFile.FieldType)) ∈ GW := gw_at tin_6 125 rfl rfl
theorem tw_6_126 : (Cond.methodLink "java/lang/String" 212 ({ cls := "java/lang/System", name := "arraycopy", desc := "(Ljava/lang/Object;ILjava/lang/Object;II)V" } : Jvm.MethodName)) ∈ GW := gw_at tin_6 126 rfl rfl
theorem tw_6_127 : (Cond.methodLink "java/lang/String" 106 yJ1_inflate_0e8fd) ∈ GW := gw_at tin_6 127 rfl rfl
theorem tw_6_128 : (Cond.methodLink "java/util/Arrays" 61 yJ4_toString_0e30d) ∈ GW := gw_at tin_6 128 rfl rfl
theorem tw_6_129 : (Cond.methodLink "java/util/Arrays" 65 ({ cls := "java/lang/IllegalArgumentException", name := "<init>", desc := "(Ljava/lang/String;)V" } : Jvm.MethodName)) ∈ GW := gw_at tin_6 129 rfl rfl
theorem tw_6_130 : (Cond.instanceMethod ({ cls := "java/lang/IllegalArgumentException", name := "<init>", desc := "(Ljava/lang/String;)V" } : Jvm.MethodName)) ∈ GW := gw_at tin_6 130 rfl rfl
theorem tw_6_131 : (Cond.code ({ cls := "java/lang/IllegalArgumentException", name := "<init>", desc := "(Ljava/lang/String;)V" } : Jvm.MethodName) prog_14_method_2_code 2 (none : Option Jvm.ClassFile.FieldType)) ∈ GW := gw_at tin_6 131 rfl rfl
theorem tw_6_132 : (Cond.methodLink "java/lang/IllegalArgumentException" 7 ({ cls := "java/lang/RuntimeException", name := "<init>", desc := "(Ljava/lang/String;)V" } : Jvm.MethodName)) ∈ GW := gw_at tin_6 132 rfl rfl
theorem tw_6_133 : (Cond.instanceMethod ({ cls := "java/lang/RuntimeException", name := "<init>", desc := "(Ljava/lang/String;)V" } : Jvm.MethodName)) ∈ GW := gw_at tin_6 133 rfl rfl
theorem tw_6_134 : (Cond.code ({ cls := "java/lang/RuntimeException", name := "<init>", desc := "(Ljava/lang/String;)V" } : Jvm.MethodName) prog_21_method_2_code 2 (none : Option Jvm.ClassFile.FieldType)) ∈ GW := gw_at tin_6 134 rfl rfl
theorem tw_6_135 : (Cond.methodLink "java/lang/RuntimeException" 7 ({ cls := "java/lang/Exception", name := "<init>", desc := "(Ljava/lang/String;)V" } : Jvm.MethodName)) ∈ GW := gw_at tin_6 135 rfl rfl
theorem tw_6_136 : (Cond.instanceMethod ({ cls := "java/lang/Exception", name := "<init>", desc := "(Ljava/lang/String;)V" } : Jvm.MethodName)) ∈ GW := gw_at tin_6 136 rfl rfl
theorem tw_6_137 : (Cond.code ({ cls := "java/lang/Exception", name := "<init>", desc := "(Ljava/lang/String;)V" } : Jvm.MethodName) prog_13_method_2_code 2 (none : Option Jvm.ClassFile.FieldType)) ∈ GW := gw_at tin_6 137 rfl rfl
theorem tw_6_138 : (Cond.methodLink "java/lang/Exception" 7 ({ cls := "java/lang/Throwable", name := "<init>", desc := "(Ljava/lang/String;)V" } : Jvm.MethodName)) ∈ GW := gw_at tin_6 138 rfl rfl
theorem tw_6_139 : (Cond.instanceMethod ({ cls := "java/lang/Throwable", name := "<init>", desc := "(Ljava/lang/String;)V" } : Jvm.MethodName)) ∈ GW := gw_at tin_6 139 rfl rfl
theorem tw_6_140 : (Cond.code ({ cls := "java/lang/Throwable", name := "<init>", desc := "(Ljava/lang/String;)V" } : Jvm.MethodName) prog_27_method_2_code 2 (none : Option Jvm.ClassFile.FieldType)) ∈ GW := gw_at tin_6 140 rfl rfl
theorem tw_6_141 : (Cond.methodLink "java/lang/String" 1051 yJ2_compress_39247) ∈ GW := gw_at tin_6 141 rfl rfl
theorem tw_6_142 : (Cond.static yJ2_compress_39247) ∈ GW := gw_at tin_6 142 rfl rfl
theorem tw_6_143 : (Cond.code yJ2_compress_39247 cJ2_compress_39247 6 (some (.array .byte))) ∈ GW := gw_at tin_6 143 rfl rfl
theorem tw_6_144 : (Cond.methodLink "java/lang/StringUTF16" 126 yJ7_copyOfRange_39247) ∈ GW := gw_at tin_6 144 rfl rfl
theorem tw_6_145 : (Cond.methodLink "SigntextLaw" 240 yX4_length) ∈ GW := gw_at tin_6 145 rfl rfl
theorem tw_6_146 : (Cond.instanceMethod yX4_length) ∈ GW := gw_at tin_6 146 rfl rfl
theorem tw_6_147 : (Cond.selects "SigntextModel" yX4_length yX4_length) ∈ GW := gw_at tin_6 147 rfl rfl
theorem tw_6_148 : (Cond.code yX4_length cX4_length 2 (some .int)) ∈ GW := gw_at tin_6 148 rfl rfl
theorem tw_6_149 : (Cond.methodLink "SigntextLaw" 243 yX4_at) ∈ GW := gw_at tin_6 149 rfl rfl
theorem tw_6_150 : (Cond.instanceMethod yX4_at) ∈ GW := gw_at tin_6 150 rfl rfl
theorem tw_6_151 : (Cond.selects "SigntextModel" yX4_at yX4_at) ∈ GW := gw_at tin_6 151 rfl rfl
theorem tw_6_152 : (Cond.code yX4_at cX4_at 3 (some .int)) ∈ GW := gw_at tin_6 152 rfl rfl
theorem tw_6_153 : (Cond.methodLink "SigntextLaw" 246 yX4_isEmpty) ∈ GW := gw_at tin_6 153 rfl rfl
theorem tw_6_154 : (Cond.instanceMethod yX4_isEmpty) ∈ GW := gw_at tin_6 154 rfl rfl
theorem tw_6_155 : (Cond.selects "SigntextModel" yX4_isEmpty yX4_isEmpty) ∈ GW := gw_at tin_6 155 rfl rfl
theorem tw_6_156 : (Cond.code yX4_isEmpty cX4_isEmpty 2 (some .boolean)) ∈ GW := gw_at tin_6 156 rfl rfl
theorem tw_6_157 : (Cond.methodLink "SigntextLaw" 249 yX4_isBlank) ∈ GW := gw_at tin_6 157 rfl rfl
theorem tw_6_158 : (Cond.instanceMethod yX4_isBlank) ∈ GW := gw_at tin_6 158 rfl rfl
theorem tw_6_159 : (Cond.selects "SigntextModel" yX4_isBlank yX4_isBlank) ∈ GW := gw_at tin_6 159 rfl rfl
theorem tw_6_160 : (Cond.code yX4_isBlank cX4_isBlank 2 (some .boolean)) ∈ GW := gw_at tin_6 160 rfl rfl
theorem tw_6_161 : (Cond.methodLink "SigntextLaw" 252 yX4_hash_) ∈ GW := gw_at tin_6 161 rfl rfl
theorem tw_6_162 : (Cond.instanceMethod yX4_hash_) ∈ GW := gw_at tin_6 162 rfl rfl
theorem tw_6_163 : (Cond.selects "SigntextModel" yX4_hash_ yX4_hash_) ∈ GW := gw_at tin_6 163 rfl rfl
theorem tw_6_164 : (Cond.code yX4_hash_ cX4_hash_ 2 (some .int)) ∈ GW := gw_at tin_6 164 rfl rfl
theorem tw_6_165 : (Cond.methodLink "SigntextModel" 156 yX4_hash) ∈ GW := gw_at tin_6 165 rfl rfl
theorem tw_6_166 : (Cond.static yX4_hash) ∈ GW := gw_at tin_6 166 rfl rfl
theorem tw_6_167 : (Cond.code yX4_hash cX4_hash 6 (some .int)) ∈ GW := gw_at tin_6 167 rfl rfl
theorem tw_6_168 : (Cond.methodLink "SigntextLaw" 255 yX4_first_) ∈ GW := gw_at tin_6 168 rfl rfl
theorem tw_6_169 : (Cond.instanceMethod yX4_first_) ∈ GW := gw_at tin_6 169 rfl rfl
theorem tw_6_170 : (Cond.selects "SigntextModel" yX4_first_ yX4_first_) ∈ GW := gw_at tin_6 170 rfl rfl
theorem tw_6_171 : (Cond.code yX4_first_ cX4_first_ 3 (some .int)) ∈ GW := gw_at tin_6 171 rfl rfl
theorem tw_6_172 : (Cond.methodLink "SigntextModel" 160 yX4_first) ∈ GW := gw_at tin_6 172 rfl rfl
theorem tw_6_173 : (Cond.static yX4_first) ∈ GW := gw_at tin_6 173 rfl rfl
theorem tw_6_174 : (Cond.code yX4_first cX4_first 3 (some .int)) ∈ GW := gw_at tin_6 174 rfl rfl
theorem tw_6_175 : (Cond.methodLink "SigntextModel" 39 yX4_stands) ∈ GW := gw_at tin_6 175 rfl rfl
theorem tw_6_176 : (Cond.static yX4_stands) ∈ GW := gw_at tin_6 176 rfl rfl
theorem tw_6_177 : (Cond.code yX4_stands cX4_stands 5 (some .boolean)) ∈ GW := gw_at tin_6 177 rfl rfl
theorem tw_6_178 : (Cond.methodLink "SigntextModel" 35 yX4_little) ∈ GW := gw_at tin_6 178 rfl rfl
theorem tw_6_179 : (Cond.static yX4_little) ∈ GW := gw_at tin_6 179 rfl rfl
theorem tw_6_180 : (Cond.code yX4_little cX4_little 1 (some .int)) ∈ GW := gw_at tin_6 180 rfl rfl
theorem tw_6_181 : (Cond.methodLink "SigntextLaw" 258 yX4_last_) ∈ GW := gw_at tin_6 181 rfl rfl
theorem tw_6_182 : (Cond.instanceMethod yX4_last_) ∈ GW := gw_at tin_6 182 rfl rfl
theorem tw_6_183 : (Cond.selects "SigntextModel" yX4_last_ yX4_last_) ∈ GW := gw_at tin_6 183 rfl rfl
theorem tw_6_184 : (Cond.code yX4_last_ cX4_last_ 3 (some .int)) ∈ GW := gw_at tin_6 184 rfl rfl
theorem tw_6_185 : (Cond.methodLink "SigntextModel" 164 yX4_last) ∈ GW := gw_at tin_6 185 rfl rfl
theorem tw_6_186 : (Cond.static yX4_last) ∈ GW := gw_at tin_6 186 rfl rfl
theorem tw_6_187 : (Cond.code yX4_last cX4_last 3 (some .int)) ∈ GW := gw_at tin_6 187 rfl rfl
theorem tw_6_188 : (Cond.methodLink "SigntextLaw" 261 yX4_next) ∈ GW := gw_at tin_6 188 rfl rfl
theorem tw_6_189 : (Cond.instanceMethod yX4_next) ∈ GW := gw_at tin_6 189 rfl rfl
theorem tw_6_190 : (Cond.selects "SigntextModel" yX4_next yX4_next) ∈ GW := gw_at tin_6 190 rfl rfl
theorem tw_6_191 : (Cond.code yX4_next cX4_next 5 (some .int)) ∈ GW := gw_at tin_6 191 rfl rfl
theorem tw_6_192 : (Cond.methodLink "SigntextLaw" 264 yX4_begins) ∈ GW := gw_at tin_6 192 rfl rfl
theorem tw_6_193 : (Cond.instanceMethod yX4_begins) ∈ GW := gw_at tin_6 193 rfl rfl
theorem tw_6_194 : (Cond.selects "SigntextModel" yX4_begins yX4_begins) ∈ GW := gw_at tin_6 194 rfl rfl
theorem tw_6_195 : (Cond.code yX4_begins cX4_begins 4 (some .boolean)) ∈ GW := gw_at tin_6 195 rfl rfl
theorem tw_6_196 : (Cond.methodLink "SigntextLaw" 268 yX4_stands_) ∈ GW := gw_at tin_6 196 rfl rfl
theorem tw_6_197 : (Cond.instanceMethod yX4_stands_) ∈ GW := gw_at tin_6 197 rfl rfl
theorem tw_6_198 : (Cond.selects "SigntextModel" yX4_stands_ yX4_stands_) ∈ GW := gw_at tin_6 198 rfl rfl
theorem tw_6_199 : (Cond.code yX4_stands_ cX4_stands_ 5 (some .boolean)) ∈ GW := gw_at tin_6 199 rfl rfl
theorem tw_6_200 : (Cond.methodLink "SigntextLaw" 271 yX4_firstOf) ∈ GW := gw_at tin_6 200 rfl rfl
theorem tw_6_201 : (Cond.instanceMethod yX4_firstOf) ∈ GW := gw_at tin_6 201 rfl rfl
theorem tw_6_202 : (Cond.selects "SigntextModel" yX4_firstOf yX4_firstOf) ∈ GW := gw_at tin_6 202 rfl rfl
theorem tw_6_203 : (Cond.code yX4_firstOf cX4_firstOf 3 (some .int)) ∈ GW := gw_at tin_6 203 rfl rfl
theorem tw_6_204 : (Cond.methodLink "SigntextModel" 167 yX4_areNone) ∈ GW := gw_at tin_6 204 rfl rfl
theorem tw_6_206 : (Cond.instanceMethod yX4_areNone) ∈ GW := gw_at tin_6 206 rfl rfl
theorem tw_6_207 : (Cond.code yX4_areNone cX4_areNone 3 (some .boolean)) ∈ GW := gw_at tin_6 207 rfl rfl
theorem tw_6_208 : (Cond.methodLink "SigntextLaw" 274 yX4_lastOf) ∈ GW := gw_at tin_6 208 rfl rfl
theorem tw_6_209 : (Cond.instanceMethod yX4_lastOf) ∈ GW := gw_at tin_6 209 rfl rfl
theorem tw_6_210 : (Cond.selects "SigntextModel" yX4_lastOf yX4_lastOf) ∈ GW := gw_at tin_6 210 rfl rfl
theorem tw_6_211 : (Cond.code yX4_lastOf cX4_lastOf 3 (some .int)) ∈ GW := gw_at tin_6 211 rfl rfl
theorem tw_6_212 : (Cond.methodLink "SigntextLaw" 277 yX4_isIn_) ∈ GW := gw_at tin_6 212 rfl rfl
theorem tw_6_213 : (Cond.instanceMethod yX4_isIn_) ∈ GW := gw_at tin_6 213 rfl rfl
theorem tw_6_214 : (Cond.selects "SigntextModel" yX4_isIn_ yX4_isIn_) ∈ GW := gw_at tin_6 214 rfl rfl
theorem tw_6_215 : (Cond.code yX4_isIn_ cX4_isIn_ 3 (some .boolean)) ∈ GW := gw_at tin_6 215 rfl rfl
theorem tw_6_216 : (Cond.methodLink "SigntextLaw" 280 yX4_isSame_) ∈ GW := gw_at tin_6 216 rfl rfl
theorem tw_6_217 : (Cond.instanceMethod yX4_isSame_) ∈ GW := gw_at tin_6 217 rfl rfl
theorem tw_6_218 : (Cond.selects "SigntextModel" yX4_isSame_ yX4_isSame_) ∈ GW := gw_at tin_6 218 rfl rfl
theorem tw_6_219 : (Cond.code yX4_isSame_ cX4_isSame_ 4 (some .boolean)) ∈ GW := gw_at tin_6 219 rfl rfl
theorem tw_6_220 : (Cond.methodLink "SigntextModel" 171 yX4_isSame) ∈ GW := gw_at tin_6 220 rfl rfl
theorem tw_6_221 : (Cond.static yX4_isSame) ∈ GW := gw_at tin_6 221 rfl rfl
theorem tw_6_222 : (Cond.code yX4_isSame cX4_isSame 3 (some .boolean)) ∈ GW := gw_at tin_6 222 rfl rfl
theorem tw_6_223 : (Cond.methodLink "SigntextLaw" 283 yX4_order_) ∈ GW := gw_at tin_6 223 rfl rfl
theorem tw_6_224 : (Cond.instanceMethod yX4_order_) ∈ GW := gw_at tin_6 224 rfl rfl
theorem tw_6_225 : (Cond.selects "SigntextModel" yX4_order_ yX4_order_) ∈ GW := gw_at tin_6 225 rfl rfl
theorem tw_6_226 : (Cond.code yX4_order_ cX4_order_ 3 (some .int)) ∈ GW := gw_at tin_6 226 rfl rfl
theorem tw_6_227 : (Cond.methodLink "SigntextModel" 175 yX4_order) ∈ GW := gw_at tin_6 227 rfl rfl
theorem tw_6_228 : (Cond.static yX4_order) ∈ GW := gw_at tin_6 228 rfl rfl
theorem tw_6_229 : (Cond.code yX4_order cX4_order 5 (some .int)) ∈ GW := gw_at tin_6 229 rfl rfl
theorem tw_6_230 : (Cond.methodLink "SigntextLaw" 286 yX4_orderLike) ∈ GW := gw_at tin_6 230 rfl rfl
theorem tw_6_231 : (Cond.instanceMethod yX4_orderLike) ∈ GW := gw_at tin_6 231 rfl rfl
theorem tw_6_232 : (Cond.selects "SigntextModel" yX4_orderLike yX4_orderLike) ∈ GW := gw_at tin_6 232 rfl rfl
theorem tw_6_233 : (Cond.code yX4_orderLike cX4_orderLike 3 (some .int)) ∈ GW := gw_at tin_6 233 rfl rfl
theorem tw_6_234 : (Cond.methodLink "SigntextLaw" 291 yX4_row) ∈ GW := gw_at tin_6 234 rfl rfl
theorem tw_6_235 : (Cond.instanceMethod yX4_row) ∈ GW := gw_at tin_6 235 rfl rfl
theorem tw_6_236 : (Cond.selects "SigntextModel" yX4_row yX4_row) ∈ GW := gw_at tin_6 236 rfl rfl
theorem tw_6_237 : (Cond.code yX4_row cX4_row 1 (some (.object "java/lang/String"))) ∈ GW := gw_at tin_6 237 rfl rfl
theorem tw_6_238 : (Cond.methodLink "SigntextLaw" 294 yX4_rowAt) ∈ GW := gw_at tin_6 238 rfl rfl
theorem tw_6_239 : (Cond.instanceMethod yX4_rowAt) ∈ GW := gw_at tin_6 239 rfl rfl
theorem tw_7_0 : (Cond.selects "SigntextModel" yX4_rowAt yX4_rowAt) ∈ GW := gw_at tin_7 0 rfl rfl
theorem tw_7_1 : (Cond.code yX4_rowAt cX4_rowAt 2 (some .int)) ∈ GW := gw_at tin_7 1 rfl rfl
theorem tw_7_2 : (Cond.methodLink "SigntextLaw" 297 yX4_piece) ∈ GW := gw_at tin_7 2 rfl rfl
theorem tw_7_3 : (Cond.instanceMethod yX4_piece) ∈ GW := gw_at tin_7 3 rfl rfl
theorem tw_7_4 : (Cond.selects "SigntextModel" yX4_piece yX4_piece) ∈ GW := gw_at tin_7 4 rfl rfl
theorem tw_7_5 : (Cond.code yX4_piece cX4_piece 2 (some (.object "java/lang/String"))) ∈ GW := gw_at tin_7 5 rfl rfl
theorem tw_7_6 : (Cond.methodLink "SigntextLaw" 300 yX4_isPiece) ∈ GW := gw_at tin_7 6 rfl rfl
theorem tw_7_7 : (Cond.instanceMethod yX4_isPiece) ∈ GW := gw_at tin_7 7 rfl rfl
theorem tw_7_8 : (Cond.selects "SigntextModel" yX4_isPiece yX4_isPiece) ∈ GW := gw_at tin_7 8 rfl rfl
theorem tw_7_9 : (Cond.code yX4_isPiece cX4_isPiece 3 (some .boolean)) ∈ GW := gw_at tin_7 9 rfl rfl
theorem tw_7_10 : (Cond.methodLink "SigntextLaw" 303 yX4_house) ∈ GW := gw_at tin_7 10 rfl rfl
theorem tw_7_11 : (Cond.instanceMethod yX4_house) ∈ GW := gw_at tin_7 11 rfl rfl
theorem tw_7_12 : (Cond.selects "SigntextModel" yX4_house yX4_house) ∈ GW := gw_at tin_7 12 rfl rfl
theorem tw_7_13 : (Cond.code yX4_house cX4_house 2 (some .int)) ∈ GW := gw_at tin_7 13 rfl rfl
theorem tw_7_14 : (Cond.methodLink "SigntextModel" 179 yX4_houseTold) ∈ GW := gw_at tin_7 14 rfl rfl
theorem tw_7_16 : (Cond.instanceMethod yX4_houseTold) ∈ GW := gw_at tin_7 16 rfl rfl
theorem tw_7_17 : (Cond.code yX4_houseTold cX4_houseTold 8 (some .int)) ∈ GW := gw_at tin_7 17 rfl rfl
theorem tw_7_18 : (Cond.methodLink "SigntextLaw" 308 yX4_isSound) ∈ GW := gw_at tin_7 18 rfl rfl
theorem tw_7_19 : (Cond.instanceMethod yX4_isSound) ∈ GW := gw_at tin_7 19 rfl rfl
theorem tw_7_20 : (Cond.selects "SigntextModel" yX4_isSound yX4_isSound) ∈ GW := gw_at tin_7 20 rfl rfl
theorem tw_7_21 : (Cond.code yX4_isSound cX4_isSound 1 (some .boolean)) ∈ GW := gw_at tin_7 21 rfl rfl
theorem tw_7_22 : (Cond.methodLink "SigntextModel" 182 yX4_isTrue) ∈ GW := gw_at tin_7 22 rfl rfl
theorem tw_7_24 : (Cond.instanceMethod yX4_isTrue) ∈ GW := gw_at tin_7 24 rfl rfl
theorem tw_7_25 : (Cond.code yX4_isTrue cX4_isTrue 10 (some .boolean)) ∈ GW := gw_at tin_7 25 rfl rfl
theorem tw_7_26 : (Cond.methodLink "SigntextLaw" 313 yX4_digest) ∈ GW := gw_at tin_7 26 rfl rfl
theorem tw_7_27 : (Cond.instanceMethod yX4_digest) ∈ GW := gw_at tin_7 27 rfl rfl
theorem tw_7_28 : (Cond.selects "SigntextModel" yX4_digest yX4_digest) ∈ GW := gw_at tin_7 28 rfl rfl
theorem tw_7_29 : (Cond.code yX4_digest cX4_digest 11 (some .long)) ∈ GW := gw_at tin_7 29 rfl rfl
theorem tw_7_30 : (Cond.constantLong "SigntextModel" 187 (6173 : Int64)) ∈ GW := gw_at tin_7 30 rfl rfl
theorem tw_7_31 : (Cond.methodLink "SigntextModel" 189 yX4_add) ∈ GW := gw_at tin_7 31 rfl rfl
theorem tw_7_32 : (Cond.static yX4_add) ∈ GW := gw_at tin_7 32 rfl rfl
theorem tw_7_33 : (Cond.code yX4_add cX4_add 4 (some .long)) ∈ GW := gw_at tin_7 33 rfl rfl
theorem tw_7_34 : (Cond.constantLong "SigntextModel" 185 (31 : Int64)) ∈ GW := gw_at tin_7 34 rfl rfl
theorem tw_7_35 : (Cond.methodLink "SigntextModel" 192 yJx4a65c_iterator_32c93) ∈ GW := gw_at tin_7 35 rfl rfl
theorem tw_7_36 : (Cond.instanceMethod yJx4a65c_iterator_32c93) ∈ GW := gw_at tin_7 36 rfl rfl
theorem tw_7_37 : (Cond.selects "java/util/ArrayList" yJx4a65c_iterator_32c93 yJx4a65c_iterator_32c93) ∈ GW := gw_at tin_7 37 rfl rfl
theorem tw_7_38 : (Cond.code yJx4a65c_iterator_32c93 cJx4a65c_iterator_32c93 1 (some (.object "java/util/Iterator"))) ∈ GW := gw_at tin_7 38 rfl rfl
theorem tw_7_39 : (Cond.classLink "java/util/ArrayList" 267 "java/util/ArrayList$Itr") ∈ GW := gw_at tin_7 39 rfl rfl
theorem tw_7_40 : (Cond.instantiable "java/util/ArrayList$Itr" 4) ∈ GW := gw_at tin_7 40 rfl rfl
theorem tw_7_41 : (Cond.methodLink "java/util/ArrayList" 269 yJx35411_init_45d68) ∈ GW := gw_at tin_7 41 rfl rfl
theorem tw_7_42 : (Cond.instanceMethod yJx35411_init_45d68) ∈ GW := gw_at tin_7 42 rfl rfl
theorem tw_7_43 : (Cond.code yJx35411_init_45d68 cJx35411_init_45d68 2 (none : Option Jvm.ClassFile.FieldType)) ∈ GW := gw_at tin_7 43 rfl rfl
theorem tw_7_44 : (Cond.methodLink "java/util/ArrayList$Itr" 7 ({ cls := "java/lang/Object", name := "<init>", desc := "()V" } : Jvm.MethodName)) ∈ GW := gw_at tin_7 44 rfl rfl
theorem tw_7_45 : (Cond.fieldLink "java/util/ArrayList$Itr" 25 "java/util/ArrayList$Itr" "cursor" "I") ∈ GW := gw_at tin_7 45 rfl rfl
theorem tw_7_46 : (Cond.fieldLink "java/util/ArrayList$Itr" 13 "java/util/ArrayList$Itr" "lastRet" "I") ∈ GW := gw_at tin_7 46 rfl rfl
theorem tw_7_47 : (Cond.fieldLink "java/util/ArrayList$Itr" 22 "java/util/ArrayList$Itr" "expectedModCount" "I") ∈ GW := gw_at tin_7 47 rfl rfl
theorem tw_7_48 : (Cond.fieldLink "java/util/ArrayList$Itr" 1 "java/util/ArrayList$Itr" "this$0" "Ljava/util/ArrayList;") ∈ GW := gw_at tin_7 48 rfl rfl
theorem tw_7_49 : (Cond.lays "java/util/ArrayList$Itr" "java/util/ArrayList$Itr" "cursor" "I") ∈ GW := gw_at tin_7 49 rfl rfl
theorem tw_7_51 : (Cond.lays "java/util/ArrayList$Itr" "java/util/ArrayList$Itr" "lastRet" "I") ∈ GW := gw_at tin_7 51 rfl rfl
theorem tw_7_53 : (Cond.lays "java/util/ArrayList$Itr" "java/util/ArrayList$Itr" "expectedModCount" "I") ∈ GW := gw_at tin_7 53 rfl rfl
theorem tw_7_55 : (Cond.laysFinal "java/util/ArrayList$Itr" "java/util/ArrayList$Itr" "this$0" "Ljava/util/ArrayList;") ∈ GW := gw_at tin_7 55 rfl rfl
theorem tw_7_57 : (Cond.superclass "java/util/ArrayList$Itr" "java/lang/Object") ∈ GW := gw_at tin_7 57 rfl rfl
theorem tw_7_59 : (Cond.methodLink "SigntextModel" 196 ({ cls := "java/util/Iterator", name := "hasNext", desc := "()Z" } : Jvm.MethodName)) ∈ GW := gw_at tin_7 59 rfl rfl
theorem tw_7_63 : (Cond.selects "java/util/ArrayList$Itr" ({ cls := "java/util/Iterator", name := "hasNext", desc := "()Z" } : Jvm.MethodName) yJx35411_hasNext_aae02) ∈ GW := gw_at tin_7 63 rfl rfl
theorem tw_7_65 : (Cond.instanceMethod yJx35411_hasNext_aae02) ∈ GW := gw_at tin_7 65 rfl rfl
theorem tw_7_67 : (Cond.code yJx35411_hasNext_aae02 cJx35411_hasNext_aae02 1 (some .boolean)) ∈ GW := gw_at tin_7 67 rfl rfl
theorem tw_7_69 : (Cond.methodLink "SigntextModel" 201 ({ cls := "java/util/Iterator", name := "next", desc := "()Ljava/lang/Object;" } : Jvm.MethodName)) ∈ GW := gw_at tin_7 69 rfl rfl
theorem tw_7_72 : (Cond.selects "java/util/ArrayList$Itr" ({ cls := "java/util/Iterator", name := "next", desc := "()Ljava/lang/Object;" } : Jvm.MethodName) yJx35411_next_0502b) ∈ GW := gw_at tin_7 72 rfl rfl
theorem tw_7_74 : (Cond.instanceMethod yJx35411_next_0502b) ∈ GW := gw_at tin_7 74 rfl rfl
theorem tw_7_76 : (Cond.code yJx35411_next_0502b cJx35411_next_0502b 3 (some (.object "java/lang/Object"))) ∈ GW := gw_at tin_7 76 rfl rfl
theorem tw_7_77 : (Cond.methodLink "java/util/ArrayList$Itr" 31 yJx35411_checkForComodification_da8c8) ∈ GW := gw_at tin_7 77 rfl rfl
theorem tw_7_78 : (Cond.instanceMethod yJx35411_checkForComodification_da8c8) ∈ GW := gw_at tin_7 78 rfl rfl
theorem tw_7_79 : (Cond.selects "java/util/ArrayList$Itr" yJx35411_checkForComodification_da8c8 yJx35411_checkForComodification_da8c8) ∈ GW := gw_at tin_7 79 rfl rfl
theorem tw_7_80 : (Cond.code yJx35411_checkForComodification_da8c8 cJx35411_checkForComodification_da8c8 1 (none : Option Jvm.ClassFile.FieldType)) ∈ GW := gw_at tin_7 80 rfl rfl
theorem tw_7_81 : (Cond.sameMethod "java/lang/Throwable" "java/lang/Throwable" "fillInStackTrace" "(I)Ljava/lang/Throwable;") ∈ GW := gw_at tin_7 81 rfl rfl
theorem tw_7_82 : (Cond.sameMethod "java/lang/AbstractStringBuilder" "java/lang/AbstractStringBuilder" "append" "(C)Ljava/lang/AbstractStringBuilder;") ∈ GW := gw_at tin_7 82 rfl rfl
theorem tw_7_83 : (Cond.sameMethod "java/lang/AbstractStringBuilder" "java/lang/AbstractStringBuilder" "ensureCapacityInternal" "(I)V") ∈ GW := gw_at tin_7 83 rfl rfl
theorem tw_7_84 : (Cond.sameMethod "java/lang/AbstractStringBuilder" "java/lang/AbstractStringBuilder" "newCapacity" "(I)I") ∈ GW := gw_at tin_7 84 rfl rfl
theorem tw_7_85 : (Cond.sameMethod "java/lang/AbstractStringBuilder" "java/lang/AbstractStringBuilder" "inflate" "()V") ∈ GW := gw_at tin_7 85 rfl rfl
theorem tw_7_86 : (Cond.sameMethod "java/lang/AbstractStringBuilder" "java/lang/AbstractStringBuilder" "append" "(I)Ljava/lang/AbstractStringBuilder;") ∈ GW := gw_at tin_7 86 rfl rfl
theorem tw_7_87 : (Cond.sameMethod "java/lang/AbstractStringBuilder" "java/lang/AbstractStringBuilder" "append" "(Ljava/lang/String;)Ljava/lang/AbstractStringBuilder;") ∈ GW := gw_at tin_7 87 rfl rfl
theorem tw_7_88 : (Cond.sameMethod "java/lang/AbstractStringBuilder" "java/lang/AbstractStringBuilder" "appendNull" "()Ljava/lang/AbstractStringBuilder;") ∈ GW := gw_at tin_7 88 rfl rfl
theorem tw_7_89 : (Cond.sameMethod "java/lang/AbstractStringBuilder" "java/lang/AbstractStringBuilder" "putStringAt" "(ILjava/lang/String;)V") ∈ GW := gw_at tin_7 89 rfl rfl
theorem tw_7_90 : (Cond.sameMethod "java/lang/AbstractStringBuilder" "java/lang/AbstractStringBuilder" "inflateIfNeededFor" "(Ljava/lang/String;)V") ∈ GW := gw_at tin_7 90 rfl rfl
theorem tw_7_104 : (Cond.sameMethod "[Ljava/lang/Object;" "java/lang/Object" "getClass" "()Ljava/lang/Class;") ∈ GW := gw_at tin_7 104 rfl rfl
theorem tw_7_105 : (Cond.selects "[Ljava/lang/Object;" ({ cls := "java/lang/Object", name := "getClass", desc := "()Ljava/lang/Class;" } : Jvm.MethodName) ({ cls := "java/lang/Object", name := "getClass", desc := "()Ljava/lang/Class;" } : Jvm.MethodName)) ∈ GW := gw_at tin_7 105 rfl rfl
end
section
/-! OWN LAYER. Heaps by single cells, what stays, calls, branches over small numbers -/
abbrev Cx : Type := va_G × (Nat → ClassId) × (Nat → Nat)
abbrev tyL (K : Nat → ClassId) : List (ClassId × FieldType) := [(K 0, .int), (K 1, .char), (K 2, .byte), (K 3, .object RX0), (K 4, .array .int), (K 5, .object "java/lang/Object")]
/-- nothing outside X has changed -/
def kp (X : Nat → Prop) (H H1 : Heap) : Prop := H.size ≤ H1.size ∧ ∀ q : Nat, q < H.size → ¬ X q → H1[q]? = H[q]?
theorem kp.rf {X : Nat → Prop} {H : Heap} : kp X H H := ⟨Nat.le_refl _, fun _ _ _ => rfl⟩
theorem kp.tr {X : Nat → Prop} {H H1 H2 : Heap} (h : kp X H H1) (h2 : kp X H1 H2) : kp X H H2 :=
  ⟨Nat.le_trans h.1 h2.1, fun q a b => (h2.2 q (Nat.lt_of_lt_of_le a h.1) b).trans (h.2 q a b)⟩
theorem kp.wk {X Y : Nat → Prop} {H H1 : Heap} (h : kp X H H1) (hXY : ∀ q : Nat, q < H.size → X q → Y q) : kp Y H H1 :=
  ⟨h.1, fun q a b => h.2 q a (fun z => b (hXY q a z))⟩
theorem kp.one {a : Nat} {H H1 : Heap} (z : H1.size = H.size) (oq : ∀ q : Nat, q ≠ a → H1[q]? = H[q]?) : kp (fun q => q = a) H H1 :=
  ⟨by rw [z]; exact Nat.le_refl _, fun q _ b => oq q b⟩
theorem kp.new {H H1 : Heap} {X : Nat → Prop} (z : H1.size = H.size + 1) (oq : ∀ q : Nat, q < H.size → H1[q]? = H[q]?) : kp X H H1 :=
  ⟨by rw [z]; exact Nat.le_succ _, fun q a _ => oq q a⟩
theorem at_P {D : va_G} {cl : List vw_C} {a : Nat} {e : va_E} {H : Heap} (h : va_at D cl (a, e) H) : va_P D cl [(a, e)] H := fun k q hk => by
  match k, hk with
  | 0, hk => cases hk; exact h
  | k + 1, hk => simp at hk
theorem at_kp {D : va_G} {cl : List vw_C} {a : Nat} {e : va_E} {X : Nat → Prop} {H H1 : Heap} (h : va_at D cl (a, e) H) (hk : kp X H H1) (hX : ¬ X a) : va_at D cl (a, e) H1 := h.kept (hk.2 a h.lt hX)
theorem at_o {D : va_G} {cl : List vw_C} {a b : Nat} {e : va_E} {H H1 : Heap} (h : va_at D cl (a, e) H) (oq : ∀ q : Nat, q ≠ b → H1[q]? = H[q]?) (n : a ≠ b) : va_at D cl (a, e) H1 := h.kept (oq a n)
theorem at_n {D : va_G} {cl : List vw_C} {a : Nat} {e : va_E} {H H1 : Heap} (h : va_at D cl (a, e) H) (oq : ∀ q : Nat, q < H.size → H1[q]? = H[q]?) : va_at D cl (a, e) H1 := h.kept (oq a h.lt)
/-- the cells a, b and the new ones -/
def ow (a b n : Nat) : Nat → Prop := fun q => q = a ∨ q = b ∨ n ≤ q
/-- the new cells alone -/
def nw (n : Nat) : Nat → Prop := fun q => n ≤ q
theorem ow_n {a b n : Nat} : ∀ q : Nat, n ≤ q → ow a b n q := fun _ h => Or.inr (Or.inr h)
theorem nw_n {n : Nat} : ∀ q : Nat, n ≤ q → nw n q := fun _ h => h
theorem kp.nw {H H1 : Heap} (h : kp (nw H.size) H H1) (X : Nat → Prop) : kp X H H1 := h.wk (fun q a b => absurd (show H.size ≤ q from b) (by omega))
/-- a boolean as an int -/
def bI (b : Bool) : Int32 := if b then 1 else 0
theorem bI_t : bI true = 1 := rfl
theorem bI_f : bI false = 0 := rfl
theorem bI_0 {b : Bool} : bI b = 0 ↔ b = false := by cases b <;> decide
theorem bI_01 (b : Bool) : bI b = 0 ∨ bI b = 1 := by cases b <;> decide
theorem nar_bI (b : Bool) : narrow .boolean (.int (bI b)) = .int (bI b) := by cases b <;> rfl
theorem nar_char {c : Nat} (h : c < 65536) : vp_nar .char (nI c) = nI c := by
  have k := (pk_charN h).1
  unfold vp_nar
  rw [k]
section OWN
variable {p : Program} {l : Launch} {e : Env} {R : Room} {s : State} {m : MethodId} {args : Array Value} {below : List Frame} {meth : Method} {c : Code} {H : Heap} {locs : List Loc} {cells slots : Nat} {Q : State → Prop}
variable {cc : ByteArray} {pc : Nat} {ls : Array Slot} {rest : List Value} {D : va_G} {cl : List vw_C} {A : Nat → Prop} {a : Nat} {tys : List (ClassId × FieldType)} {H0 : Heap}
theorem lv_cv {x y : Int32} (h : x = y) (k : W p l e R s m args below meth c H locs cells slots Q (F0 m pc ls (.int y :: rest))) : W p l e R s m args below meth c H locs cells slots Q (F0 m pc ls (.int x :: rest)) := h ▸ k
theorem lv_cvl {x y : Int64} (h : x = y) (k : W p l e R s m args below meth c H locs cells slots Q (F0 m pc ls (.long y :: rest))) : W p l e R s m args below meth c H locs cells slots Q (F0 m pc ls (.long x :: rest)) := h ▸ k
theorem h_put (hexec : p.tables.exec = Jvm.exec) (hb : c.code = cc) {own ref C : String} {T : u_T} {N ci index : Nat} {Ts : List Cond} (hts : ∀ w ∈ Ts, w.before args s = true) (hin : ∀ w ∈ u_ws C T N, w ∈ Ts) (ty0 : Nat → FieldType) (hty : ∀ k, k < N → parseFieldDescriptor (T k).2.2.1 = some (ty0 k)) (hnm : ∀ a, a < N → ∀ b, b < N → a ≠ b → (T a).2.1 ≠ (T b).2.1) (hown : s.vm.findClass own = some m.cls) (hK : va_K D cl tys s) {fs : List Value} (h : va_at D cl (a, .inr (ci, fs)) H) (hS : va_S A H0 H locs) (ha : A a) (hc : cl[ci]? = some (C, T, N)) (k : Nat) (hk : k < N) (hlink : (Cond.fieldLink own index ref (T k).2.1 (T k).2.2.1).before args s = true) (hsame : ∀ x, s.fieldFound? (T k).1 (T k).2.1 (T k).2.2.1 = some x → s.fieldFound? ref (T k).2.1 (T k).2.2.1 = some x) (hfin : (T k).2.2.2 = false) {ty : FieldType} {v : Value} (hd : parseFieldDescriptor (T k).2.2.1 = some ty) (hn : narrow ty v = v) (hfit : fits ty v = true) (hl : k < fs.length)
    (hdg : decode cc pc = .ok (.putfield index, 3)) (kk : ∀ (H1 : Heap) (locs1 : List Loc), va_at D cl (a, .inr (ci, fs.set k v)) H1 → H1.size = H.size → (∀ q : Nat, q ≠ a → H1[q]? = H[q]?) → va_S A H0 H1 locs1 → W p l e R s m args below meth c H1 locs1 cells slots Q (F0 m (pc + 3) ls rest)) : W p l e R s m args below meth c H locs cells slots Q (F0 m pc ls (v :: .ref a :: rest)) := by
  have hap := va_apart (own := own) hts hin ty0 hty hnm hK hc
  obtain ⟨r, h1, cell, q1, q2, q3, q4⟩ := h
  have hr : r = (C, T, N) := Option.some.inj (h1.symm.trans hc)
  subst hr
  obtain ⟨hSl, hfc, kC, hkC, hkind⟩ := hK.1 ci _ hc
  obtain ⟨cf, kf, fi, f, hi, hsl⟩ := hSl k hk
  have hlay := hts _ (hin _ (u_in_lay hk))
  unfold u_lay at hlay
  rw [if_neg (by rw [hfin]; decide)] at hlay
  have hst := (u_facts hfc hkC (u_lays hts hin hk) hi).1
  have h6 := u_store hfc hkC hkind hlay hi hd hn hfit
  refine W.putK hexec hb (f := f) ⟨hown, hlink, ⟨_, _, _, hsame _ hi⟩, hst⟩ (by rw [q2]; exact h6) q1 q3 (by rw [hsl]; exact k2_hasslot (q4 k hk)) rfl rfl hdg fun H' e1 e2 e3 => ?_
  rw [hsl] at e1 ⊢
  exact kk H' _ ⟨_, hc, t_OB.to (V := updV (vp_V fs) k v) ⟨_, e1, q2, q3, t_set q4 hap hk v⟩ (fun j _ => vp_updV_set hl v j)⟩ e2 e3 (hS.put e2 e3 ha)
theorem h_putF (hexec : p.tables.exec = Jvm.exec) (hb : c.code = cc) {own ref C : String} {T : u_T} {N ci index : Nat} {Ts : List Cond} (hts : ∀ w ∈ Ts, w.before args s = true) (hin : ∀ w ∈ u_ws C T N, w ∈ Ts) (ty0 : Nat → FieldType) (hty : ∀ k, k < N → parseFieldDescriptor (T k).2.2.1 = some (ty0 k)) (hnm : ∀ a, a < N → ∀ b, b < N → a ≠ b → (T a).2.1 ≠ (T b).2.1) (hown : s.vm.findClass own = some m.cls) (hK : va_K D cl tys s) {fs : List Value} (h : va_at D cl (a, .inr (ci, fs)) H) (hS : va_S A H0 H locs) (ha : A a) (hc : cl[ci]? = some (C, T, N)) (k : Nat) (hk : k < N) (hlink : (Cond.fieldLink own index ref (T k).2.1 (T k).2.2.1).before args s = true) (hsame : ∀ x, s.fieldFound? (T k).1 (T k).2.1 (T k).2.2.1 = some x → s.fieldFound? ref (T k).2.1 (T k).2.2.1 = some x) (hfin : (T k).2.2.2 = true) (hin2 : meth.name = "<init>") (hdecl : (T k).1 = own) {ty : FieldType} {v : Value} (hd : parseFieldDescriptor (T k).2.2.1 = some ty) (hn : narrow ty v = v) (hfit : fits ty v = true) (hl : k < fs.length)
    (hdg : decode cc pc = .ok (.putfield index, 3)) (kk : ∀ (H1 : Heap) (locs1 : List Loc), va_at D cl (a, .inr (ci, fs.set k v)) H1 → H1.size = H.size → (∀ q : Nat, q ≠ a → H1[q]? = H[q]?) → va_S A H0 H1 locs1 → W p l e R s m args below meth c H1 locs1 cells slots Q (F0 m (pc + 3) ls rest)) : W p l e R s m args below meth c H locs cells slots Q (F0 m pc ls (v :: .ref a :: rest)) := by
  have hap := va_apart (own := own) hts hin ty0 hty hnm hK hc
  obtain ⟨r, h1, cell, q1, q2, q3, q4⟩ := h
  have hr : r = (C, T, N) := Option.some.inj (h1.symm.trans hc)
  subst hr
  obtain ⟨hSl, hfc, kC, hkC, hkind⟩ := hK.1 ci _ hc
  obtain ⟨cf, kf, fi, f, hi, hsl⟩ := hSl k hk
  have hlay := hts _ (hin _ (u_in_lay hk))
  unfold u_lay at hlay
  rw [if_pos hfin] at hlay
  have hst := (u_facts hfc hkC (u_lays hts hin hk) hi).1
  have hcf : m.cls = cf := by
    obtain ⟨_, _, c', _, _, _, -, -, hf', -, -, -, hown2, -⟩ := Cond.laysFinal_spec hlay
    have e1 : c' = cf := by have := hi.symm.trans hf'; simp at this; exact this.1.symm
    rw [hdecl] at hown2
    rw [← e1]; exact Option.some.inj (hown.symm.trans hown2)
  have h6 := u_fits hfc hkC hkind (Or.inr hlay) hi hd hn hfit
  refine W.putFinK hexec hb hown hlink (hsame _ hi) hst hcf hin2 (by rw [q2]; exact h6) q1 q3 (by rw [hsl]; exact k2_hasslot (q4 k hk)) rfl rfl hdg fun H' e1 e2 e3 => ?_
  rw [hsl] at e1 ⊢
  exact kk H' _ ⟨_, hc, t_OB.to (V := updV (vp_V fs) k v) ⟨_, e1, q2, q3, t_set q4 hap hk v⟩ (fun j _ => vp_updV_set hl v j)⟩ e2 e3 (hS.put e2 e3 ha)
theorem h_cst (hexec : p.tables.exec = Jvm.exec) (hb : c.code = cc) (hK : va_K D cl tys s) (t0 : Nat) {cA : ClassId} {n : Nat} {f : Nat → Int32} (h : va_at D cl (a, .inl (cA, n, .inl f)) H) (ht : tys[t0]? = some (cA, .char)) (hS : va_S A H0 H locs) (ha : A a) {i x : Int32} (hin : vp_in i n) (hdg : decode cc pc = .ok (.castore, 1))
    (kk : ∀ (H1 : Heap) (locs1 : List Loc), va_at D cl (a, .inl (cA, n, .inl (upd f i.toNatClampNeg (vp_nar .char x)))) H1 → H1.size = H.size → (∀ q : Nat, q ≠ a → H1[q]? = H[q]?) → va_S A H0 H1 locs1 → W p l e R s m args below meth c H1 locs1 cells slots Q (F0 m (pc + 1) ls rest)) : W p l e R s m args below meth c H locs cells slots Q (F0 m pc ls (.int x :: .int i :: .ref a :: rest)) := by
  refine W.cast hexec hb h ((hK.2 t0 _ ht).1 n (fun j => .int (f j))) (fun q => by cases q) (by show ¬ (i < 0 ∨ (arrV _ _ _).slots.size ≤ _); rw [arrV_size]; exact hin) rfl rfl hdg fun H1 e z oq => ?_
  refine kk H1 _ ?_ z oq (hS.put z oq ha)
  show H1[a]? = some (vp_cell _ _)
  rw [e]
  rw [vp_cell_i, vp_cell_i, arrV_store]
  congr 2
  funext q
  by_cases hq : q = i.toNatClampNeg
  · subst hq
    simp [updV, upd, vp_nar]
    try rfl
  · simp [updV, upd, hq]
theorem h_ist (hexec : p.tables.exec = Jvm.exec) (hb : c.code = cc) (hK : va_K D cl tys s) (t0 : Nat) {cA : ClassId} {n : Nat} {f : Nat → Int32} (h : va_at D cl (a, .inl (cA, n, .inl f)) H) (ht : tys[t0]? = some (cA, .int)) (hS : va_S A H0 H locs) (ha : A a) {i x : Int32} (hin : vp_in i n) (hdg : decode cc pc = .ok (.iastore, 1))
    (kk : ∀ (H1 : Heap) (locs1 : List Loc), va_at D cl (a, .inl (cA, n, .inl (upd f i.toNatClampNeg x))) H1 → H1.size = H.size → (∀ q : Nat, q ≠ a → H1[q]? = H[q]?) → va_S A H0 H1 locs1 → W p l e R s m args below meth c H1 locs1 cells slots Q (F0 m (pc + 1) ls rest)) : W p l e R s m args below meth c H locs cells slots Q (F0 m pc ls (.int x :: .int i :: .ref a :: rest)) := by
  refine W.iast hexec hb h ((hK.2 t0 _ ht).1 n (fun j => .int (f j))) (fun q => by cases q) (by show ¬ (i < 0 ∨ (arrV _ _ _).slots.size ≤ _); rw [arrV_size]; exact hin) rfl rfl hdg fun H1 e z oq => ?_
  refine kk H1 _ ?_ z oq (hS.put z oq ha)
  show H1[a]? = some (vp_cell _ _)
  rw [e]
  rw [vp_cell_i, vp_cell_i, arrV_store]
  congr 2
  funext q
  by_cases hq : q = i.toNatClampNeg
  · subst hq
    simp [updV, upd]
  · simp [updV, upd, hq]
theorem h_bst (hexec : p.tables.exec = Jvm.exec) (hb : c.code = cc) (hK : va_K D cl tys s) (t0 : Nat) {cA : ClassId} {n : Nat} {f : Nat → Int32} (h : va_at D cl (a, .inl (cA, n, .inl f)) H) (ht : tys[t0]? = some (cA, .byte)) (hS : va_S A H0 H locs) (ha : A a) {i x : Int32} (hin : vp_in i n) (hdg : decode cc pc = .ok (.bastore, 1))
    (kk : ∀ (H1 : Heap) (locs1 : List Loc), va_at D cl (a, .inl (cA, n, .inl (upd f i.toNatClampNeg (vp_nar .byte x)))) H1 → H1.size = H.size → (∀ q : Nat, q ≠ a → H1[q]? = H[q]?) → va_S A H0 H1 locs1 → W p l e R s m args below meth c H1 locs1 cells slots Q (F0 m (pc + 1) ls rest)) : W p l e R s m args below meth c H locs cells slots Q (F0 m pc ls (.int x :: .int i :: .ref a :: rest)) := by
  refine W.bast hexec hb h ((hK.2 t0 _ ht).1 n (fun j => .int (f j))) (fun q => by cases q) (by show ¬ (i < 0 ∨ (arrV _ _ _).slots.size ≤ _); rw [arrV_size]; exact hin) rfl rfl hdg fun H1 e z oq => ?_
  refine kk H1 _ ?_ z oq (hS.put z oq ha)
  show H1[a]? = some (vp_cell _ _)
  rw [e]
  rw [vp_cell_i, vp_cell_i, arrV_store]
  congr 2
  funext q
  by_cases hq : q = i.toNatClampNeg
  · subst hq
    simp [updV, upd, vp_nar]
    try rfl
  · simp [updV, upd, hq]
theorem h_newa {atype : ArrayType} {ty : FieldType} {cK : ClassId} {z : vp_A} {N : Nat} {n : Int32} (hexec : p.tables.exec = Jvm.exec) (hb : c.code = cc) (harr : (Cond.arrayClass (newarray.typeOf atype)).before args s = true) (hty : newarray.typeOf atype = ty) (hnm : va_RA s cK ty → s.vm.findClass ("[" ++ ty.toString) = some cK) (hK : va_K D cl tys s) (t0 : Nat) (ht : tys[t0]? = some (cK, ty)) (hS : va_S A H0 H locs)
    (hz : vp_cell cK z = arrV cK N (fun _ => defaultValue ty)) (hn : ¬ n < 0) (hN : n.toNatClampNeg = N) (hbytes : N * componentBytes ty ≤ 536870912) (hcells : cells + 1 ≤ R.cells) (hslots : slots + N ≤ R.slots) (hdg : decode cc pc = .ok (.newarray atype, 2))
    (kk : ∀ (q : Nat) (H1 : Heap), q = H.size → va_at D cl (q, .inl (cK, z)) H1 → H1.size = H.size + 1 → (∀ q : Nat, q < H.size → H1[q]? = H[q]?) → va_S A H0 H1 locs → W p l e R s m args below meth c H1 locs (cells + 1) (slots + N) Q (F0 m (pc + 2) ls (.ref q :: rest))) : W p l e R s m args below meth c H locs cells slots Q (F0 m pc ls (.int n :: rest)) := by
  subst hty
  refine va_newaK hexec hb harr rfl hdg rfl hn hN hbytes hcells hslots rfl fun H1 cA e1 z1 o1 hAr hNm => ?_
  have hc : cA = cK := Option.some.inj (hNm.symm.trans (hnm (hK.2 t0 _ ht).2))
  subst hc
  refine kk H.size H1 rfl ?_ z1 o1 ⟨Nat.le_trans hS.1 (by omega), fun x h1 h2 => (o1 x (Nat.lt_of_lt_of_le h1 hS.1)).trans (hS.2.1 x h1 h2), hS.2.2⟩
  show H1[H.size]? = some (vp_cell _ _)
  rw [hz]
  exact e1
theorem h_new {own C : String} {T : u_T} {N ci index : Nat} {Ts : List Cond} (hexec : p.tables.exec = Jvm.exec) (hb : c.code = cc) (hts : ∀ w ∈ Ts, w.before args s = true) (hin : ∀ w ∈ u_ws C T N, w ∈ Ts) (ty : Nat → FieldType) (hty : ∀ k, k < N → parseFieldDescriptor (T k).2.2.1 = some (ty k)) (hown : s.vm.findClass own = some m.cls) (hcl : (Cond.classLink own index C).before args s = true) (hinst : (Cond.instantiable C N).before args s = true) (hini : (Cond.initialized C).before args s = true)
    (hK : va_K D cl tys s) (hS : va_S A H0 H locs) (hc : cl[ci]? = some (C, T, N)) {fs : List Value} (hfs : ∀ j, j < N → defaultValue (ty j) = vp_V fs j) (hcells : cells + 1 ≤ R.cells) (hslots : slots + N ≤ R.slots) (hdg : decode cc pc = .ok (.new index, 3))
    (kk : ∀ (q : Nat) (H1 : Heap), q = H.size → va_at D cl (q, .inr (ci, fs)) H1 → H1.size = H.size + 1 → (∀ q : Nat, q < H.size → H1[q]? = H[q]?) → va_S A H0 H1 locs → W p l e R s m args below meth c H1 locs (cells + 1) (slots + N) Q (F0 m (pc + 3) ls (.ref q :: rest))) : W p l e R s m args below meth c H locs cells slots Q (F0 m pc ls rest) := by
  have hKn := hK.1 ci _ hc
  refine W.newcK hexec hb hown hcl hinst hini rfl hdg hcells hslots hKn.2.1 rfl fun H1 kC hkC e1 z1 o1 => ?_
  exact kk H.size H1 rfl ⟨_, hc, (u_born ty hts hin hKn hkC e1 hty).to hfs⟩ z1 o1 ⟨Nat.le_trans hS.1 (by omega), fun x h1 h2 => (o1 x (Nat.lt_of_lt_of_le h1 hS.1)).trans (hS.2.1 x h1 h2), hS.2.2⟩
theorem at_recv {ci : Nat} {fs : List Value} {q : vw_C} (hK : va_K D cl tys s) (h : va_at D cl (a, .inr (ci, fs)) H) (hc : cl[ci]? = some q) : ∃ cell : Cell, H[a]? = some cell ∧ cell.vm.isStatics = false ∧ s.vm.findClass q.1 = some cell.cls := va_recv hK (at_P h) hc (q0 := 0) rfl
/-- branches over small numbers -/
theorem b_ge {x y : Nat} {off : Int} {tgt : Nat} (hexec : p.tables.exec = Jvm.exec) (hb : c.code = cc) (hdg : decode cc pc = .ok (.if_icmp .ge off, 3)) (ht : (pc : Int) + off = (tgt : Int)) (hx : x < 2 ^ 31) (hy : y < 2 ^ 31)
    (kt : y ≤ x → W p l e R s m args below meth c H locs cells slots Q (F0 m tgt ls rest)) (kf : x < y → W p l e R s m args below meth c H locs cells slots Q (F0 m (pc + 3) ls rest)) : W p l e R s m args below meth c H locs cells slots Q (F0 m pc ls (.int (nI y) :: .int (nI x) :: rest)) :=
  lv_icmp_ge hexec hb hdg ht (fun h => kt (Nat.le_of_not_lt fun q => nI_ge q hy h)) (fun h => kf (Nat.lt_of_not_le fun q => h (nI_le q hx)))
theorem b_lt {x y : Nat} {off : Int} {tgt : Nat} (hexec : p.tables.exec = Jvm.exec) (hb : c.code = cc) (hdg : decode cc pc = .ok (.if_icmp .lt off, 3)) (ht : (pc : Int) + off = (tgt : Int)) (hx : x < 2 ^ 31) (hy : y < 2 ^ 31)
    (kt : x < y → W p l e R s m args below meth c H locs cells slots Q (F0 m tgt ls rest)) (kf : y ≤ x → W p l e R s m args below meth c H locs cells slots Q (F0 m (pc + 3) ls rest)) : W p l e R s m args below meth c H locs cells slots Q (F0 m pc ls (.int (nI y) :: .int (nI x) :: rest)) :=
  lv_icmp_lt hexec hb hdg ht (fun h => kt ((nI_ltI hx hy).mp h)) (fun h => kf (Nat.le_of_not_lt fun q => h ((nI_ltI hx hy).mpr q)))
theorem b_gt {x y : Nat} {off : Int} {tgt : Nat} (hexec : p.tables.exec = Jvm.exec) (hb : c.code = cc) (hdg : decode cc pc = .ok (.if_icmp .gt off, 3)) (ht : (pc : Int) + off = (tgt : Int)) (hx : x < 2 ^ 31) (hy : y < 2 ^ 31)
    (kt : y < x → W p l e R s m args below meth c H locs cells slots Q (F0 m tgt ls rest)) (kf : x ≤ y → W p l e R s m args below meth c H locs cells slots Q (F0 m (pc + 3) ls rest)) : W p l e R s m args below meth c H locs cells slots Q (F0 m pc ls (.int (nI y) :: .int (nI x) :: rest)) :=
  lv_icmp_gt hexec hb hdg ht (fun h => kt ((nI_ltI hy hx).mp h)) (fun h => kf (Nat.le_of_not_lt fun q => h ((nI_ltI hy hx).mpr q)))
theorem b_le {x y : Nat} {off : Int} {tgt : Nat} (hexec : p.tables.exec = Jvm.exec) (hb : c.code = cc) (hdg : decode cc pc = .ok (.if_icmp .le off, 3)) (ht : (pc : Int) + off = (tgt : Int)) (hx : x < 2 ^ 31) (hy : y < 2 ^ 31)
    (kt : x ≤ y → W p l e R s m args below meth c H locs cells slots Q (F0 m tgt ls rest)) (kf : y < x → W p l e R s m args below meth c H locs cells slots Q (F0 m (pc + 3) ls rest)) : W p l e R s m args below meth c H locs cells slots Q (F0 m pc ls (.int (nI y) :: .int (nI x) :: rest)) :=
  lv_icmp_le hexec hb hdg ht (fun h => kt ((nI_leI hx hy).mp h)) (fun h => kf (Nat.lt_of_not_le fun q => h ((nI_leI hx hy).mpr q)))
theorem b_eq {x y : Nat} {off : Int} {tgt : Nat} (hexec : p.tables.exec = Jvm.exec) (hb : c.code = cc) (hdg : decode cc pc = .ok (.if_icmp .eq off, 3)) (ht : (pc : Int) + off = (tgt : Int)) (hx : x < 2 ^ 31) (hy : y < 2 ^ 31)
    (kt : x = y → W p l e R s m args below meth c H locs cells slots Q (F0 m tgt ls rest)) (kf : x ≠ y → W p l e R s m args below meth c H locs cells slots Q (F0 m (pc + 3) ls rest)) : W p l e R s m args below meth c H locs cells slots Q (F0 m pc ls (.int (nI y) :: .int (nI x) :: rest)) :=
  lv_icmp_eq hexec hb hdg ht (fun h => kt ((nI_eq hx hy).mp h)) (fun h => kf (fun q => h ((nI_eq hx hy).mpr q)))
theorem b_ne {x y : Nat} {off : Int} {tgt : Nat} (hexec : p.tables.exec = Jvm.exec) (hb : c.code = cc) (hdg : decode cc pc = .ok (.if_icmp .ne off, 3)) (ht : (pc : Int) + off = (tgt : Int)) (hx : x < 2 ^ 31) (hy : y < 2 ^ 31)
    (kt : x ≠ y → W p l e R s m args below meth c H locs cells slots Q (F0 m tgt ls rest)) (kf : x = y → W p l e R s m args below meth c H locs cells slots Q (F0 m (pc + 3) ls rest)) : W p l e R s m args below meth c H locs cells slots Q (F0 m pc ls (.int (nI y) :: .int (nI x) :: rest)) :=
  lv_icmp_ne hexec hb hdg ht (fun h => kt (fun q => h ((nI_eq hx hy).mpr q))) (fun h => kf ((nI_eq hx hy).mp h))
theorem z_lt {x : Nat} {off : Int} {tgt : Nat} (hexec : p.tables.exec = Jvm.exec) (hb : c.code = cc) (hdg : decode cc pc = .ok (.ifCond .lt off, 3)) (ht : (pc : Int) + off = (tgt : Int)) (hx : x < 2 ^ 31)
    (kf : W p l e R s m args below meth c H locs cells slots Q (F0 m (pc + 3) ls rest)) : W p l e R s m args below meth c H locs cells slots Q (F0 m pc ls (.int (nI x) :: rest)) :=
  lv_if_lt hexec hb hdg ht (fun h => absurd h (nI_pos hx)) (fun _ => kf)
theorem z_ge {x : Nat} {off : Int} {tgt : Nat} (hexec : p.tables.exec = Jvm.exec) (hb : c.code = cc) (hdg : decode cc pc = .ok (.ifCond .ge off, 3)) (ht : (pc : Int) + off = (tgt : Int)) (hx : x < 2 ^ 31)
    (kt : W p l e R s m args below meth c H locs cells slots Q (F0 m tgt ls rest)) : W p l e R s m args below meth c H locs cells slots Q (F0 m pc ls (.int (nI x) :: rest)) :=
  lv_if_ge hexec hb hdg ht (fun _ => kt) (fun h => absurd (nI_pos' hx) h)
theorem nI_z {x : Nat} (hx : x < 2 ^ 31) : nI x = 0 ↔ x = 0 := nI_eq (b := 0) hx (by decide)
theorem z_eq {x : Nat} {off : Int} {tgt : Nat} (hexec : p.tables.exec = Jvm.exec) (hb : c.code = cc) (hdg : decode cc pc = .ok (.ifCond .eq off, 3)) (ht : (pc : Int) + off = (tgt : Int)) (hx : x < 2 ^ 31)
    (kt : x = 0 → W p l e R s m args below meth c H locs cells slots Q (F0 m tgt ls rest)) (kf : x ≠ 0 → W p l e R s m args below meth c H locs cells slots Q (F0 m (pc + 3) ls rest)) : W p l e R s m args below meth c H locs cells slots Q (F0 m pc ls (.int (nI x) :: rest)) :=
  lv_if_eq hexec hb hdg ht (fun h => kt ((nI_z hx).mp h)) (fun h => kf (fun q => h ((nI_z hx).mpr q)))
theorem z_ne {x : Nat} {off : Int} {tgt : Nat} (hexec : p.tables.exec = Jvm.exec) (hb : c.code = cc) (hdg : decode cc pc = .ok (.ifCond .ne off, 3)) (ht : (pc : Int) + off = (tgt : Int)) (hx : x < 2 ^ 31)
    (kt : x ≠ 0 → W p l e R s m args below meth c H locs cells slots Q (F0 m tgt ls rest)) (kf : x = 0 → W p l e R s m args below meth c H locs cells slots Q (F0 m (pc + 3) ls rest)) : W p l e R s m args below meth c H locs cells slots Q (F0 m pc ls (.int (nI x) :: rest)) :=
  lv_if_ne hexec hb hdg ht (fun h => kt (fun q => h ((nI_z hx).mpr q))) (fun h => kf ((nI_z hx).mp h))
theorem f_eq {b : Bool} {off : Int} {tgt : Nat} (hexec : p.tables.exec = Jvm.exec) (hb : c.code = cc) (hdg : decode cc pc = .ok (.ifCond .eq off, 3)) (ht : (pc : Int) + off = (tgt : Int))
    (kt : b = false → W p l e R s m args below meth c H locs cells slots Q (F0 m tgt ls rest)) (kf : b = true → W p l e R s m args below meth c H locs cells slots Q (F0 m (pc + 3) ls rest)) : W p l e R s m args below meth c H locs cells slots Q (F0 m pc ls (.int (bI b) :: rest)) :=
  lv_if_eq hexec hb hdg ht (fun h => kt (bI_0.mp h)) (fun h => kf (by cases b with | true => rfl | false => exact absurd rfl h))
theorem f_ne {b : Bool} {off : Int} {tgt : Nat} (hexec : p.tables.exec = Jvm.exec) (hb : c.code = cc) (hdg : decode cc pc = .ok (.ifCond .ne off, 3)) (ht : (pc : Int) + off = (tgt : Int))
    (kt : b = true → W p l e R s m args below meth c H locs cells slots Q (F0 m tgt ls rest)) (kf : b = false → W p l e R s m args below meth c H locs cells slots Q (F0 m (pc + 3) ls rest)) : W p l e R s m args below meth c H locs cells slots Q (F0 m pc ls (.int (bI b) :: rest)) :=
  lv_if_ne hexec hb hdg ht (fun h => kt (by cases b with | true => rfl | false => exact absurd rfl h)) (fun h => kf (bI_0.mp h))
end OWN
end
section
/-! OWN LAYER, 2: what is known of classes, statics and constants all along (cx); a method's start; calls -/
def stx : Nat → List Nat
  | 0 => [97]
  | 1 => [97, 98]
  | 2 => [65]
  | 3 => [44]
  | 4 => [120, 46, 120]
  | 5 => [97, 66, 45, 49]
  | 6 => []
  | 7 => [116, 114, 117, 101]
  | _ => [102, 97, 108, 115, 101]
def codeT : List Nat := [97, 98, 99, 120, 65, 66, 67, 88, 48, 49, 55, 57, 44, 46, 45, 95, 32, 9, 10, 1, 28, 160, 233, 201]
def knT : Nat → List Nat
  | 0 => []
  | 1 => [97]
  | 2 => [97, 98]
  | 3 => [65]
  | 4 => [44]
  | 5 => [120, 46, 120]
  | _ => [97, 66, 45, 49]
/-- an array of ints that holds t -/
def IA (G : Cx) (a : Nat) (t : List Nat) (H : Heap) : Prop := ∃ (cell : Cell) (i : Nat), H[a]? = some cell ∧ cell.cls = G.2.1 (6 + i) ∧ cell.vm ≠ .unknown ∧ (∀ k, cell.vm ≠ .statics k) ∧ cell.slots.size = t.length ∧ ∀ j : Nat, j < t.length → cell.slots[j]? = some (.int (nI (t.getD j 0)))
theorem IA.lt {G : Cx} {a : Nat} {t : List Nat} {H : Heap} (h : IA G a t H) : a < H.size := by
  obtain ⟨cell, i, h1, -⟩ := h
  exact (Array.getElem?_eq_some_iff.mp h1).1
theorem IA.at' {G : Cx} {a : Nat} {t : List Nat} {H H1 : Heap} (h : IA G a t H) (hq : H1[a]? = H[a]?) : IA G a t H1 := by
  obtain ⟨cell, i, h1, h2⟩ := h
  exact ⟨cell, i, by rw [hq]; exact h1, h2⟩
theorem IA.kp {G : Cx} {a : Nat} {t : List Nat} {X : Nat → Prop} {H H1 : Heap} (h : IA G a t H) (hk : kp X H H1) (hX : ¬ X a) : IA G a t H1 := h.at' (hk.2 a h.lt hX)
theorem IA.n {G : Cx} {a : Nat} {t : List Nat} {H H1 : Heap} (h : IA G a t H) (oq : ∀ q : Nat, q < H.size → H1[q]? = H[q]?) : IA G a t H1 := h.at' (oq a h.lt)
theorem IA.o {G : Cx} {a b : Nat} {t : List Nat} {H H1 : Heap} (h : IA G a t H) (oq : ∀ q : Nat, q ≠ b → H1[q]? = H[q]?) (n : a ≠ b) : IA G a t H1 := h.at' (oq a n)
theorem IA.mk {G : Cx} {a n : Nat} {t : List Nat} {f : Nat → Int32} {H : Heap} (h6 : G.2.1 6 = G.2.1 0) (h : va_at G.1 vwCl (a, .inl (G.2.1 0, n, .inl f)) H) (hn : n = t.length) (hf : ∀ j, j < n → f j = nI (t.getD j 0)) : IA G a t H := by
  subst hn
  refine ⟨vp_cell (G.2.1 0) (t.length, .inl f), 0, h, ?_, ?_, ?_, ?_, ?_⟩
  · rw [Nat.add_zero, h6]; rfl
  · intro h; cases h
  · intro k h; cases h
  · rw [vp_cell_i]; exact arrV_size _ _ _
  · intro j hj
    rw [vp_cell_i, arrV_read _ _ hj, hf j hj]
/-- the text constants: 0 to 8 -/
def sC (G : Cx) (A : Nat → Prop) (U : State) (H : Heap) : Prop := ∀ i : Nat, i < 9 → va_O "java/lang/String" (G.2.2 (20 + i)) A U H ∧ va_OF "java/lang/String" "coder" "B" (.int 0) (G.2.2 (20 + i)) A U H ∧ va_OF "java/lang/String" "value" "[B" (.ref (G.2.2 (40 + i))) (G.2.2 (20 + i)) A U H ∧ va_T .byte (G.2.2 (40 + i)) (stx i).length (fun j => .int (nI ((stx i).getD j 0))) A U H
def sRl : List (String × Nat × String × Nat) := [("Signtext", 243, "a", 0), ("Signtext", 245, "ab", 1), ("Signtext", 247, "A", 2), ("Signtext", 249, ",", 3), ("Signtext", 251, "x.x", 4), ("Signtext", 253, "aB-1", 5), ("Signtext", 255, "", 6), ("Signtext", 111, "true", 7), ("Signtext", 113, "false", 8), ("java/lang/String", 7, "", 6), ("SigntextModel", 150, "", 6)]
def sR (G : Cx) (U : State) : Prop := ∀ q ∈ sRl, vk_R q.1 q.2.1 q.2.2.1 (G.2.2 (20 + q.2.2.2)) U
def zS (G : Cx) (A : Nat → Prop) (U : State) (H : Heap) : Prop :=
  va_Z "Signtext" "CODES" "[I" (.ref (G.2.2 0)) A U H ∧ va_T .int (G.2.2 0) 24 (fun j => .int (nI (codeT.getD j 0))) A U H ∧
  va_Z "SigntextModel" "CODES" "[I" (.ref (G.2.2 1)) A U H ∧ va_T .int (G.2.2 1) 24 (fun j => .int (nI (codeT.getD j 0))) A U H ∧
  va_Z "SigntextModel" "KNOWN" "[[I" (.ref (G.2.2 2)) A U H ∧ va_T (.array .int) (G.2.2 2) 7 (fun j => .ref (G.2.2 (3 + j))) A U H ∧
  (∀ i : Nat, i < 7 → IA G (G.2.2 (3 + i)) (knT i) H ∧ ¬ A (G.2.2 (3 + i))) ∧
  va_Z "java/lang/String" "COMPACT_STRINGS" "Z" (.int 1) A U H ∧
  va_Z "java/util/ArrayList" "DEFAULTCAPACITY_EMPTY_ELEMENTDATA" "[Ljava/lang/Object;" (.ref (G.2.2 10)) A U H ∧ va_T (.object "java/lang/Object") (G.2.2 10) 0 (fun _ => .null) A U H ∧
  va_Zq "jdk/internal/util/Preconditions" "SIOOBE_FORMATTER" "Ljava/util/function/BiFunction;" A U H ∧
  vx_Zq Bundle.tN "UNASSIGNED_STACK" Bundle.steD A U H ∧ vx_Zq Bundle.tN "SUPPRESSED_SENTINEL" Bundle.listD A U H
/-- casts and declarations of the tables, and what is not a cast: they go on as the machine goes on -/
def isX : Cond → Bool
  | .castable _ _ => true
  | .declares _ => true
  | _ => false
def XW : List Cond := lw_tbl.filter isX
theorem xw_at {w : Cond} {L : List Cond} (hL : ∀ x ∈ L, x ∈ lw_tbl) (k : Nat) (h : L[k]? = some w) (g : isX w = true) : w ∈ XW := List.mem_filter.mpr ⟨hL w (List.mem_of_getElem? h), g⟩
theorem x_moved {w : Cond} {a b : Array Value} {u U : State} (hg : isX w = true) (hvm : u.vm.Alike U.vm) (h : w.before a u = true) : w.before b U = true := by
  cases w with
  | castable C T =>
    obtain ⟨c, t, h1, h2, h3⟩ := Cond.castable_spec h
    show Cond.holds b U none U [] (Cond.castable C T) = true
    simp only [Cond.holds, Cond.value]
    rw [hvm.findClass, hvm.findClass, h1, h2]
    show (some (U.vm.assignable c t) == some true) = true
    rw [hvm.assignable, h3]
    rfl
  | declares x =>
    have h0 : (Cond.declares x).before #[] u = true := va_any rfl h
    have h1 : (Cond.declares x).before #[] (u.setVm U.vm) = true := by
      rw [Cond.declares_setVm hvm]
      exact h0
    have e := Cond.onTables_vm (A := #[]) (A' := b) (U := u) (U' := U) U.vm (Cond.declares x) rfl
    have hU : U.setVm U.vm = U := rfl
    rw [hU] at e
    rw [← e]
    exact h1
  | _ => cases hg
def xN : List (String × String) := [("java/lang/IllegalArgumentException", "java/lang/IndexOutOfBoundsException"), ("java/lang/IllegalStateException", "java/lang/IndexOutOfBoundsException"), ("java/lang/IllegalStateException", "java/lang/IllegalArgumentException")]
def xWs (U : State) : Prop := (∀ w ∈ XW, w.before #[] U = true) ∧ ∀ q ∈ xN, va_Nc q.1 q.2 U
theorem xWs.moved {u U : State} (hvm : u.vm.Alike U.vm) (h : xWs u) : xWs U := ⟨fun w hw => x_moved (List.mem_filter.mp hw).2 hvm (h.1 w hw), fun q hq => (h.2 q hq).moved hvm⟩
theorem xWs.use {u : State} {w : Cond} {a : Array Value} (h : xWs u) (hw : w ∈ XW) : w.before a u = true := x_moved (List.mem_filter.mp hw).2 (Vm.Alike.refl _) (h.1 w hw)
/-- words that go on as they are -/
def wN (U : State) : Prop := va_Nw (.methodLinkNest "Signtext" 18 yX0_init "Signtext") U ∧ va_Nw (.methodLinkNest "Signtext" 25 yX1_init "Signtext") U ∧ va_Nw (.methodLinkNest "Signtext$Pieces" 11 yX0_init "Signtext") U ∧ va_AO "Signtext$Line" U ∧ va_AO "java/lang/Object" U ∧ (Cond.arrayOver (.array .int)).before #[] U = true ∧ xWs U
def iC (G : Cx) (U : State) : Prop := (∀ i : Nat, ∃ (k : Class) (comp : ClassId), U.vm.classes[G.2.1 (6 + i)]? = some k ∧ k.kind = .array comp .int) ∧ G.2.1 6 = G.2.1 0
def cx (G : Cx) (A : Nat → Prop) (U : State) : Prop := va_K G.1 vwCl (tyL G.2.1) U ∧ iC G U ∧ zS G A U U.heap ∧ sC G A U U.heap ∧ sR G U ∧ wN U
theorem iC.moved {G : Cx} {u U : State} (hvm : u.vm.Alike U.vm) (h : iC G u) : iC G U := ⟨fun i => by
  obtain ⟨k, comp, h1, h2⟩ := h.1 i
  obtain ⟨k', hk', he⟩ := hvm.2.2 _ _ h1
  exact ⟨k', comp, hk', by rw [he]; exact h2⟩, h.2⟩
theorem wN.warm {s U : State} (hW : s.WarmedH U.vm) (h : wN s) : wN U :=
  ⟨h.1.warmM hW, h.2.1.warmM hW, h.2.2.1.warmM hW, h.2.2.2.1.moved hW.alike, h.2.2.2.2.1.moved hW.alike, over_moved hW.alike h.2.2.2.2.2.1, h.2.2.2.2.2.2.moved hW.alike⟩
theorem wN.same {s U : State} (hv : s.vm = U.vm) (h : wN s) : wN U :=
  ⟨h.1.same rfl hv, h.2.1.same rfl hv, h.2.2.1.same rfl hv, h.2.2.2.1.moved (by rw [hv]; exact Vm.Alike.refl _), h.2.2.2.2.1.moved (by rw [hv]; exact Vm.Alike.refl _), over_moved (by rw [hv]; exact Vm.Alike.refl _) h.2.2.2.2.2.1, h.2.2.2.2.2.2.moved (by rw [hv]; exact Vm.Alike.refl _)⟩
theorem zS.go {G : Cx} {A B : Nat → Prop} {u U : State} {H H1 : Heap} (hvm : u.vm.Alike U.vm) (hq : ∀ a : Nat, a < H.size → ¬ A a → H1[a]? = H[a]?) (hAB : ∀ q, B q → A q) (h : zS G A u H) : zS G B U H1 := by
  obtain ⟨h1, h2, h3, h4, h5, h6, h7, h8, h9, h10, h11, h12, h13⟩ := h
  exact ⟨((h1.moved hvm).kept hq).narrow hAB, ((h2.moved hvm).kept hq).narrow hAB, ((h3.moved hvm).kept hq).narrow hAB, ((h4.moved hvm).kept hq).narrow hAB, ((h5.moved hvm).kept hq).narrow hAB, ((h6.moved hvm).kept hq).narrow hAB,
    fun i hi => ⟨(h7 i hi).1.at' (hq _ (h7 i hi).1.lt (h7 i hi).2), fun z => (h7 i hi).2 (hAB _ z)⟩,
    ((h8.moved hvm).kept hq).narrow hAB, ((h9.moved hvm).kept hq).narrow hAB, ((h10.moved hvm).kept hq).narrow hAB, ((h11.moved hvm).kept hq).narrow hAB, ((h12.moved hvm).kept hq).narrow hAB, ((h13.moved hvm).kept hq).narrow hAB⟩
theorem sC.go {G : Cx} {A B : Nat → Prop} {u U : State} {H H1 : Heap} (hvm : u.vm.Alike U.vm) (hq : ∀ a : Nat, a < H.size → ¬ A a → H1[a]? = H[a]?) (hAB : ∀ q, B q → A q) (h : sC G A u H) : sC G B U H1 := fun i hi => by
  obtain ⟨h1, h2, h3, h4⟩ := h i hi
  exact ⟨((h1.moved hvm).kept hq).narrow hAB, ((h2.moved hvm).kept hq).narrow hAB, ((h3.moved hvm).kept hq).narrow hAB, ((h4.moved hvm).kept hq).narrow hAB⟩
theorem cx.go {G : Cx} {A B : Nat → Prop} {s U : State} {H : Heap} {locs : List Loc} (h : cx G A s) (hS : va_S A s.heap H locs) (hAB : ∀ q, B q → A q) (hU : U.heap = H) (hW : s.WarmedH U.vm) : cx G B U := by
  obtain ⟨h1, h2, h3, h4, h5, h6⟩ := h
  subst hU
  exact ⟨h1.moved hW.alike, h2.moved hW.alike, h3.go hW.alike hS.2.1 hAB, h4.go hW.alike hS.2.1 hAB, fun q hq => (h5 q hq).warm hW, h6.warm hW⟩
theorem cx.same {G : Cx} {A : Nat → Prop} {s U : State} (h : cx G A s) (hU : U.heap = s.heap) (hv : U.vm = s.vm) : cx G A U := by
  obtain ⟨h1, h2, h3, h4, h5, h6⟩ := h
  have ha : s.vm.Alike U.vm := by rw [hv]; exact Vm.Alike.refl _
  refine ⟨h1.moved ha, h2.moved ha, ?_, ?_, fun q hq => (h5 q hq).same hv, h6.same hv.symm⟩
  · rw [hU]; exact h3.go ha (fun _ _ _ => rfl) (fun _ z => z)
  · rw [hU]; exact h4.go ha (fun _ _ _ => rfl) (fun _ z => z)
/-- a method's start -/
def PC (G : Cx) (A : Nat → Prop) (av : List Value) (Wd : Heap → Prop) : Array Value → State → Prop := fun v U => v = av.toArray ∧ cx G A U ∧ (∀ q : Nat, U.heap.size ≤ q → A q) ∧ Wd U.heap
theorem PC.blind {G : Cx} {A : Nat → Prop} {av : List Value} {Wd : Heap → Prop} : FrameBlind (PC G A av Wd) := fun a U g mk h => ⟨h.1, h.2.1.same rfl rfl, h.2.2.1, h.2.2.2⟩
theorem PC.go {G : Cx} {A B : Nat → Prop} {av : List Value} {Wd : Heap → Prop} {s : State} {H : Heap} {locs : List Loc} (h : cx G A s) (hS : va_S A s.heap H locs) (hAB : ∀ q, B q → A q) (hB : ∀ q : Nat, H.size ≤ q → B q) (hW : Wd H) : ∀ U : State, U.heap = H → s.WarmedH U.vm → PC G B av Wd av.toArray U :=
  fun U hU hw => ⟨rfl, h.go hS hAB hU hw, by rw [hU]; exact hB, by rw [hU]; exact hW⟩
/-- what a body has at its entry -/
theorem mstart {l : Launch} {y : MethodName} {rm : Room} {G : Cx} {A : Nat → Prop} {av : List Value} {Wd : Heap → Prop} {Qc : Array Value → State → Outcome → State → Prop} {mc ms : Nat} {free : Addr → Prop} {cc : ByteArray} {maxL : Nat} {ret : Option FieldType} (own : String) (hy : plainName y.cls = true) (hown : y.cls = own) (hn : (lg_sl av).length ≤ maxL)
    (body : ∀ (p : Program) (e : Env) (s : State) (m : MethodId) (below : List Frame) (meth : Method) (c : Code) (ls : Array Slot), p.tables.exec = Jvm.exec → c.code = cc → meth.sig.returnType = ret → (∀ w ∈ GW, w.before av.toArray s = true) → s.vm.findClass own = some m.cls → c.maxLocals = maxL → meth.locks = false → meth.name = y.name → cx G A s → (∀ q : Nat, s.heap.size ≤ q → A q) → Wd s.heap → lv_has ls maxL (lv_args 0 av) →
      W p l e rm s m av.toArray below meth c s.heap [] 0 0 (MQ below Qc av.toArray s mc ms free) (F0 m 0 ls [])) : Met l y (.code y cc maxL ret :: GW) rm (PC G A av Wd) Qc mc ms free := by
  refine Met.ofW (cc := cc) (maxL := maxL) (ret := ret) hy rfl ?_
  intro p e s m args below meth c s₁ B hml hv
  obtain ⟨rfl, hC, hA, hW⟩ := hv
  have hts := atoms_spec (ws := .code y cc maxL ret :: GW) B.pre
  have hl := lv_entry av (n := maxL) hn
  have hne : entryFrame m av.toArray maxL = F0 m 0 ((lg_sl av ++ List.replicate (maxL - (lg_sl av).length) Slot.unset).toArray) [] := by rw [lg_entry_eq]
  rw [hne]
  exact body p e s m below meth c _ B.exec B.bytes B.returns (fun w h => hts w (List.mem_cons_of_mem _ h)) (by rw [← hown]; exact findClass_of_methodNamed B.named) hml B.notSynchronized (name_of_methodNamed B.named B.method).1 hC hA hW hl
/-- ends: int, boolean, nothing; heap as it was, or changed inside A -/
theorem good_gw {w : Cond} (h : w ∈ GW) : w ∈ GW ∧ ((w.onTables && w.keeps) = true ∨ ∃ ty, w = .arrayClass ty) := ⟨h, good_of_word (gw_good h)⟩
theorem gV {own C : String} {index n : Nat} {y : MethodName} {cc : ByteArray} {r : Option FieldType} (h1 : Cond.methodLink own index y ∈ GW) (h2 : Cond.instanceMethod y ∈ GW) (h3 : Cond.selects C y y ∈ GW) (h4 : Cond.initialized C ∈ GW) (h5 : Cond.code y cc n r ∈ GW) : GoodIn GW (wsV own index C y (.code y cc n r :: GW)) := by
  intro w hw
  unfold wsV at hw
  rcases List.mem_append.mp hw with h | h
  · simp only [List.mem_cons, List.not_mem_nil, or_false] at h
    rcases h with rfl | rfl | rfl | rfl
    · exact good_gw h1
    · exact good_gw h2
    · exact good_gw h3
    · exact good_gw h4
  · rcases List.mem_cons.mp h with rfl | h
    · exact good_gw h5
    · exact good_gw h
theorem gS {own : String} {index n : Nat} {y : MethodName} {cc : ByteArray} {r : Option FieldType} (h1 : Cond.methodLink own index y ∈ GW) (h2 : Cond.static y ∈ GW) (h4 : Cond.initialized y.cls ∈ GW) (h5 : Cond.code y cc n r ∈ GW) : GoodIn GW (va_wsS own index y (.code y cc n r :: GW)) := by
  intro w hw
  unfold va_wsS at hw
  rcases List.mem_append.mp hw with h | h
  · simp only [List.mem_cons, List.not_mem_nil, or_false] at h
    rcases h with rfl | rfl | rfl
    · exact good_gw h1
    · exact good_gw h2
    · exact good_gw h4
  · rcases List.mem_cons.mp h with rfl | h
    · exact good_gw h5
    · exact good_gw h
theorem gI {n : Nat} {y : MethodName} {cc : ByteArray} {r : Option FieldType} (h5 : Cond.code y cc n r ∈ GW) : GoodIn GW (.code y cc n r :: GW) := by
  intro w hw
  rcases List.mem_cons.mp hw with rfl | h
  · exact good_gw h5
  · exact good_gw h
section KC
variable {p : Program} {l : Launch} {e : Env} {R : Room} {s : State} {m : MethodId} {args : Array Value} {below : List Frame} {meth : Method} {c : Code} {H : Heap} {locs : List Loc} {cells slots : Nat} {Q : State → Prop}
variable {cc bytes : ByteArray} {pc nL maxL index n mc ms : Nat} {ls : Array Slot} {rest st0 : List Value} {G : Cx} {A A1 : Nat → Prop} {own C : String} {y : MethodName} {ret : Option FieldType} {ws : List Cond} {rm : Room} {b : Nat} {As : List Value} {Wd : Heap → Prop}
/-- a virtual call that changes nothing, with an int -/
theorem kV_i {post : Int32 → Prop} (S : CallFix p m c cc nL s args GW own) (hM : Met l y ws rm (PC G A (.ref b :: As) Wd) (vp_Si post) 0 0 (fun _ => False)) (cw : CallW R s args own C index y bytes maxL ret ws rm 0 0 n) (hC : cx G A s) (hS : va_S A s.heap H locs) (hA : ∀ q : Nat, s.heap.size ≤ q → A q)
    (hr : ∃ cell : Cell, H[b]? = some cell ∧ cell.vm.isStatics = false ∧ s.vm.findClass C = some cell.cls) (hW : Wd H) (hst : st0 = As.reverse ++ .ref b :: rest) (hn : As.length = n) (hl : ls.size = nL) (hrm : (rest.map fun v => v.category).sum ≤ 8) (hf : cells ≤ R.cells ∧ slots ≤ R.slots) (hdg : decode cc pc = .ok (.invokevirtual index, 3))
    (kk : ∀ r : Int32, post r → W p l e R s m args below meth c H locs cells slots Q (F0 m (pc + 3) ls (.int r :: rest))) : W p l e R s m args below meth c H locs cells slots Q (F0 m pc ls st0) := by
  subst hst
  exact vp_callSi (W.runV (As := As) (rest := rest) (g := F0 m pc ls (As.reverse ++ .ref b :: rest)) S hM cw ⟨PC.blind, hr, PC.go hC hS (fun _ z => z) (fun q h => hA q (Nat.le_trans hS.1 h)) hW⟩ rfl hn hl rfl (lv_room hrm) hdg hf) kk
theorem kS_i {post : Int32 → Prop} (S : CallFix p m c cc nL s args GW own) (hM : Met l y ws rm (PC G A As Wd) (vp_Si post) 0 0 (fun _ => False)) (cw : CallB R s args own index y bytes maxL ret ws rm 0 0 n ∧ (Cond.static y).before args s = true) (hC : cx G A s) (hS : va_S A s.heap H locs) (hA : ∀ q : Nat, s.heap.size ≤ q → A q)
    (hW : Wd H) (hst : st0 = As.reverse ++ rest) (hn : As.length = n) (hl : ls.size = nL) (hrm : (rest.map fun v => v.category).sum ≤ 8) (hf : cells ≤ R.cells ∧ slots ≤ R.slots) (hdg : decode cc pc = .ok (.invokestatic index, 3))
    (kk : ∀ r : Int32, post r → W p l e R s m args below meth c H locs cells slots Q (F0 m (pc + 3) ls (.int r :: rest))) : W p l e R s m args below meth c H locs cells slots Q (F0 m pc ls st0) := by
  subst hst
  exact vp_callSi (W.runS (As := As) (rest := rest) (g := F0 m pc ls (As.reverse ++ rest)) S hM cw ⟨PC.blind, PC.go hC hS (fun _ z => z) (fun q h => hA q (Nat.le_trans hS.1 h)) hW⟩ rfl hn hl rfl (lv_room hrm) hdg hf) kk
/-- calls that change cells of A1 -/
theorem eV_i {S9 : Type} {post : Int32 → S9 → Prop} {B : S9 → Heap → Prop} (S : CallFix p m c cc nL s args GW own) (hM : Met l y ws rm (PC G A1 (.ref b :: As) Wd) (va_Qi post (fun u t => B u t.heap) A1) mc ms A1) (cw : CallW R s args own C index y bytes maxL ret ws rm mc ms n) (hC : cx G A s) (hS : va_S A s.heap H locs) (hAA : ∀ q, A1 q → A q) (hA1 : ∀ q : Nat, H.size ≤ q → A1 q)
    (hr : ∃ cell : Cell, H[b]? = some cell ∧ cell.vm.isStatics = false ∧ s.vm.findClass C = some cell.cls) (hW : Wd H) (hst : st0 = As.reverse ++ .ref b :: rest) (hn : As.length = n) (hl : ls.size = nL) (hrm : (rest.map fun v => v.category).sum ≤ 8) (hf : cells + mc ≤ R.cells ∧ slots + ms ≤ R.slots) (hdg : decode cc pc = .ok (.invokevirtual index, 3))
    (kk : ∀ (r : Int32) (u : S9) (H1 : Heap) (locs1 : List Loc), post r u → B u H1 → kp A1 H H1 → va_S A s.heap H1 locs1 → W p l e R s m args below meth c H1 locs1 (cells + mc) (slots + ms) Q (F0 m (pc + 3) ls (.int r :: rest))) : W p l e R s m args below meth c H locs cells slots Q (F0 m pc ls st0) := by
  subst hst
  exact va_calli (va_runV (As := As) (rest := rest) (g := F0 m pc ls (As.reverse ++ .ref b :: rest)) S hM cw ⟨PC.blind, hr, PC.go hC hS hAA hA1 hW⟩ rfl hn hl rfl (lv_room hrm) hdg hf) hS (fun q _ h => hAA q h) hAA (fun r u t H1 locs1 ht _ hp hB hz hk hS1 => kk r u H1 locs1 hp (by rw [← ht]; exact hB) ⟨hz, hk⟩ hS1)
theorem eV_v {S9 : Type} {post : S9 → Prop} {B : S9 → Heap → Prop} (S : CallFix p m c cc nL s args GW own) (hM : Met l y ws rm (PC G A1 (.ref b :: As) Wd) (va_Qv post (fun u t => B u t.heap) A1) mc ms A1) (cw : CallW R s args own C index y bytes maxL ret ws rm mc ms n) (hC : cx G A s) (hS : va_S A s.heap H locs) (hAA : ∀ q, A1 q → A q) (hA1 : ∀ q : Nat, H.size ≤ q → A1 q)
    (hr : ∃ cell : Cell, H[b]? = some cell ∧ cell.vm.isStatics = false ∧ s.vm.findClass C = some cell.cls) (hW : Wd H) (hst : st0 = As.reverse ++ .ref b :: rest) (hn : As.length = n) (hl : ls.size = nL) (hrm : (rest.map fun v => v.category).sum ≤ 8) (hf : cells + mc ≤ R.cells ∧ slots + ms ≤ R.slots) (hdg : decode cc pc = .ok (.invokevirtual index, 3))
    (kk : ∀ (u : S9) (H1 : Heap) (locs1 : List Loc), post u → B u H1 → kp A1 H H1 → va_S A s.heap H1 locs1 → W p l e R s m args below meth c H1 locs1 (cells + mc) (slots + ms) Q (F0 m (pc + 3) ls rest)) : W p l e R s m args below meth c H locs cells slots Q (F0 m pc ls st0) := by
  subst hst
  exact va_callv (va_runV (As := As) (rest := rest) (g := F0 m pc ls (As.reverse ++ .ref b :: rest)) S hM cw ⟨PC.blind, hr, PC.go hC hS hAA hA1 hW⟩ rfl hn hl rfl (lv_room hrm) hdg hf) hS (fun q _ h => hAA q h) hAA (fun u t H1 locs1 ht _ hp hB hz hk hS1 => kk u H1 locs1 hp (by rw [← ht]; exact hB) ⟨hz, hk⟩ hS1)
theorem eI_v {S9 : Type} {post : S9 → Prop} {B : S9 → Heap → Prop} (S : CallFix p m c cc nL s args GW own) (hM : Met l y ws rm (PC G A1 (.ref b :: As) Wd) (va_Qv post (fun u t => B u t.heap) A1) mc ms A1) (cw : CallB R s args own index y bytes maxL none ws rm mc ms n ∧ y.name = "<init>" ∧ (Cond.instanceMethod y).before args s = true) (hC : cx G A s) (hS : va_S A s.heap H locs) (hAA : ∀ q, A1 q → A q) (hA1 : ∀ q : Nat, H.size ≤ q → A1 q)
    (hW : Wd H) (hst : st0 = As.reverse ++ .ref b :: rest) (hn : As.length = n) (hl : ls.size = nL) (hrm : (rest.map fun v => v.category).sum ≤ 8) (hf : cells + mc ≤ R.cells ∧ slots + ms ≤ R.slots) (hdg : decode cc pc = .ok (.invokespecial index, 3))
    (kk : ∀ (u : S9) (H1 : Heap) (locs1 : List Loc), post u → B u H1 → kp A1 H H1 → va_S A s.heap H1 locs1 → W p l e R s m args below meth c H1 locs1 (cells + mc) (slots + ms) Q (F0 m (pc + 3) ls rest)) : W p l e R s m args below meth c H locs cells slots Q (F0 m pc ls st0) := by
  subst hst
  exact va_callv (va_runI (As := As) (rest := rest) (g := F0 m pc ls (As.reverse ++ .ref b :: rest)) S hM cw ⟨PC.blind, PC.go hC hS hAA hA1 hW⟩ rfl hn hl rfl (lv_room hrm) hdg hf) hS (fun q _ h => hAA q h) hAA (fun u t H1 locs1 ht _ hp hB hz hk hS1 => kk u H1 locs1 hp (by rw [← ht]; exact hB) ⟨hz, hk⟩ hS1)
theorem eS_r {S9 : Type} {post : S9 → Prop} {B : S9 → Nat → Heap → Prop} (S : CallFix p m c cc nL s args GW own) (hM : Met l y ws rm (PC G A1 As Wd) (va_Qr post (fun u a t => B u a t.heap) A1) mc ms A1) (cw : CallB R s args own index y bytes maxL ret ws rm mc ms n ∧ (Cond.static y).before args s = true) (hC : cx G A s) (hS : va_S A s.heap H locs) (hAA : ∀ q, A1 q → A q) (hA1 : ∀ q : Nat, H.size ≤ q → A1 q)
    (hW : Wd H) (hst : st0 = As.reverse ++ rest) (hn : As.length = n) (hl : ls.size = nL) (hrm : (rest.map fun v => v.category).sum ≤ 8) (hf : cells + mc ≤ R.cells ∧ slots + ms ≤ R.slots) (hdg : decode cc pc = .ok (.invokestatic index, 3))
    (kk : ∀ (u : S9) (a : Nat) (H1 : Heap) (locs1 : List Loc), post u → B u a H1 → kp A1 H H1 → va_S A s.heap H1 locs1 → W p l e R s m args below meth c H1 locs1 (cells + mc) (slots + ms) Q (F0 m (pc + 3) ls (.ref a :: rest))) : W p l e R s m args below meth c H locs cells slots Q (F0 m pc ls st0) := by
  subst hst
  exact va_callr (va_runS (As := As) (rest := rest) (g := F0 m pc ls (As.reverse ++ rest)) S hM cw ⟨PC.blind, PC.go hC hS hAA hA1 hW⟩ rfl hn hl rfl (lv_room hrm) hdg hf) hS (fun q _ h => hAA q h) hAA (fun u a t H1 locs1 ht _ hp hB hz hk hS1 => kk u a H1 locs1 hp (by rw [← ht]; exact hB) ⟨hz, hk⟩ hS1)
theorem eV_r {S9 : Type} {post : S9 → Prop} {B : S9 → Nat → Heap → Prop} (S : CallFix p m c cc nL s args GW own) (hM : Met l y ws rm (PC G A1 (.ref b :: As) Wd) (va_Qr post (fun u a t => B u a t.heap) A1) mc ms A1) (cw : CallW R s args own C index y bytes maxL ret ws rm mc ms n) (hC : cx G A s) (hS : va_S A s.heap H locs) (hAA : ∀ q, A1 q → A q) (hA1 : ∀ q : Nat, H.size ≤ q → A1 q)
    (hr : ∃ cell : Cell, H[b]? = some cell ∧ cell.vm.isStatics = false ∧ s.vm.findClass C = some cell.cls) (hW : Wd H) (hst : st0 = As.reverse ++ .ref b :: rest) (hn : As.length = n) (hl : ls.size = nL) (hrm : (rest.map fun v => v.category).sum ≤ 8) (hf : cells + mc ≤ R.cells ∧ slots + ms ≤ R.slots) (hdg : decode cc pc = .ok (.invokevirtual index, 3))
    (kk : ∀ (u : S9) (a : Nat) (H1 : Heap) (locs1 : List Loc), post u → B u a H1 → kp A1 H H1 → va_S A s.heap H1 locs1 → W p l e R s m args below meth c H1 locs1 (cells + mc) (slots + ms) Q (F0 m (pc + 3) ls (.ref a :: rest))) : W p l e R s m args below meth c H locs cells slots Q (F0 m pc ls st0) := by
  subst hst
  exact va_callr (va_runV (As := As) (rest := rest) (g := F0 m pc ls (As.reverse ++ .ref b :: rest)) S hM cw ⟨PC.blind, hr, PC.go hC hS hAA hA1 hW⟩ rfl hn hl rfl (lv_room hrm) hdg hf) hS (fun q _ h => hAA q h) hAA (fun u a t H1 locs1 ht _ hp hB hz hk hS1 => kk u a H1 locs1 hp (by rw [← ht]; exact hB) ⟨hz, hk⟩ hS1)
/-- reading arrays of ints -/
theorem h_ild {a : Nat} {t : List Nat} (hexec : p.tables.exec = Jvm.exec) (hb : c.code = cc) (hC : iC G s) (h : IA G a t H) {i : Nat} (hi : i < t.length) (hi2 : i < 2 ^ 31) (hdg : decode cc pc = .ok (.iaload, 1))
    (kk : W p l e R s m args below meth c H locs cells slots Q (F0 m (pc + 1) ls (.int (nI (t.getD i 0)) :: rest))) : W p l e R s m args below meth c H locs cells slots Q (F0 m pc ls (.int (nI i) :: .ref a :: rest)) := by
  obtain ⟨cell, k, h1, h2, h3, h4, h5, h6⟩ := h
  have hk := hC.1 k
  rw [← h2] at hk
  obtain ⟨kA, comp, q1, q2⟩ := hk
  exact W.iald (v := .int (nI (t.getD i 0))) hexec hb h1 ⟨h4, kA, q1, comp, q2⟩ h3 (by rw [h5, nI_clamp hi2]; rintro (q | q); exact nI_pos hi2 q; omega) (by rw [nI_clamp hi2]; exact h6 i hi) rfl rfl hdg kk
theorem h_ilen {a : Nat} {t : List Nat} (hexec : p.tables.exec = Jvm.exec) (hb : c.code = cc) (hC : iC G s) (h : IA G a t H) (hdg : decode cc pc = .ok (.arraylength, 1))
    (kk : W p l e R s m args below meth c H locs cells slots Q (F0 m (pc + 1) ls (.int (nI t.length) :: rest))) : W p l e R s m args below meth c H locs cells slots Q (F0 m pc ls (.ref a :: rest)) := by
  obtain ⟨cell, k, h1, h2, h3, h4, h5, h6⟩ := h
  have hk := hC.1 k
  rw [← h2] at hk
  obtain ⟨kA, comp, q1, q2⟩ := hk
  exact W.alen (n := nI t.length) hexec hb h1 ⟨h4, kA, q1, comp, q2⟩ (by rw [h5]; rfl) rfl rfl hdg kk
end KC
end
section
/-! OWN LAYER, 3: texts as lists of codes; loops; ends of methods; words of the classes' fields -/
theorem inX0 : ∀ w ∈ u_ws RX0 TX0 2, w ∈ GW := by
  intro w hw
  simp only [u_ws, List.mem_map, List.mem_range] at hw
  obtain ⟨k, hk, rfl⟩ := hw
  match k, hk with
  | 0, _ => exact tw_1_46
  | 1, _ => exact tw_1_48
/-- codes are small -/
def okc (t : List Nat) : Prop := ∀ j : Nat, t.getD j 0 < 256
theorem okc_nil : okc [] := fun j => by simp
theorem okc_app {t u : List Nat} (h1 : okc t) (h2 : okc u) : okc (t ++ u) := fun j => by
  rw [List.getD_eq_getElem?_getD, List.getElem?_append]
  split
  · rw [← List.getD_eq_getElem?_getD]; exact h1 j
  · rw [← List.getD_eq_getElem?_getD]; exact h2 _
theorem okc_one {c : Nat} (h : c < 256) : okc [c] := fun j => by
  cases j with
  | zero => exact h
  | succ j => simp
theorem okc_take {t : List Nat} (h : okc t) (n : Nat) : okc (t.take n) := fun j => by
  rw [List.getD_eq_getElem?_getD, List.getElem?_take]
  split
  · rw [← List.getD_eq_getElem?_getD]; exact h j
  · decide
theorem okc_drop {t : List Nat} (h : okc t) (n : Nat) : okc (t.drop n) := fun j => by
  rw [List.getD_eq_getElem?_getD, List.getElem?_drop, ← List.getD_eq_getElem?_getD]; exact h _
/-- a part of a text -/
def cutL (t : List Nat) (i j : Nat) : List Nat := (t.drop i).take (j - i)
theorem okc_cut {t : List Nat} (h : okc t) (i j : Nat) : okc (cutL t i j) := okc_take (okc_drop h i) _
theorem cutL_len {t : List Nat} {i j : Nat} (h : j ≤ t.length) : (cutL t i j).length = j - i := by
  unfold cutL; rw [List.length_take, List.length_drop]; omega
theorem cutL_le (t : List Nat) (i j : Nat) : (cutL t i j).length ≤ t.length := by
  unfold cutL; rw [List.length_take, List.length_drop]; omega
theorem cutL_nil (t : List Nat) (i : Nat) : cutL t i i = [] := by unfold cutL; rw [Nat.sub_self]; rfl
theorem cutL_all (t : List Nat) : cutL t 0 t.length = t := by unfold cutL; rw [List.drop_zero, Nat.sub_zero, List.take_length]
theorem cutL_succ {t : List Nat} {i j : Nat} (h : i ≤ j) (hj : j < t.length) : cutL t i (j + 1) = cutL t i j ++ [t.getD j 0] := by
  unfold cutL
  rw [show j + 1 - i = (j - i) + 1 by omega, List.take_add_one, List.getElem?_drop, show i + (j - i) = j by omega, List.getElem?_eq_getElem hj, List.getD_eq_getElem?_getD, List.getElem?_eq_getElem hj]
  rfl
theorem getD_app1 {t u : List Nat} {j : Nat} (h : j < t.length) : (t ++ u).getD j 0 = t.getD j 0 := by
  rw [List.getD_eq_getElem?_getD, List.getElem?_append_left h, ← List.getD_eq_getElem?_getD]
theorem getD_last (t : List Nat) (c : Nat) : (t ++ [c]).getD t.length 0 = c := by
  rw [List.getD_eq_getElem?_getD, List.getElem?_append_right (Nat.le_refl _), Nat.sub_self]; rfl
/-- a text of at most 60 codes in the object a, its row the array ca -/
def LA (G : Cx) (a ca : Nat) (t : List Nat) (H : Heap) : Prop := t.length ≤ 60 ∧ okc t ∧ a ≠ ca ∧ va_at G.1 vwCl (a, .inr (4, [.ref ca, .int (nI t.length)])) H ∧ ∃ f : Nat → Int32, va_at G.1 vwCl (ca, .inl (G.2.1 1, 60, .inl f)) H ∧ ∀ j : Nat, j < t.length → f j = nI (t.getD j 0)
theorem LA.kp {G : Cx} {a ca : Nat} {t : List Nat} {X : Nat → Prop} {H H1 : Heap} (h : LA G a ca t H) (hk : kp X H H1) (h1 : ¬ X a) (h2 : ¬ X ca) : LA G a ca t H1 := by
  obtain ⟨q1, q2, q3, q4, f, q5, q6⟩ := h
  exact ⟨q1, q2, q3, at_kp q4 hk h1, f, at_kp q5 hk h2, q6⟩
theorem LA.lt {G : Cx} {a ca : Nat} {t : List Nat} {H : Heap} (h : LA G a ca t H) : a < H.size ∧ ca < H.size := ⟨h.2.2.2.1.lt, by obtain ⟨-, -, -, -, f, q, -⟩ := h; exact q.lt⟩
theorem LA.recv {G : Cx} {a ca : Nat} {t : List Nat} {H : Heap} {s : State} (h : LA G a ca t H) (hK : va_K G.1 vwCl (tyL G.2.1) s) : ∃ cell : Cell, H[a]? = some cell ∧ cell.vm.isStatics = false ∧ s.vm.findClass "Signtext$Line" = some cell.cls := at_recv hK h.2.2.2.1 (q := (RX0, TX0, 2)) rfl
theorem chr_id {n : Nat} (h : n < 65536) : ((nI n).toUInt32 % 65536).toInt32 = nI n := by
  rw [pk_char, pk_tn (by omega), Nat.mod_eq_of_lt h]
/-- loops: up to N, and down -/
theorem nloop {P : Nat → Prop} (N : Nat) (h : ∀ j, j ≤ N → (∀ k, j < k → k ≤ N → P k) → P j) : ∀ j, j ≤ N → P j := by
  have H : ∀ n j, N - j < n → j ≤ N → P j := by
    intro n
    induction n with
    | zero => intro j h1; exact absurd h1 (Nat.not_lt_zero _)
    | succ n ih => intro j h1 h2; exact h j h2 (fun k h3 h4 => ih k (by omega) h4)
  exact fun j hj => H (N - j + 1) j (Nat.lt_succ_self _) hj
theorem dloop {P : Nat → Prop} (h : ∀ j, (∀ k, k < j → P k) → P j) : ∀ j, P j := fun j => Nat.strongRecOn j (fun n ih => h n ih)
section ENDS
variable {p : Program} {l : Launch} {e : Env} {R : Room} {s : State} {m : MethodId} {args : Array Value} {below : List Frame} {meth : Method} {c : Code} {H : Heap} {locs : List Loc} {cells slots mc ms : Nat} {cc : ByteArray} {pc : Nat} {ls : Array Slot} {A : Nat → Prop}
theorem p_i {post : Int32 → Prop} {v : Int32} (hx : p.tables.exec = Jvm.exec) (hb : c.code = cc) (hr : meth.sig.returnType = some .int) (hlocks : meth.locks = false) (hd : decode cc pc = .ok (.ireturn, 1)) (hp : post v) : W p l e R s m args below meth c s.heap [] 0 0 (MQ below (vp_Si post) args s 0 0 (fun _ => False)) (F0 m pc ls [.int v]) :=
  W.iret hx hb hr (fun t ht hW => ⟨v, rfl, hp, ht⟩) (fun q h => by cases h) hd
theorem p_z {post : Int32 → Prop} {b : Bool} (hx : p.tables.exec = Jvm.exec) (hb : c.code = cc) (hr : meth.sig.returnType = some .boolean) (hlocks : meth.locks = false) (hd : decode cc pc = .ok (.ireturn, 1)) (hp : post (bI b)) : W p l e R s m args below meth c s.heap [] 0 0 (MQ below (vp_Si post) args s 0 0 (fun _ => False)) (F0 m pc ls [.int (bI b)]) :=
  W.zret hx hb hr (nar_bI b) (fun t ht hW => ⟨_, rfl, hp, ht⟩) (fun q h => by cases h) hd
theorem e_v {S9 : Type} {post : S9 → Prop} {B : S9 → Heap → Prop} (u : S9) (hx : p.tables.exec = Jvm.exec) (hb : c.code = cc) (hr : meth.sig.returnType = none) (hlocks : meth.locks = false) (hd : decode cc pc = .ok (.return_, 1)) (hS : va_S A s.heap H locs) (hc : cells ≤ mc) (hs : slots ≤ ms) (hp : post u) (hB : B u H) : W p l e R s m args below meth c H locs cells slots (MQ below (va_Qv post (fun u t => B u t.heap) A) args s mc ms A) (F0 m pc ls []) :=
  W.widen hc hs (W.vret hx hb hr (fun t ht hW => ⟨⟨u, rfl, hp, show B u t.heap from ht ▸ hB⟩, hS.F ht⟩) hS.2.2 hd)
theorem e_i {S9 : Type} {post : Int32 → S9 → Prop} {B : S9 → Heap → Prop} {v : Int32} (u : S9) (hx : p.tables.exec = Jvm.exec) (hb : c.code = cc) (hr : meth.sig.returnType = some .int) (hlocks : meth.locks = false) (hd : decode cc pc = .ok (.ireturn, 1)) (hS : va_S A s.heap H locs) (hc : cells ≤ mc) (hs : slots ≤ ms) (hp : post v u) (hB : B u H) : W p l e R s m args below meth c H locs cells slots (MQ below (va_Qi post (fun u t => B u t.heap) A) args s mc ms A) (F0 m pc ls [.int v]) :=
  W.widen hc hs (W.iret hx hb hr (fun t ht hW => ⟨⟨v, u, rfl, hp, show B u t.heap from ht ▸ hB⟩, hS.F ht⟩) hS.2.2 hd)
theorem e_z {S9 : Type} {post : Int32 → S9 → Prop} {B : S9 → Heap → Prop} {b : Bool} (u : S9) (hx : p.tables.exec = Jvm.exec) (hb : c.code = cc) (hr : meth.sig.returnType = some .boolean) (hlocks : meth.locks = false) (hd : decode cc pc = .ok (.ireturn, 1)) (hS : va_S A s.heap H locs) (hc : cells ≤ mc) (hs : slots ≤ ms) (hp : post (bI b) u) (hB : B u H) : W p l e R s m args below meth c H locs cells slots (MQ below (va_Qi post (fun u t => B u t.heap) A) args s mc ms A) (F0 m pc ls [.int (bI b)]) :=
  W.widen hc hs (W.zret hx hb hr (nar_bI b) (fun t ht hW => ⟨⟨_, u, rfl, hp, show B u t.heap from ht ▸ hB⟩, hS.F ht⟩) hS.2.2 hd)
theorem e_a {S9 : Type} {post : S9 → Prop} {B : S9 → Nat → Heap → Prop} {a : Nat} {C : String} (u : S9) (hx : p.tables.exec = Jvm.exec) (hb : c.code = cc) (hr : meth.sig.returnType = some (.object C)) (hlocks : meth.locks = false) (hd : decode cc pc = .ok (.areturn, 1)) (hS : va_S A s.heap H locs) (hc : cells ≤ mc) (hs : slots ≤ ms) (hp : post u) (hB : B u a H) : W p l e R s m args below meth c H locs cells slots (MQ below (va_Qr post (fun u a t => B u a t.heap) A) args s mc ms A) (F0 m pc ls [.ref a]) :=
  W.widen hc hs (W.aret hx hb hr (Or.inl ⟨C, rfl⟩) (Or.inr ⟨a, rfl⟩) (fun t ht hW => ⟨⟨u, a, rfl, hp, show B u a t.heap from ht ▸ hB⟩, hS.F ht⟩) hS.2.2 hd)
end ENDS
end
section
/-! Line, 1: the readers' leaves -/
def goesN (b : Bool) (c : Nat) : Bool := if b then c == 32 || c == 9 || c == 10 || c == 28 else decide (c ≤ 32)
def litN (c : Nat) : Nat := if c = 65 ∨ c = 66 ∨ c = 67 ∨ c = 88 ∨ c = 201 then c + 32 else c
def viewN (b : Bool) (c : Nat) : Nat := if b then litN c else c
theorem viewN_lt {b : Bool} {c : Nat} (h : c < 256) : viewN b c < 300 := by unfold viewN litN; split <;> try split
                                                                            all_goals omega
theorem sw_seen {c : Nat} (h1 : ¬ c = 65) (h2 : ¬ c = 66) (h3 : ¬ c = 67) (h4 : ¬ c = 88) (h5 : ¬ c = 201) : lookupswitch.offset (#[(65, 49), (66, 52), (67, 55), (88, 58), (201, 61)] : Array (Int × Int)).toList 65 (c : Int) = 65 := by
  simp [lookupswitch.offset, List.find?]
  simp [show ¬ (65 : Int) = (c : Int) by omega, show ¬ (66 : Int) = (c : Int) by omega, show ¬ (67 : Int) = (c : Int) by omega, show ¬ (88 : Int) = (c : Int) by omega, show ¬ (201 : Int) = (c : Int) by omega]
def hashL (t : List Nat) : Int32 := t.foldl (fun h c => nI 31 * h + nI c) 0
theorem hashL_succ {t : List Nat} {j : Nat} (h : j < t.length) : hashL (t.take (j + 1)) = nI 31 * hashL (t.take j) + nI (t.getD j 0) := by
  unfold hashL
  rw [List.take_add_one, List.getElem?_eq_getElem h, List.foldl_append, List.getD_eq_getElem?_getD, List.getElem?_eq_getElem h]
  rfl
/-- how many go at the begin -/
def tbL (b : Bool) : List Nat → Nat
  | [] => 0
  | c :: t => if goesN b c then tbL b t + 1 else 0
theorem tbL_le (b : Bool) (t : List Nat) : tbL b t ≤ t.length := by
  induction t with
  | nil => exact Nat.le_refl _
  | cons c t ih => unfold tbL; split <;> simp <;> omega
theorem tbL_eq {b : Bool} {t : List Nat} {j : Nat} (h : j ≤ t.length) (hg : ∀ k : Nat, k < j → goesN b (t.getD k 0) = true) (hn : j < t.length → goesN b (t.getD j 0) = false) : nI j = nI (tbL b t) := by
  suffices h9 : j = tbL b t by rw [h9]
  induction t generalizing j with
  | nil => exact Nat.le_zero.mp h
  | cons c t ih =>
    unfold tbL
    cases j with
    | zero =>
      have := hn (by simp)
      rw [if_neg]
      intro q
      rw [List.getD_cons_zero] at this
      rw [q] at this; cases this
    | succ j =>
      have h0 := hg 0 (Nat.succ_pos _)
      rw [List.getD_cons_zero] at h0
      rw [if_pos h0]
      congr 1
      refine ih (by simpa using h) (fun k hk => ?_) (fun hk => ?_)
      · have := hg (k + 1) (by omega)
        rwa [List.getD_cons_succ] at this
      · have := hn (by simpa using hk)
        rwa [List.getD_cons_succ] at this
theorem dX0_size_0 : decode cX0_size 0 = .ok (.aload_n 0, 1) := by decide +kernel
theorem dX0_size_1 : decode cX0_size 1 = .ok (.getfield 15, 3) := by decide +kernel
theorem dX0_size_4 : decode cX0_size 4 = .ok (.ireturn, 1) := by decide +kernel
theorem dX0_codeAt_0 : decode cX0_codeAt 0 = .ok (.iload_n 1, 1) := by decide +kernel
theorem dX0_codeAt_1 : decode cX0_codeAt 1 = .ok (.ifCond .lt 20, 3) := by decide +kernel
theorem dX0_codeAt_4 : decode cX0_codeAt 4 = .ok (.iload_n 1, 1) := by decide +kernel
theorem dX0_codeAt_5 : decode cX0_codeAt 5 = .ok (.aload_n 0, 1) := by decide +kernel
theorem dX0_codeAt_6 : decode cX0_codeAt 6 = .ok (.getfield 15, 3) := by decide +kernel
theorem dX0_codeAt_9 : decode cX0_codeAt 9 = .ok (.if_icmp .ge 12, 3) := by decide +kernel
theorem dX0_codeAt_12 : decode cX0_codeAt 12 = .ok (.aload_n 0, 1) := by decide +kernel
theorem dX0_codeAt_13 : decode cX0_codeAt 13 = .ok (.getfield 9, 3) := by decide +kernel
theorem dX0_codeAt_16 : decode cX0_codeAt 16 = .ok (.iload_n 1, 1) := by decide +kernel
theorem dX0_codeAt_17 : decode cX0_codeAt 17 = .ok (.caload, 1) := by decide +kernel
theorem dX0_codeAt_18 : decode cX0_codeAt 18 = .ok (.goto 4, 3) := by decide +kernel
theorem dX0_codeAt_21 : decode cX0_codeAt 21 = .ok (.iconst (-1), 1) := by decide +kernel
theorem dX0_codeAt_22 : decode cX0_codeAt 22 = .ok (.ireturn, 1) := by decide +kernel
theorem dX0_hashOfSigns_0 : decode cX0_hashOfSigns 0 = .ok (.iconst 0, 1) := by decide +kernel
theorem dX0_hashOfSigns_1 : decode cX0_hashOfSigns 1 = .ok (.istore_n 1, 1) := by decide +kernel
theorem dX0_hashOfSigns_2 : decode cX0_hashOfSigns 2 = .ok (.iconst 0, 1) := by decide +kernel
theorem dX0_hashOfSigns_3 : decode cX0_hashOfSigns 3 = .ok (.istore_n 2, 1) := by decide +kernel
theorem dX0_hashOfSigns_4 : decode cX0_hashOfSigns 4 = .ok (.iload_n 2, 1) := by decide +kernel
theorem dX0_hashOfSigns_5 : decode cX0_hashOfSigns 5 = .ok (.aload_n 0, 1) := by decide +kernel
theorem dX0_hashOfSigns_6 : decode cX0_hashOfSigns 6 = .ok (.getfield 15, 3) := by decide +kernel
theorem dX0_hashOfSigns_9 : decode cX0_hashOfSigns 9 = .ok (.if_icmp .ge 21, 3) := by decide +kernel
theorem dX0_hashOfSigns_12 : decode cX0_hashOfSigns 12 = .ok (.bipush 31, 2) := by decide +kernel
theorem dX0_hashOfSigns_14 : decode cX0_hashOfSigns 14 = .ok (.iload_n 1, 1) := by decide +kernel
theorem dX0_hashOfSigns_15 : decode cX0_hashOfSigns 15 = .ok (.imul, 1) := by decide +kernel
theorem dX0_hashOfSigns_16 : decode cX0_hashOfSigns 16 = .ok (.aload_n 0, 1) := by decide +kernel
theorem dX0_hashOfSigns_17 : decode cX0_hashOfSigns 17 = .ok (.getfield 9, 3) := by decide +kernel
theorem dX0_hashOfSigns_20 : decode cX0_hashOfSigns 20 = .ok (.iload_n 2, 1) := by decide +kernel
theorem dX0_hashOfSigns_21 : decode cX0_hashOfSigns 21 = .ok (.caload, 1) := by decide +kernel
theorem dX0_hashOfSigns_22 : decode cX0_hashOfSigns 22 = .ok (.iadd, 1) := by decide +kernel
theorem dX0_hashOfSigns_23 : decode cX0_hashOfSigns 23 = .ok (.istore_n 1, 1) := by decide +kernel
theorem dX0_hashOfSigns_24 : decode cX0_hashOfSigns 24 = .ok (.iinc 2 1, 3) := by decide +kernel
theorem dX0_hashOfSigns_27 : decode cX0_hashOfSigns 27 = .ok (.goto (-23), 3) := by decide +kernel
theorem dX0_hashOfSigns_30 : decode cX0_hashOfSigns 30 = .ok (.iload_n 1, 1) := by decide +kernel
theorem dX0_hashOfSigns_31 : decode cX0_hashOfSigns 31 = .ok (.ireturn, 1) := by decide +kernel
theorem dX0_trimmedBegin_0 : decode cX0_trimmedBegin 0 = .ok (.iconst 0, 1) := by decide +kernel
theorem dX0_trimmedBegin_1 : decode cX0_trimmedBegin 1 = .ok (.istore_n 2, 1) := by decide +kernel
theorem dX0_trimmedBegin_2 : decode cX0_trimmedBegin 2 = .ok (.iload_n 2, 1) := by decide +kernel
theorem dX0_trimmedBegin_3 : decode cX0_trimmedBegin 3 = .ok (.aload_n 0, 1) := by decide +kernel
theorem dX0_trimmedBegin_4 : decode cX0_trimmedBegin 4 = .ok (.getfield 15, 3) := by decide +kernel
theorem dX0_trimmedBegin_7 : decode cX0_trimmedBegin 7 = .ok (.if_icmp .ge 22, 3) := by decide +kernel
theorem dX0_trimmedBegin_10 : decode cX0_trimmedBegin 10 = .ok (.aload_n 0, 1) := by decide +kernel
theorem dX0_trimmedBegin_11 : decode cX0_trimmedBegin 11 = .ok (.getfield 9, 3) := by decide +kernel
theorem dX0_trimmedBegin_14 : decode cX0_trimmedBegin 14 = .ok (.iload_n 2, 1) := by decide +kernel
theorem dX0_trimmedBegin_15 : decode cX0_trimmedBegin 15 = .ok (.caload, 1) := by decide +kernel
theorem dX0_trimmedBegin_16 : decode cX0_trimmedBegin 16 = .ok (.iload_n 1, 1) := by decide +kernel
theorem dX0_trimmedBegin_17 : decode cX0_trimmedBegin 17 = .ok (.invokestatic 60, 3) := by decide +kernel
theorem dX0_trimmedBegin_20 : decode cX0_trimmedBegin 20 = .ok (.ifCond .eq 9, 3) := by decide +kernel
theorem dX0_trimmedBegin_23 : decode cX0_trimmedBegin 23 = .ok (.iinc 2 1, 3) := by decide +kernel
theorem dX0_trimmedBegin_26 : decode cX0_trimmedBegin 26 = .ok (.goto (-24), 3) := by decide +kernel
theorem dX0_trimmedBegin_29 : decode cX0_trimmedBegin 29 = .ok (.iload_n 2, 1) := by decide +kernel
theorem dX0_trimmedBegin_30 : decode cX0_trimmedBegin 30 = .ok (.ireturn, 1) := by decide +kernel
theorem dX0_goes_0 : decode cX0_goes 0 = .ok (.iload_n 1, 1) := by decide +kernel
theorem dX0_goes_1 : decode cX0_goes 1 = .ok (.ifCond .eq 33, 3) := by decide +kernel
theorem dX0_goes_4 : decode cX0_goes 4 = .ok (.iload_n 0, 1) := by decide +kernel
theorem dX0_goes_5 : decode cX0_goes 5 = .ok (.bipush 32, 2) := by decide +kernel
theorem dX0_goes_7 : decode cX0_goes 7 = .ok (.if_icmp .eq 21, 3) := by decide +kernel
theorem dX0_goes_10 : decode cX0_goes 10 = .ok (.iload_n 0, 1) := by decide +kernel
theorem dX0_goes_11 : decode cX0_goes 11 = .ok (.bipush 9, 2) := by decide +kernel
theorem dX0_goes_13 : decode cX0_goes 13 = .ok (.if_icmp .eq 15, 3) := by decide +kernel
theorem dX0_goes_16 : decode cX0_goes 16 = .ok (.iload_n 0, 1) := by decide +kernel
theorem dX0_goes_17 : decode cX0_goes 17 = .ok (.bipush 10, 2) := by decide +kernel
theorem dX0_goes_19 : decode cX0_goes 19 = .ok (.if_icmp .eq 9, 3) := by decide +kernel
theorem dX0_goes_22 : decode cX0_goes 22 = .ok (.iload_n 0, 1) := by decide +kernel
theorem dX0_goes_23 : decode cX0_goes 23 = .ok (.bipush 28, 2) := by decide +kernel
theorem dX0_goes_25 : decode cX0_goes 25 = .ok (.if_icmp .ne 7, 3) := by decide +kernel
theorem dX0_goes_28 : decode cX0_goes 28 = .ok (.iconst 1, 1) := by decide +kernel
theorem dX0_goes_29 : decode cX0_goes 29 = .ok (.goto 4, 3) := by decide +kernel
theorem dX0_goes_32 : decode cX0_goes 32 = .ok (.iconst 0, 1) := by decide +kernel
theorem dX0_goes_33 : decode cX0_goes 33 = .ok (.ireturn, 1) := by decide +kernel
theorem dX0_goes_34 : decode cX0_goes 34 = .ok (.iload_n 0, 1) := by decide +kernel
theorem dX0_goes_35 : decode cX0_goes 35 = .ok (.bipush 32, 2) := by decide +kernel
theorem dX0_goes_37 : decode cX0_goes 37 = .ok (.if_icmp .gt 7, 3) := by decide +kernel
theorem dX0_goes_40 : decode cX0_goes 40 = .ok (.iconst 1, 1) := by decide +kernel
theorem dX0_goes_41 : decode cX0_goes 41 = .ok (.goto 4, 3) := by decide +kernel
theorem dX0_goes_44 : decode cX0_goes 44 = .ok (.iconst 0, 1) := by decide +kernel
theorem dX0_goes_45 : decode cX0_goes 45 = .ok (.ireturn, 1) := by decide +kernel
theorem dX0_seen_0 : decode cX0_seen 0 = .ok (.iload_n 1, 1) := by decide +kernel
theorem dX0_seen_1 : decode cX0_seen 1 = .ok (.ifCond .ne 5, 3) := by decide +kernel
theorem dX0_seen_4 : decode cX0_seen 4 = .ok (.iload_n 0, 1) := by decide +kernel
theorem dX0_seen_5 : decode cX0_seen 5 = .ok (.ireturn, 1) := by decide +kernel
theorem dX0_seen_6 : decode cX0_seen 6 = .ok (.iload_n 0, 1) := by decide +kernel
theorem dX0_seen_7 : decode cX0_seen 7 = .ok (.lookupswitch 65 #[(65, 49), (66, 52), (67, 55), (88, 58), (201, 61)], 49) := by decide +kernel
theorem dX0_seen_56 : decode cX0_seen 56 = .ok (.bipush 97, 2) := by decide +kernel
theorem dX0_seen_58 : decode cX0_seen 58 = .ok (.ireturn, 1) := by decide +kernel
theorem dX0_seen_59 : decode cX0_seen 59 = .ok (.bipush 98, 2) := by decide +kernel
theorem dX0_seen_61 : decode cX0_seen 61 = .ok (.ireturn, 1) := by decide +kernel
theorem dX0_seen_62 : decode cX0_seen 62 = .ok (.bipush 99, 2) := by decide +kernel
theorem dX0_seen_64 : decode cX0_seen 64 = .ok (.ireturn, 1) := by decide +kernel
theorem dX0_seen_65 : decode cX0_seen 65 = .ok (.bipush 120, 2) := by decide +kernel
theorem dX0_seen_67 : decode cX0_seen 67 = .ok (.ireturn, 1) := by decide +kernel
theorem dX0_seen_68 : decode cX0_seen 68 = .ok (.sipush 233, 3) := by decide +kernel
theorem dX0_seen_71 : decode cX0_seen 71 = .ok (.ireturn, 1) := by decide +kernel
theorem dX0_seen_72 : decode cX0_seen 72 = .ok (.iload_n 0, 1) := by decide +kernel
theorem dX0_seen_73 : decode cX0_seen 73 = .ok (.ireturn, 1) := by decide +kernel
abbrev rmX0_size : Room := { frames := 1, cells := 0, slots := 0, locals := 20 }
theorem mX0_size {l : Launch} {G : Cx} {A : Nat → Prop} {a ca : Nat} {t : List Nat} : Met l yX0_size (.code yX0_size cX0_size 1 (some .int) :: GW) rmX0_size (PC G A [.ref a] (LA G a ca t)) (vp_Si (fun r => r = nI t.length)) 0 0 (fun _ => False) := by
  refine mstart "Signtext$Line" (by decide +kernel) rfl (Nat.le_of_ble_eq_true rfl) ?_
  intro p e s m below meth c ls hx hb hr hts hown hml hlocks hname hC hA hW hl
  have hl : lv_has ls 1 [(0, .ref a)] := hl
  have hK := hC.1
  have hS : va_S A s.heap s.heap [] := va_S.rf
  obtain ⟨t60, tok, tne, hO, f, hF, hf⟩ := hW
  refine lv_aload_n hx hb dX0_size_0 rfl (lv_at hl 0 rfl) ?_
  refine va_get (D := G.1) (ci := 4) (C := RX0) (T := TX0) (N := 2) hx hb hts inX0 hown hK (at_P hO) 0 rfl rfl 1 (by decide) (hts _ tw_1_45) (fun _ h9 => h9) rfl dX0_size_1 ?_
  exact p_i hx hb hr hlocks dX0_size_4 rfl

abbrev rmX0_codeAt : Room := { frames := 1, cells := 0, slots := 0, locals := 20 }
theorem mX0_codeAt {l : Launch} {G : Cx} {A : Nat → Prop} {a ca : Nat} {t : List Nat} {i : Nat} (hi : i < t.length) : Met l yX0_codeAt (.code yX0_codeAt cX0_codeAt 2 (some .int) :: GW) rmX0_codeAt (PC G A [.ref a, .int (nI i)] (LA G a ca t)) (vp_Si (fun r => r = nI (t.getD i 0))) 0 0 (fun _ => False) := by
  refine mstart "Signtext$Line" (by decide +kernel) rfl (Nat.le_of_ble_eq_true rfl) ?_
  intro p e s m below meth c ls hx hb hr hts hown hml hlocks hname hC hA hW hl
  have hl : lv_has ls 2 [(0, .ref a), (1, .int (nI i))] := hl
  have hK := hC.1
  have hS : va_S A s.heap s.heap [] := va_S.rf
  obtain ⟨t60, tok, tne, hO, f, hF, hf⟩ := hW
  refine lv_iload_n hx hb dX0_codeAt_0 rfl (lv_at hl 1 rfl) ?_
  refine z_lt (tgt := 21) hx hb dX0_codeAt_1 (by decide) (by omega) ?_
  refine lv_iload_n hx hb dX0_codeAt_4 rfl (lv_at hl 1 rfl) ?_
  refine lv_aload_n hx hb dX0_codeAt_5 rfl (lv_at hl 0 rfl) ?_
  refine va_get (D := G.1) (ci := 4) (C := RX0) (T := TX0) (N := 2) hx hb hts inX0 hown hK (at_P hO) 0 rfl rfl 1 (by decide) (hts _ tw_1_45) (fun _ h9 => h9) rfl dX0_codeAt_6 ?_
  refine b_ge (tgt := 21) hx hb dX0_codeAt_9 (by decide) (by omega) (by omega) (fun c_2 => ?_) (fun c_2 => ?_)
  · exact absurd c_2 (by omega)
  · refine lv_aload_n hx hb dX0_codeAt_12 rfl (lv_at hl 0 rfl) ?_
    refine va_get (D := G.1) (ci := 4) (C := RX0) (T := TX0) (N := 2) hx hb hts inX0 hown hK (at_P hO) 0 rfl rfl 0 (by decide) (hts _ tw_1_44) (fun _ h9 => h9) rfl dX0_codeAt_13 ?_
    refine lv_iload_n hx hb dX0_codeAt_16 rfl (lv_at hl 1 rfl) ?_
    refine va_cald hx hb hK (at_P hF) 0 1 rfl rfl (vp_in_nI (n := i) (N := 60) (by omega) (by omega)) dX0_codeAt_17 ?_
    refine lv_cv (show _ = nI (t.getD i 0) from by rw [nI_clamp (by omega)]; exact hf _ (by omega)) ?_
    refine lv_goto (tgt := 22) hx hb dX0_codeAt_18 (by decide) ?_
    exact p_i hx hb hr hlocks dX0_codeAt_22 rfl

abbrev rmX0_goes : Room := { frames := 0, cells := 0, slots := 0, locals := 0 }
theorem mX0_goes {l : Launch} {G : Cx} {A : Nat → Prop} {k0 : Nat} {b : Bool} (hk0 : k0 < 256) : Met l yX0_goes (.code yX0_goes cX0_goes 2 (some .boolean) :: GW) rmX0_goes (PC G A [.int (nI k0), .int (bI b)] (fun _ => True)) (vp_Si (fun r => r = bI (goesN b k0))) 0 0 (fun _ => False) := by
  refine mstart "Signtext$Line" (by decide +kernel) rfl (Nat.le_of_ble_eq_true rfl) ?_
  intro p e s m below meth c ls hx hb hr hts hown hml hlocks hname hC hA hW hl
  have hl : lv_has ls 2 [(0, .int (nI k0)), (1, .int (bI b))] := hl
  have hK := hC.1
  have hS : va_S A s.heap s.heap [] := va_S.rf
  refine lv_iload_n hx hb dX0_goes_0 rfl (lv_at hl 1 rfl) ?_
  refine f_eq (tgt := 34) hx hb dX0_goes_1 (by decide) (fun c_3 => ?_) (fun c_3 => ?_)
  · subst c_3
    refine lv_iload_n hx hb dX0_goes_34 rfl (lv_at hl 0 rfl) ?_
    refine lv_bipush (v := nI 32) hx hb dX0_goes_35 (by decide) ?_
    refine b_gt (tgt := 44) hx hb dX0_goes_37 (by decide) (by omega) (by omega) (fun c_4 => ?_) (fun c_4 => ?_)
    · refine lv_iconst (v := nI 0) hx hb dX0_goes_44 (by decide) ?_
      exact p_z (b := false) hx hb hr hlocks dX0_goes_45 (by have q : goesN false k0 = false := (by simp [goesN]; omega); rw [q])
    · refine lv_iconst (v := nI 1) hx hb dX0_goes_40 (by decide) ?_
      refine lv_goto (tgt := 45) hx hb dX0_goes_41 (by decide) ?_
      exact p_z (b := true) hx hb hr hlocks dX0_goes_45 (by have q : goesN false k0 = true := (by simp [goesN]; omega); rw [q])
  · subst c_3
    refine lv_iload_n hx hb dX0_goes_4 rfl (lv_at hl 0 rfl) ?_
    refine lv_bipush (v := nI 32) hx hb dX0_goes_5 (by decide) ?_
    refine b_eq (tgt := 28) hx hb dX0_goes_7 (by decide) (by omega) (by omega) (fun c_5 => ?_) (fun c_5 => ?_)
    · refine lv_iconst (v := nI 1) hx hb dX0_goes_28 (by decide) ?_
      refine lv_goto (tgt := 33) hx hb dX0_goes_29 (by decide) ?_
      exact p_z (b := true) hx hb hr hlocks dX0_goes_33 (by subst c_5; rfl)
    · refine lv_iload_n hx hb dX0_goes_10 rfl (lv_at hl 0 rfl) ?_
      refine lv_bipush (v := nI 9) hx hb dX0_goes_11 (by decide) ?_
      refine b_eq (tgt := 28) hx hb dX0_goes_13 (by decide) (by omega) (by omega) (fun c_6 => ?_) (fun c_6 => ?_)
      · refine lv_iconst (v := nI 1) hx hb dX0_goes_28 (by decide) ?_
        refine lv_goto (tgt := 33) hx hb dX0_goes_29 (by decide) ?_
        exact p_z (b := true) hx hb hr hlocks dX0_goes_33 (by subst c_6; rfl)
      · refine lv_iload_n hx hb dX0_goes_16 rfl (lv_at hl 0 rfl) ?_
        refine lv_bipush (v := nI 10) hx hb dX0_goes_17 (by decide) ?_
        refine b_eq (tgt := 28) hx hb dX0_goes_19 (by decide) (by omega) (by omega) (fun c_7 => ?_) (fun c_7 => ?_)
        · refine lv_iconst (v := nI 1) hx hb dX0_goes_28 (by decide) ?_
          refine lv_goto (tgt := 33) hx hb dX0_goes_29 (by decide) ?_
          exact p_z (b := true) hx hb hr hlocks dX0_goes_33 (by subst c_7; rfl)
        · refine lv_iload_n hx hb dX0_goes_22 rfl (lv_at hl 0 rfl) ?_
          refine lv_bipush (v := nI 28) hx hb dX0_goes_23 (by decide) ?_
          refine b_ne (tgt := 32) hx hb dX0_goes_25 (by decide) (by omega) (by omega) (fun c_8 => ?_) (fun c_8 => ?_)
          · refine lv_iconst (v := nI 0) hx hb dX0_goes_32 (by decide) ?_
            exact p_z (b := false) hx hb hr hlocks dX0_goes_33 (by have q : goesN true k0 = false := (by simp [goesN]; omega); rw [q])
          · refine lv_iconst (v := nI 1) hx hb dX0_goes_28 (by decide) ?_
            refine lv_goto (tgt := 33) hx hb dX0_goes_29 (by decide) ?_
            exact p_z (b := true) hx hb hr hlocks dX0_goes_33 (by subst c_8; rfl)

abbrev rmX0_seen : Room := { frames := 0, cells := 0, slots := 0, locals := 0 }
theorem mX0_seen {l : Launch} {G : Cx} {A : Nat → Prop} {k0 : Nat} {b : Bool} (hk0 : k0 < 256) : Met l yX0_seen (.code yX0_seen cX0_seen 2 (some .int) :: GW) rmX0_seen (PC G A [.int (nI k0), .int (bI b)] (fun _ => True)) (vp_Si (fun r => r = nI (viewN b k0))) 0 0 (fun _ => False) := by
  refine mstart "Signtext$Line" (by decide +kernel) rfl (Nat.le_of_ble_eq_true rfl) ?_
  intro p e s m below meth c ls hx hb hr hts hown hml hlocks hname hC hA hW hl
  have hl : lv_has ls 2 [(0, .int (nI k0)), (1, .int (bI b))] := hl
  have hK := hC.1
  have hS : va_S A s.heap s.heap [] := va_S.rf
  refine lv_iload_n hx hb dX0_seen_0 rfl (lv_at hl 1 rfl) ?_
  refine f_ne (tgt := 6) hx hb dX0_seen_1 (by decide) (fun c_9 => ?_) (fun c_9 => ?_)
  · subst c_9
    refine lv_iload_n hx hb dX0_seen_6 rfl (lv_at hl 0 rfl) ?_
    by_cases c65 : k0 = 65
    · subst c65
      refine lv_lookup (tgt := 56) hx hb dX0_seen_7 (by decide) (off := 49) (by decide) (by decide) ?_
      refine lv_bipush (v := nI 97) hx hb dX0_seen_56 (by decide) ?_
      exact p_i hx hb hr hlocks dX0_seen_58 rfl
    by_cases c66 : k0 = 66
    · subst c66
      refine lv_lookup (tgt := 59) hx hb dX0_seen_7 (by decide) (off := 52) (by decide) (by decide) ?_
      refine lv_bipush (v := nI 98) hx hb dX0_seen_59 (by decide) ?_
      exact p_i hx hb hr hlocks dX0_seen_61 rfl
    by_cases c67 : k0 = 67
    · subst c67
      refine lv_lookup (tgt := 62) hx hb dX0_seen_7 (by decide) (off := 55) (by decide) (by decide) ?_
      refine lv_bipush (v := nI 99) hx hb dX0_seen_62 (by decide) ?_
      exact p_i hx hb hr hlocks dX0_seen_64 rfl
    by_cases c88 : k0 = 88
    · subst c88
      refine lv_lookup (tgt := 65) hx hb dX0_seen_7 (by decide) (off := 58) (by decide) (by decide) ?_
      refine lv_bipush (v := nI 120) hx hb dX0_seen_65 (by decide) ?_
      exact p_i hx hb hr hlocks dX0_seen_67 rfl
    by_cases c201 : k0 = 201
    · subst c201
      refine lv_lookup (tgt := 68) hx hb dX0_seen_7 (by decide) (off := 61) (by decide) (by decide) ?_
      refine lv_sipush (v := nI 233) hx hb dX0_seen_68 (by decide) ?_
      exact p_i hx hb hr hlocks dX0_seen_71 rfl
    refine lv_lookup (tgt := 72) hx hb dX0_seen_7 (by decide) (off := 65) (by rw [nI_toInt (by omega)]; exact sw_seen c65 c66 c67 c88 c201) (by decide) ?_
    refine lv_iload_n hx hb dX0_seen_72 rfl (lv_at hl 0 rfl) ?_
    exact p_i hx hb hr hlocks dX0_seen_73 (by have q : viewN true k0 = k0 := (by simp [viewN, litN, c65, c66, c67, c88, c201]); rw [q])
  · subst c_9
    refine lv_iload_n hx hb dX0_seen_4 rfl (lv_at hl 0 rfl) ?_
    exact p_i hx hb hr hlocks dX0_seen_5 rfl

abbrev rmX0_hashOfSigns : Room := { frames := 1, cells := 0, slots := 0, locals := 20 }
theorem mX0_hashOfSigns {l : Launch} {G : Cx} {A : Nat → Prop} {a ca : Nat} {t : List Nat} : Met l yX0_hashOfSigns (.code yX0_hashOfSigns cX0_hashOfSigns 3 (some .int) :: GW) rmX0_hashOfSigns (PC G A [.ref a] (LA G a ca t)) (vp_Si (fun r => r = hashL t)) 0 0 (fun _ => False) := by
  refine mstart "Signtext$Line" (by decide +kernel) rfl (Nat.le_of_ble_eq_true rfl) ?_
  intro p e s m below meth c ls hx hb hr hts hown hml hlocks hname hC hA hW hl
  have hl : lv_has ls 3 [(0, .ref a)] := hl
  have hK := hC.1
  have hS : va_S A s.heap s.heap [] := va_S.rf
  obtain ⟨t60, tok, tne, hO, f, hF, hf⟩ := hW
  refine lv_iconst (v := nI 0) hx hb dX0_hashOfSigns_0 (by decide) ?_
  refine lv_istore_n (lv' := [(1, .int (nI 0)), (0, .ref a)]) hx hb dX0_hashOfSigns_1 rfl hl (by decide) rfl (fun ls hl => ?_)
  refine lv_iconst (v := nI 0) hx hb dX0_hashOfSigns_2 (by decide) ?_
  refine lv_istore_n (lv' := [(2, .int (nI 0)), (1, .int (nI 0)), (0, .ref a)]) hx hb dX0_hashOfSigns_3 rfl hl (by decide) rfl (fun ls hl => ?_)
  have hl : lv_has ls 3 [(2, .int (nI 0)), (1, .int (hashL (t.take 0))), (0, .ref a)] := hl
  refine nloop (P := fun j => ∀ (ls : Array Slot) , lv_has ls 3 [(2, .int (nI j)), (1, .int (hashL (t.take j))), (0, .ref a)] → W p l e rmX0_hashOfSigns s m [.ref a].toArray below meth c s.heap [] 0 0 (MQ below (vp_Si (fun r => r = hashL t)) [.ref a].toArray s 0 0 (fun _ => False)) (F0 m 4 ls [])) t.length ?_ 0 (Nat.zero_le _) ls  hl 
  clear hl
  intro j hj ih ls  hl
  refine lv_iload_n hx hb dX0_hashOfSigns_4 rfl (lv_at hl 0 rfl) ?_
  refine lv_aload_n hx hb dX0_hashOfSigns_5 rfl (lv_at hl 2 rfl) ?_
  refine va_get (D := G.1) (ci := 4) (C := RX0) (T := TX0) (N := 2) hx hb hts inX0 hown hK (at_P hO) 0 rfl rfl 1 (by decide) (hts _ tw_1_45) (fun _ h9 => h9) rfl dX0_hashOfSigns_6 ?_
  refine b_ge (tgt := 30) hx hb dX0_hashOfSigns_9 (by decide) (by omega) (by omega) (fun c_10 => ?_) (fun c_10 => ?_)
  · refine lv_iload_n hx hb dX0_hashOfSigns_30 rfl (lv_at hl 1 rfl) ?_
    exact p_i hx hb hr hlocks dX0_hashOfSigns_31 (by rw [show j = t.length by omega, List.take_length])
  · refine lv_bipush (v := nI 31) hx hb dX0_hashOfSigns_12 (by decide) ?_
    refine lv_iload_n hx hb dX0_hashOfSigns_14 rfl (lv_at hl 1 rfl) ?_
    refine lv_imul hx hb dX0_hashOfSigns_15 ?_
    refine lv_aload_n hx hb dX0_hashOfSigns_16 rfl (lv_at hl 2 rfl) ?_
    refine va_get (D := G.1) (ci := 4) (C := RX0) (T := TX0) (N := 2) hx hb hts inX0 hown hK (at_P hO) 0 rfl rfl 0 (by decide) (hts _ tw_1_44) (fun _ h9 => h9) rfl dX0_hashOfSigns_17 ?_
    refine lv_iload_n hx hb dX0_hashOfSigns_20 rfl (lv_at hl 0 rfl) ?_
    refine va_cald hx hb hK (at_P hF) 0 1 rfl rfl (vp_in_nI (n := j) (N := 60) (by omega) (by omega)) dX0_hashOfSigns_21 ?_
    refine lv_cv (show _ = nI (t.getD j 0) from by rw [nI_clamp (by omega)]; exact hf _ (by omega)) ?_
    refine lv_iadd hx hb dX0_hashOfSigns_22 ?_
    refine lv_cv (hashL_succ (by omega)).symm ?_
    refine lv_istore_n (lv' := [(1, .int (hashL (t.take (j + 1)))), (2, .int (nI j)), (0, .ref a)]) hx hb dX0_hashOfSigns_23 rfl hl (by decide) rfl (fun ls hl => ?_)
    refine lv_iinc (v := nI (j + 1)) (lv' := [(2, .int (nI (j + 1))), (1, .int (hashL (t.take (j + 1)))), (0, .ref a)]) hx hb dX0_hashOfSigns_24 hl (k := 1) rfl (nI_add j 1) (by decide) rfl (fun ls hl => ?_)
    refine lv_goto (tgt := 4) hx hb dX0_hashOfSigns_27 (by decide) ?_
    exact ih (j + 1) (by omega) (by omega) ls hl

abbrev rmX0_trimmedBegin : Room := { frames := 1, cells := 0, slots := 0, locals := 21 }
theorem mX0_trimmedBegin {l : Launch} {G : Cx} {A : Nat → Prop} {a ca : Nat} {t : List Nat} {b : Bool} : Met l yX0_trimmedBegin (.code yX0_trimmedBegin cX0_trimmedBegin 3 (some .int) :: GW) rmX0_trimmedBegin (PC G A [.ref a, .int (bI b)] (LA G a ca t)) (vp_Si (fun r => r = nI (tbL b t))) 0 0 (fun _ => False) := by
  refine mstart "Signtext$Line" (by decide +kernel) rfl (Nat.le_of_ble_eq_true rfl) ?_
  intro p e s m below meth c ls hx hb hr hts hown hml hlocks hname hC hA hW hl
  have hl : lv_has ls 3 [(0, .ref a), (1, .int (bI b))] := hl
  have hK := hC.1
  have hS : va_S A s.heap s.heap [] := va_S.rf
  obtain ⟨t60, tok, tne, hO, f, hF, hf⟩ := hW
  refine lv_iconst (v := nI 0) hx hb dX0_trimmedBegin_0 (by decide) ?_
  refine lv_istore_n (lv' := [(2, .int (nI 0)), (0, .ref a), (1, .int (bI b))]) hx hb dX0_trimmedBegin_1 rfl hl (by decide) rfl (fun ls hl => ?_)
  refine nloop (P := fun j => ∀ (ls : Array Slot) , lv_has ls 3 [(2, .int (nI j)), (0, .ref a), (1, .int (bI b))] → (∀ k : Nat, k < j → goesN b (t.getD k 0) = true) → W p l e rmX0_trimmedBegin s m [.ref a, .int (bI b)].toArray below meth c s.heap [] 0 0 (MQ below (vp_Si (fun r => r = nI (tbL b t))) [.ref a, .int (bI b)].toArray s 0 0 (fun _ => False)) (F0 m 2 ls [])) t.length ?_ 0 (Nat.zero_le _) ls  hl (fun k hk => absurd hk (Nat.not_lt_zero k))
  clear hl
  intro j hj ih ls  hl
  intro hg
  refine lv_iload_n hx hb dX0_trimmedBegin_2 rfl (lv_at hl 0 rfl) ?_
  refine lv_aload_n hx hb dX0_trimmedBegin_3 rfl (lv_at hl 1 rfl) ?_
  refine va_get (D := G.1) (ci := 4) (C := RX0) (T := TX0) (N := 2) hx hb hts inX0 hown hK (at_P hO) 0 rfl rfl 1 (by decide) (hts _ tw_1_45) (fun _ h9 => h9) rfl dX0_trimmedBegin_4 ?_
  refine b_ge (tgt := 29) hx hb dX0_trimmedBegin_7 (by decide) (by omega) (by omega) (fun c_11 => ?_) (fun c_11 => ?_)
  · refine lv_iload_n hx hb dX0_trimmedBegin_29 rfl (lv_at hl 0 rfl) ?_
    exact p_i hx hb hr hlocks dX0_trimmedBegin_30 (by rw [tbL_eq (j := j) (by omega) hg (fun q => absurd q (by omega))])
  · refine lv_aload_n hx hb dX0_trimmedBegin_10 rfl (lv_at hl 1 rfl) ?_
    refine va_get (D := G.1) (ci := 4) (C := RX0) (T := TX0) (N := 2) hx hb hts inX0 hown hK (at_P hO) 0 rfl rfl 0 (by decide) (hts _ tw_1_44) (fun _ h9 => h9) rfl dX0_trimmedBegin_11 ?_
    refine lv_iload_n hx hb dX0_trimmedBegin_14 rfl (lv_at hl 0 rfl) ?_
    refine va_cald hx hb hK (at_P hF) 0 1 rfl rfl (vp_in_nI (n := j) (N := 60) (by omega) (by omega)) dX0_trimmedBegin_15 ?_
    refine lv_cv (show _ = nI (t.getD j 0) from by rw [nI_clamp (by omega)]; exact hf _ (by omega)) ?_
    refine lv_iload_n hx hb dX0_trimmedBegin_16 rfl (lv_at hl 2 rfl) ?_
    refine kS_i (A := A) (As := [.int (nI (t.getD j 0)), .int (bI b)]) (rest := []) ⟨hx, hb, hml, hown, hts⟩ (mX0_goes (A := A) (tok j)) (va_cwS 2 hts (gS tw_2_47 tw_2_48 tw_1_2 tw_2_49) rfl rfl rfl (by decide +kernel) ⟨Nat.le_of_ble_eq_true rfl, Nat.le_of_ble_eq_true rfl⟩) hC hS hA  trivial rfl rfl hl.1 (Nat.le_of_ble_eq_true rfl) ⟨Nat.zero_le _, Nat.zero_le _⟩ dX0_trimmedBegin_17 (fun r9 h9 => lv_cv h9 ?_)
    refine f_eq (tgt := 29) hx hb dX0_trimmedBegin_20 (by decide) (fun c_12 => ?_) (fun c_12 => ?_)
    · refine lv_iload_n hx hb dX0_trimmedBegin_29 rfl (lv_at hl 0 rfl) ?_
      exact p_i hx hb hr hlocks dX0_trimmedBegin_30 (by rw [tbL_eq (j := j) (by omega) hg (fun _ => c_12)])
    · refine lv_iinc (v := nI (j + 1)) (lv' := [(2, .int (nI (j + 1))), (0, .ref a), (1, .int (bI b))]) hx hb dX0_trimmedBegin_23 hl (k := 0) rfl (nI_add j 1) (by decide) rfl (fun ls hl => ?_)
      refine lv_goto (tgt := 2) hx hb dX0_trimmedBegin_26 (by decide) ?_
      exact ih (j + 1) (by omega) (by omega) ls hl (fun k hk => by rcases Nat.lt_succ_iff_lt_or_eq.mp hk with q | q; exact hg k q; rw [q]; exact c_12)
end
section
/-! Line, 2: readers -/
def isTe (b : Bool) (t : List Nat) (e9 : Nat) : Prop := tbL b t ≤ e9 ∧ e9 ≤ t.length ∧ (∀ k : Nat, e9 ≤ k → k < t.length → goesN b (t.getD k 0) = true) ∧ (tbL b t < e9 → goesN b (t.getD (e9 - 1) 0) = false)
theorem isTe.eq {b : Bool} {t : List Nat} {x y : Nat} (h1 : isTe b t x) (h2 : isTe b t y) : x = y := by
  have key : ∀ x y : Nat, isTe b t x → isTe b t y → ¬ x < y := by
    intro x y h1 h2 h
    have h3 := h2.2.2.2 (Nat.lt_of_le_of_lt h1.1 h)
    have h4 := h1.2.2.1 (y - 1) (by omega) (by have := h2.2.1; omega)
    rw [h4] at h3; cases h3
  have := key x y h1 h2
  have := key y x h2 h1
  omega
/-- the first, the last place of P -/
def fstR (P : Nat → Prop) (r : Int32) : Prop := (∃ k, P k ∧ (∀ j, j < k → ¬ P j) ∧ r = nI k) ∨ ((∀ k, ¬ P k) ∧ r = -1)
def lstR (P : Nat → Prop) (r : Int32) : Prop := (∃ k, P k ∧ (∀ j, k < j → ¬ P j) ∧ r = nI k) ∨ ((∀ k, ¬ P k) ∧ r = -1)
theorem fstR.eq {P : Nat → Prop} {x y : Int32} (h1 : fstR P x) (h2 : fstR P y) : x = y := by
  rcases h1 with ⟨k, p1, q1, rfl⟩ | ⟨q1, rfl⟩ <;> rcases h2 with ⟨j, p2, q2, rfl⟩ | ⟨q2, rfl⟩
  · rcases Nat.lt_trichotomy k j with h | h | h
    · exact absurd p1 (q2 _ h)
    · rw [h]
    · exact absurd p2 (q1 _ h)
  · exact absurd p1 (q2 _)
  · exact absurd p2 (q1 _)
  · rfl
theorem lstR.eq {P : Nat → Prop} {x y : Int32} (h1 : lstR P x) (h2 : lstR P y) : x = y := by
  rcases h1 with ⟨k, p1, q1, rfl⟩ | ⟨q1, rfl⟩ <;> rcases h2 with ⟨j, p2, q2, rfl⟩ | ⟨q2, rfl⟩
  · rcases Nat.lt_trichotomy k j with h | h | h
    · exact absurd p2 (q1 _ h)
    · rw [h]
    · exact absurd p1 (q2 _ h)
  · exact absurd p1 (q2 _)
  · exact absurd p2 (q1 _)
  · rfl
theorem m1_eq (j : Nat) : nI j + Int32.ofInt (-1) = nI j - 1 := by rw [Int32.sub_eq_add_neg]; rfl
theorem dX0_isAllWhite_0 : decode cX0_isAllWhite 0 = .ok (.aload_n 0, 1) := by decide +kernel
theorem dX0_isAllWhite_1 : decode cX0_isAllWhite 1 = .ok (.iconst 1, 1) := by decide +kernel
theorem dX0_isAllWhite_2 : decode cX0_isAllWhite 2 = .ok (.invokevirtual 56, 3) := by decide +kernel
theorem dX0_isAllWhite_5 : decode cX0_isAllWhite 5 = .ok (.aload_n 0, 1) := by decide +kernel
theorem dX0_isAllWhite_6 : decode cX0_isAllWhite 6 = .ok (.getfield 15, 3) := by decide +kernel
theorem dX0_isAllWhite_9 : decode cX0_isAllWhite 9 = .ok (.if_icmp .ne 7, 3) := by decide +kernel
theorem dX0_isAllWhite_12 : decode cX0_isAllWhite 12 = .ok (.iconst 1, 1) := by decide +kernel
theorem dX0_isAllWhite_13 : decode cX0_isAllWhite 13 = .ok (.goto 4, 3) := by decide +kernel
theorem dX0_isAllWhite_16 : decode cX0_isAllWhite 16 = .ok (.iconst 0, 1) := by decide +kernel
theorem dX0_isAllWhite_17 : decode cX0_isAllWhite 17 = .ok (.ireturn, 1) := by decide +kernel
theorem dX0_trimmedEnd_0 : decode cX0_trimmedEnd 0 = .ok (.aload_n 0, 1) := by decide +kernel
theorem dX0_trimmedEnd_1 : decode cX0_trimmedEnd 1 = .ok (.iload_n 1, 1) := by decide +kernel
theorem dX0_trimmedEnd_2 : decode cX0_trimmedEnd 2 = .ok (.invokevirtual 56, 3) := by decide +kernel
theorem dX0_trimmedEnd_5 : decode cX0_trimmedEnd 5 = .ok (.istore_n 2, 1) := by decide +kernel
theorem dX0_trimmedEnd_6 : decode cX0_trimmedEnd 6 = .ok (.aload_n 0, 1) := by decide +kernel
theorem dX0_trimmedEnd_7 : decode cX0_trimmedEnd 7 = .ok (.getfield 15, 3) := by decide +kernel
theorem dX0_trimmedEnd_10 : decode cX0_trimmedEnd 10 = .ok (.istore_n 3, 1) := by decide +kernel
theorem dX0_trimmedEnd_11 : decode cX0_trimmedEnd 11 = .ok (.iload_n 3, 1) := by decide +kernel
theorem dX0_trimmedEnd_12 : decode cX0_trimmedEnd 12 = .ok (.iload_n 2, 1) := by decide +kernel
theorem dX0_trimmedEnd_13 : decode cX0_trimmedEnd 13 = .ok (.if_icmp .le 24, 3) := by decide +kernel
theorem dX0_trimmedEnd_16 : decode cX0_trimmedEnd 16 = .ok (.aload_n 0, 1) := by decide +kernel
theorem dX0_trimmedEnd_17 : decode cX0_trimmedEnd 17 = .ok (.getfield 9, 3) := by decide +kernel
theorem dX0_trimmedEnd_20 : decode cX0_trimmedEnd 20 = .ok (.iload_n 3, 1) := by decide +kernel
theorem dX0_trimmedEnd_21 : decode cX0_trimmedEnd 21 = .ok (.iconst 1, 1) := by decide +kernel
theorem dX0_trimmedEnd_22 : decode cX0_trimmedEnd 22 = .ok (.isub, 1) := by decide +kernel
theorem dX0_trimmedEnd_23 : decode cX0_trimmedEnd 23 = .ok (.caload, 1) := by decide +kernel
theorem dX0_trimmedEnd_24 : decode cX0_trimmedEnd 24 = .ok (.iload_n 1, 1) := by decide +kernel
theorem dX0_trimmedEnd_25 : decode cX0_trimmedEnd 25 = .ok (.invokestatic 60, 3) := by decide +kernel
theorem dX0_trimmedEnd_28 : decode cX0_trimmedEnd 28 = .ok (.ifCond .eq 9, 3) := by decide +kernel
theorem dX0_trimmedEnd_31 : decode cX0_trimmedEnd 31 = .ok (.iinc 3 (-1), 3) := by decide +kernel
theorem dX0_trimmedEnd_34 : decode cX0_trimmedEnd 34 = .ok (.goto (-23), 3) := by decide +kernel
theorem dX0_trimmedEnd_37 : decode cX0_trimmedEnd 37 = .ok (.iload_n 3, 1) := by decide +kernel
theorem dX0_trimmedEnd_38 : decode cX0_trimmedEnd 38 = .ok (.ireturn, 1) := by decide +kernel
theorem dX0_firstPlaceOfCode_0 : decode cX0_firstPlaceOfCode 0 = .ok (.iload_n 2, 1) := by decide +kernel
theorem dX0_firstPlaceOfCode_1 : decode cX0_firstPlaceOfCode 1 = .ok (.istore_n 3, 1) := by decide +kernel
theorem dX0_firstPlaceOfCode_2 : decode cX0_firstPlaceOfCode 2 = .ok (.iload_n 3, 1) := by decide +kernel
theorem dX0_firstPlaceOfCode_3 : decode cX0_firstPlaceOfCode 3 = .ok (.aload_n 0, 1) := by decide +kernel
theorem dX0_firstPlaceOfCode_4 : decode cX0_firstPlaceOfCode 4 = .ok (.getfield 15, 3) := by decide +kernel
theorem dX0_firstPlaceOfCode_7 : decode cX0_firstPlaceOfCode 7 = .ok (.if_icmp .ge 20, 3) := by decide +kernel
theorem dX0_firstPlaceOfCode_10 : decode cX0_firstPlaceOfCode 10 = .ok (.aload_n 0, 1) := by decide +kernel
theorem dX0_firstPlaceOfCode_11 : decode cX0_firstPlaceOfCode 11 = .ok (.iload_n 3, 1) := by decide +kernel
theorem dX0_firstPlaceOfCode_12 : decode cX0_firstPlaceOfCode 12 = .ok (.invokevirtual 19, 3) := by decide +kernel
theorem dX0_firstPlaceOfCode_15 : decode cX0_firstPlaceOfCode 15 = .ok (.iload_n 1, 1) := by decide +kernel
theorem dX0_firstPlaceOfCode_16 : decode cX0_firstPlaceOfCode 16 = .ok (.if_icmp .ne 5, 3) := by decide +kernel
theorem dX0_firstPlaceOfCode_19 : decode cX0_firstPlaceOfCode 19 = .ok (.iload_n 3, 1) := by decide +kernel
theorem dX0_firstPlaceOfCode_20 : decode cX0_firstPlaceOfCode 20 = .ok (.ireturn, 1) := by decide +kernel
theorem dX0_firstPlaceOfCode_21 : decode cX0_firstPlaceOfCode 21 = .ok (.iinc 3 1, 3) := by decide +kernel
theorem dX0_firstPlaceOfCode_24 : decode cX0_firstPlaceOfCode 24 = .ok (.goto (-22), 3) := by decide +kernel
theorem dX0_firstPlaceOfCode_27 : decode cX0_firstPlaceOfCode 27 = .ok (.iconst (-1), 1) := by decide +kernel
theorem dX0_firstPlaceOfCode_28 : decode cX0_firstPlaceOfCode 28 = .ok (.ireturn, 1) := by decide +kernel
theorem dX0_lastPlaceOfCode_0 : decode cX0_lastPlaceOfCode 0 = .ok (.aload_n 0, 1) := by decide +kernel
theorem dX0_lastPlaceOfCode_1 : decode cX0_lastPlaceOfCode 1 = .ok (.getfield 15, 3) := by decide +kernel
theorem dX0_lastPlaceOfCode_4 : decode cX0_lastPlaceOfCode 4 = .ok (.iconst 1, 1) := by decide +kernel
theorem dX0_lastPlaceOfCode_5 : decode cX0_lastPlaceOfCode 5 = .ok (.isub, 1) := by decide +kernel
theorem dX0_lastPlaceOfCode_6 : decode cX0_lastPlaceOfCode 6 = .ok (.istore_n 2, 1) := by decide +kernel
theorem dX0_lastPlaceOfCode_7 : decode cX0_lastPlaceOfCode 7 = .ok (.iload_n 2, 1) := by decide +kernel
theorem dX0_lastPlaceOfCode_8 : decode cX0_lastPlaceOfCode 8 = .ok (.ifCond .lt 21, 3) := by decide +kernel
theorem dX0_lastPlaceOfCode_11 : decode cX0_lastPlaceOfCode 11 = .ok (.aload_n 0, 1) := by decide +kernel
theorem dX0_lastPlaceOfCode_12 : decode cX0_lastPlaceOfCode 12 = .ok (.getfield 9, 3) := by decide +kernel
theorem dX0_lastPlaceOfCode_15 : decode cX0_lastPlaceOfCode 15 = .ok (.iload_n 2, 1) := by decide +kernel
theorem dX0_lastPlaceOfCode_16 : decode cX0_lastPlaceOfCode 16 = .ok (.caload, 1) := by decide +kernel
theorem dX0_lastPlaceOfCode_17 : decode cX0_lastPlaceOfCode 17 = .ok (.iload_n 1, 1) := by decide +kernel
theorem dX0_lastPlaceOfCode_18 : decode cX0_lastPlaceOfCode 18 = .ok (.if_icmp .ne 5, 3) := by decide +kernel
theorem dX0_lastPlaceOfCode_21 : decode cX0_lastPlaceOfCode 21 = .ok (.iload_n 2, 1) := by decide +kernel
theorem dX0_lastPlaceOfCode_22 : decode cX0_lastPlaceOfCode 22 = .ok (.ireturn, 1) := by decide +kernel
theorem dX0_lastPlaceOfCode_23 : decode cX0_lastPlaceOfCode 23 = .ok (.iinc 2 (-1), 3) := by decide +kernel
theorem dX0_lastPlaceOfCode_26 : decode cX0_lastPlaceOfCode 26 = .ok (.goto (-19), 3) := by decide +kernel
theorem dX0_lastPlaceOfCode_29 : decode cX0_lastPlaceOfCode 29 = .ok (.iconst (-1), 1) := by decide +kernel
theorem dX0_lastPlaceOfCode_30 : decode cX0_lastPlaceOfCode 30 = .ok (.ireturn, 1) := by decide +kernel
abbrev rmX0_trimmedEnd : Room := { frames := 2, cells := 0, slots := 0, locals := 43 }
theorem mX0_trimmedEnd {l : Launch} {G : Cx} {A : Nat → Prop} {a ca : Nat} {t : List Nat} {b : Bool} : Met l yX0_trimmedEnd (.code yX0_trimmedEnd cX0_trimmedEnd 4 (some .int) :: GW) rmX0_trimmedEnd (PC G A [.ref a, .int (bI b)] (LA G a ca t)) (vp_Si (fun r => ∃ e9, isTe b t e9 ∧ r = nI e9)) 0 0 (fun _ => False) := by
  refine mstart "Signtext$Line" (by decide +kernel) rfl (Nat.le_of_ble_eq_true rfl) ?_
  intro p e s m below meth c ls hx hb hr hts hown hml hlocks hname hC hA hW hl
  have hl : lv_has ls 4 [(0, .ref a), (1, .int (bI b))] := hl
  have hK := hC.1
  have hS : va_S A s.heap s.heap [] := va_S.rf
  have hW0 := hW
  obtain ⟨t60, tok, tne, hO, f, hF, hf⟩ := hW
  refine lv_aload_n hx hb dX0_trimmedEnd_0 rfl (lv_at hl 0 rfl) ?_
  refine lv_iload_n hx hb dX0_trimmedEnd_1 rfl (lv_at hl 1 rfl) ?_
  have tb9 := tbL_le b t
  refine kV_i (A := A) (b := a) (As := [.int (bI b)]) (rest := []) ⟨hx, hb, hml, hown, hts⟩ (mX0_trimmedBegin (A := A) (ca := ca)) (cwV 1 hts (gV tw_2_54 tw_2_44 tw_2_45 tw_1_2 tw_2_46) rfl rfl rfl (by decide +kernel) ⟨Nat.le_of_ble_eq_true rfl, Nat.le_of_ble_eq_true rfl⟩) hC hS hA (hW0.recv hK) hW0 rfl rfl hl.1 (Nat.le_of_ble_eq_true rfl) ⟨Nat.zero_le _, Nat.zero_le _⟩ dX0_trimmedEnd_2 (fun r9 h9 => lv_cv h9 ?_)
  refine lv_istore_n (lv' := [(2, .int (nI (tbL b t))), (0, .ref a), (1, .int (bI b))]) hx hb dX0_trimmedEnd_5 rfl hl (by decide) rfl (fun ls hl => ?_)
  refine lv_aload_n hx hb dX0_trimmedEnd_6 rfl (lv_at hl 1 rfl) ?_
  refine va_get (D := G.1) (ci := 4) (C := RX0) (T := TX0) (N := 2) hx hb hts inX0 hown hK (at_P hO) 0 rfl rfl 1 (by decide) (hts _ tw_1_45) (fun _ h9 => h9) rfl dX0_trimmedEnd_7 ?_
  refine lv_istore_n (lv' := [(3, .int (nI t.length)), (2, .int (nI (tbL b t))), (0, .ref a), (1, .int (bI b))]) hx hb dX0_trimmedEnd_10 rfl hl (by decide) rfl (fun ls hl => ?_)
  refine dloop (P := fun j => ∀ (ls : Array Slot) , lv_has ls 4 [(3, .int (nI j)), (2, .int (nI (tbL b t))), (0, .ref a), (1, .int (bI b))] → j ≤ t.length → tbL b t ≤ j → (∀ k : Nat, j ≤ k → k < t.length → goesN b (t.getD k 0) = true) → W p l e rmX0_trimmedEnd s m [.ref a, .int (bI b)].toArray below meth c s.heap [] 0 0 (MQ below (vp_Si (fun r => ∃ e9, isTe b t e9 ∧ r = nI e9)) [.ref a, .int (bI b)].toArray s 0 0 (fun _ => False)) (F0 m 11 ls [])) ?_ t.length ls  hl (Nat.le_refl _) tb9 (fun k h1 h2 => absurd h2 (by omega))
  clear hl
  intro j ih ls  hl
  intro hj hj2 hg
  refine lv_iload_n hx hb dX0_trimmedEnd_11 rfl (lv_at hl 0 rfl) ?_
  refine lv_iload_n hx hb dX0_trimmedEnd_12 rfl (lv_at hl 1 rfl) ?_
  refine b_le (tgt := 37) hx hb dX0_trimmedEnd_13 (by decide) (by omega) (by omega) (fun c_1 => ?_) (fun c_1 => ?_)
  · refine lv_iload_n hx hb dX0_trimmedEnd_37 rfl (lv_at hl 0 rfl) ?_
    exact p_i hx hb hr hlocks dX0_trimmedEnd_38 ⟨j, ⟨hj2, hj, hg, fun q => absurd q (by omega)⟩, rfl⟩
  · obtain ⟨i, rfl⟩ : ∃ i, j = i + 1 := ⟨j - 1, by omega⟩
    refine lv_aload_n hx hb dX0_trimmedEnd_16 rfl (lv_at hl 2 rfl) ?_
    refine va_get (D := G.1) (ci := 4) (C := RX0) (T := TX0) (N := 2) hx hb hts inX0 hown hK (at_P hO) 0 rfl rfl 0 (by decide) (hts _ tw_1_44) (fun _ h9 => h9) rfl dX0_trimmedEnd_17 ?_
    refine lv_iload_n hx hb dX0_trimmedEnd_20 rfl (lv_at hl 0 rfl) ?_
    refine lv_iconst (v := nI 1) hx hb dX0_trimmedEnd_21 (by decide) ?_
    refine lv_isub hx hb dX0_trimmedEnd_22 ?_
    refine lv_cv (nI_pred i) ?_
    refine va_cald hx hb hK (at_P hF) 0 1 rfl rfl (vp_in_nI (n := i) (N := 60) (by omega) (by omega)) dX0_trimmedEnd_23 ?_
    refine lv_cv (show _ = nI (t.getD i 0) from by rw [nI_clamp (by omega)]; exact hf _ (by omega)) ?_
    refine lv_iload_n hx hb dX0_trimmedEnd_24 rfl (lv_at hl 3 rfl) ?_
    refine kS_i (A := A) (As := [.int (nI (t.getD i 0)), .int (bI b)]) (rest := []) ⟨hx, hb, hml, hown, hts⟩ (mX0_goes (A := A) (tok i)) (va_cwS 2 hts (gS tw_2_47 tw_2_48 tw_1_2 tw_2_49) rfl rfl rfl (by decide +kernel) ⟨Nat.le_of_ble_eq_true rfl, Nat.le_of_ble_eq_true rfl⟩) hC hS hA  trivial rfl rfl hl.1 (Nat.le_of_ble_eq_true rfl) ⟨Nat.zero_le _, Nat.zero_le _⟩ dX0_trimmedEnd_25 (fun r9 h9 => lv_cv h9 ?_)
    refine f_eq (tgt := 37) hx hb dX0_trimmedEnd_28 (by decide) (fun c_2 => ?_) (fun c_2 => ?_)
    · refine lv_iload_n hx hb dX0_trimmedEnd_37 rfl (lv_at hl 0 rfl) ?_
      exact p_i hx hb hr hlocks dX0_trimmedEnd_38 ⟨i + 1, ⟨hj2, hj, hg, fun _ => c_2⟩, rfl⟩
    · refine lv_iinc (v := nI i) (lv' := [(3, .int (nI i)), (2, .int (nI (tbL b t))), (0, .ref a), (1, .int (bI b))]) hx hb dX0_trimmedEnd_31 hl (k := 0) rfl (pk_m1 i) (by decide) rfl (fun ls hl => ?_)
      refine lv_goto (tgt := 11) hx hb dX0_trimmedEnd_34 (by decide) ?_
      exact ih i (Nat.lt_succ_self i) ls hl (by omega) (by omega) (fun k h1 h2 => by rcases Nat.lt_or_ge i k with q | q; exact hg k q h2; rw [show k = i by omega]; exact c_2)

abbrev rmX0_isAllWhite : Room := { frames := 2, cells := 0, slots := 0, locals := 43 }
theorem mX0_isAllWhite {l : Launch} {G : Cx} {A : Nat → Prop} {a ca : Nat} {t : List Nat} : Met l yX0_isAllWhite (.code yX0_isAllWhite cX0_isAllWhite 1 (some .boolean) :: GW) rmX0_isAllWhite (PC G A [.ref a] (LA G a ca t)) (vp_Si (fun r => r = bI (decide (tbL true t = t.length)))) 0 0 (fun _ => False) := by
  refine mstart "Signtext$Line" (by decide +kernel) rfl (Nat.le_of_ble_eq_true rfl) ?_
  intro p e s m below meth c ls hx hb hr hts hown hml hlocks hname hC hA hW hl
  have hl : lv_has ls 1 [(0, .ref a)] := hl
  have hK := hC.1
  have hS : va_S A s.heap s.heap [] := va_S.rf
  have hW0 := hW
  obtain ⟨t60, tok, tne, hO, f, hF, hf⟩ := hW
  refine lv_aload_n hx hb dX0_isAllWhite_0 rfl (lv_at hl 0 rfl) ?_
  refine lv_iconst (v := nI 1) hx hb dX0_isAllWhite_1 (by decide) ?_
  have tb9 := tbL_le true t
  refine kV_i (A := A) (b := a) (As := [.int (bI true)]) (rest := []) ⟨hx, hb, hml, hown, hts⟩ (mX0_trimmedBegin (A := A) (ca := ca) (b := true)) (cwV 1 hts (gV tw_2_54 tw_2_44 tw_2_45 tw_1_2 tw_2_46) rfl rfl rfl (by decide +kernel) ⟨Nat.le_of_ble_eq_true rfl, Nat.le_of_ble_eq_true rfl⟩) hC hS hA (hW0.recv hK) hW0 rfl rfl hl.1 (Nat.le_of_ble_eq_true rfl) ⟨Nat.zero_le _, Nat.zero_le _⟩ dX0_isAllWhite_2 (fun r9 h9 => lv_cv h9 ?_)
  refine lv_aload_n hx hb dX0_isAllWhite_5 rfl (lv_at hl 0 rfl) ?_
  refine va_get (D := G.1) (ci := 4) (C := RX0) (T := TX0) (N := 2) hx hb hts inX0 hown hK (at_P hO) 0 rfl rfl 1 (by decide) (hts _ tw_1_45) (fun _ h9 => h9) rfl dX0_isAllWhite_6 ?_
  refine b_ne (tgt := 16) hx hb dX0_isAllWhite_9 (by decide) (by omega) (by omega) (fun c_3 => ?_) (fun c_3 => ?_)
  · refine lv_iconst (v := nI 0) hx hb dX0_isAllWhite_16 (by decide) ?_
    exact p_z (b := false) hx hb hr hlocks dX0_isAllWhite_17 (by rw [decide_eq_false c_3])
  · refine lv_iconst (v := nI 1) hx hb dX0_isAllWhite_12 (by decide) ?_
    refine lv_goto (tgt := 17) hx hb dX0_isAllWhite_13 (by decide) ?_
    exact p_z (b := true) hx hb hr hlocks dX0_isAllWhite_17 (by rw [decide_eq_true c_3])

abbrev rmX0_firstPlaceOfCode : Room := { frames := 2, cells := 0, slots := 0, locals := 41 }
theorem mX0_firstPlaceOfCode {l : Launch} {G : Cx} {A : Nat → Prop} {a ca : Nat} {t : List Nat} {k0 i : Nat} (hk0 : k0 < 256) (hi : i ≤ t.length) : Met l yX0_firstPlaceOfCode (.code yX0_firstPlaceOfCode cX0_firstPlaceOfCode 4 (some .int) :: GW) rmX0_firstPlaceOfCode (PC G A [.ref a, .int (nI k0), .int (nI i)] (LA G a ca t)) (vp_Si (fstR (fun k => i ≤ k ∧ k < t.length ∧ t.getD k 0 = k0))) 0 0 (fun _ => False) := by
  refine mstart "Signtext$Line" (by decide +kernel) rfl (Nat.le_of_ble_eq_true rfl) ?_
  intro p e s m below meth c ls hx hb hr hts hown hml hlocks hname hC hA hW hl
  have hl : lv_has ls 4 [(0, .ref a), (1, .int (nI k0)), (2, .int (nI i))] := hl
  have hK := hC.1
  have hS : va_S A s.heap s.heap [] := va_S.rf
  have hW0 := hW
  obtain ⟨t60, tok, tne, hO, f, hF, hf⟩ := hW
  refine lv_iload_n hx hb dX0_firstPlaceOfCode_0 rfl (lv_at hl 2 rfl) ?_
  refine lv_istore_n (lv' := [(3, .int (nI i)), (0, .ref a), (1, .int (nI k0)), (2, .int (nI i))]) hx hb dX0_firstPlaceOfCode_1 rfl hl (by decide) rfl (fun ls hl => ?_)
  refine nloop (P := fun j => ∀ (ls : Array Slot) , lv_has ls 4 [(3, .int (nI j)), (0, .ref a), (1, .int (nI k0)), (2, .int (nI i))] → i ≤ j → (∀ k : Nat, i ≤ k → k < j → t.getD k 0 ≠ k0) → W p l e rmX0_firstPlaceOfCode s m [.ref a, .int (nI k0), .int (nI i)].toArray below meth c s.heap [] 0 0 (MQ below (vp_Si (fstR (fun k => i ≤ k ∧ k < t.length ∧ t.getD k 0 = k0))) [.ref a, .int (nI k0), .int (nI i)].toArray s 0 0 (fun _ => False)) (F0 m 2 ls [])) t.length ?_ i hi ls  hl (Nat.le_refl _) (fun k h1 h2 => absurd h2 (by omega))
  clear hl
  intro j hj ih ls  hl
  intro hij hg
  refine lv_iload_n hx hb dX0_firstPlaceOfCode_2 rfl (lv_at hl 0 rfl) ?_
  refine lv_aload_n hx hb dX0_firstPlaceOfCode_3 rfl (lv_at hl 1 rfl) ?_
  refine va_get (D := G.1) (ci := 4) (C := RX0) (T := TX0) (N := 2) hx hb hts inX0 hown hK (at_P hO) 0 rfl rfl 1 (by decide) (hts _ tw_1_45) (fun _ h9 => h9) rfl dX0_firstPlaceOfCode_4 ?_
  refine b_ge (tgt := 27) hx hb dX0_firstPlaceOfCode_7 (by decide) (by omega) (by omega) (fun c_4 => ?_) (fun c_4 => ?_)
  · refine lv_iconst (v := (-1)) hx hb dX0_firstPlaceOfCode_27 (by decide) ?_
    exact p_i hx hb hr hlocks dX0_firstPlaceOfCode_28 (Or.inr ⟨fun k q => hg k q.1 (by omega) q.2.2, rfl⟩)
  · refine lv_aload_n hx hb dX0_firstPlaceOfCode_10 rfl (lv_at hl 1 rfl) ?_
    refine lv_iload_n hx hb dX0_firstPlaceOfCode_11 rfl (lv_at hl 0 rfl) ?_
    refine kV_i (A := A) (b := a) (As := [.int (nI j)]) (rest := []) ⟨hx, hb, hml, hown, hts⟩ (mX0_codeAt (A := A) (ca := ca) (by omega)) (cwV 1 hts (gV tw_2_19 tw_2_20 tw_2_21 tw_1_2 tw_2_22) rfl rfl rfl (by decide +kernel) ⟨Nat.le_of_ble_eq_true rfl, Nat.le_of_ble_eq_true rfl⟩) hC hS hA (hW0.recv hK) hW0 rfl rfl hl.1 (Nat.le_of_ble_eq_true rfl) ⟨Nat.zero_le _, Nat.zero_le _⟩ dX0_firstPlaceOfCode_12 (fun r9 h9 => lv_cv h9 ?_)
    have tokj := tok j
    refine lv_iload_n hx hb dX0_firstPlaceOfCode_15 rfl (lv_at hl 2 rfl) ?_
    refine b_ne (tgt := 21) hx hb dX0_firstPlaceOfCode_16 (by decide) (by omega) (by omega) (fun c_5 => ?_) (fun c_5 => ?_)
    · refine lv_iinc (v := nI (j + 1)) (lv' := [(3, .int (nI (j + 1))), (0, .ref a), (1, .int (nI k0)), (2, .int (nI i))]) hx hb dX0_firstPlaceOfCode_21 hl (k := 0) rfl (nI_add j 1) (by decide) rfl (fun ls hl => ?_)
      refine lv_goto (tgt := 2) hx hb dX0_firstPlaceOfCode_24 (by decide) ?_
      exact ih (j + 1) (by omega) (by omega) ls hl (by omega) (fun k h1 h2 => by rcases Nat.lt_succ_iff_lt_or_eq.mp h2 with q | q; exact hg k h1 q; rw [q]; exact c_5)
    · refine lv_iload_n hx hb dX0_firstPlaceOfCode_19 rfl (lv_at hl 0 rfl) ?_
      exact p_i hx hb hr hlocks dX0_firstPlaceOfCode_20 (Or.inl ⟨j, ⟨hij, by omega, c_5⟩, fun k h1 q => hg k q.1 h1 q.2.2, rfl⟩)

abbrev rmX0_lastPlaceOfCode : Room := { frames := 1, cells := 0, slots := 0, locals := 20 }
theorem mX0_lastPlaceOfCode {l : Launch} {G : Cx} {A : Nat → Prop} {a ca : Nat} {t : List Nat} {k0 : Nat} (hk0 : k0 < 256) : Met l yX0_lastPlaceOfCode (.code yX0_lastPlaceOfCode cX0_lastPlaceOfCode 3 (some .int) :: GW) rmX0_lastPlaceOfCode (PC G A [.ref a, .int (nI k0)] (LA G a ca t)) (vp_Si (lstR (fun k => k < t.length ∧ t.getD k 0 = k0))) 0 0 (fun _ => False) := by
  refine mstart "Signtext$Line" (by decide +kernel) rfl (Nat.le_of_ble_eq_true rfl) ?_
  intro p e s m below meth c ls hx hb hr hts hown hml hlocks hname hC hA hW hl
  have hl : lv_has ls 3 [(0, .ref a), (1, .int (nI k0))] := hl
  have hK := hC.1
  have hS : va_S A s.heap s.heap [] := va_S.rf
  obtain ⟨t60, tok, tne, hO, f, hF, hf⟩ := hW
  refine lv_aload_n hx hb dX0_lastPlaceOfCode_0 rfl (lv_at hl 0 rfl) ?_
  refine va_get (D := G.1) (ci := 4) (C := RX0) (T := TX0) (N := 2) hx hb hts inX0 hown hK (at_P hO) 0 rfl rfl 1 (by decide) (hts _ tw_1_45) (fun _ h9 => h9) rfl dX0_lastPlaceOfCode_1 ?_
  refine lv_iconst (v := nI 1) hx hb dX0_lastPlaceOfCode_4 (by decide) ?_
  refine lv_isub hx hb dX0_lastPlaceOfCode_5 ?_
  refine lv_istore_n (lv' := [(2, .int (nI t.length - nI 1)), (0, .ref a), (1, .int (nI k0))]) hx hb dX0_lastPlaceOfCode_6 rfl hl (by decide) rfl (fun ls hl => ?_)
  have hl : lv_has ls 3 [(2, .int (nI t.length - 1)), (0, .ref a), (1, .int (nI k0))] := hl
  refine dloop (P := fun j => ∀ (ls : Array Slot) , lv_has ls 3 [(2, .int (nI j - 1)), (0, .ref a), (1, .int (nI k0))] → j ≤ t.length → (∀ k : Nat, j ≤ k → k < t.length → t.getD k 0 ≠ k0) → W p l e rmX0_lastPlaceOfCode s m [.ref a, .int (nI k0)].toArray below meth c s.heap [] 0 0 (MQ below (vp_Si (lstR (fun k => k < t.length ∧ t.getD k 0 = k0))) [.ref a, .int (nI k0)].toArray s 0 0 (fun _ => False)) (F0 m 7 ls [])) ?_ t.length ls  hl (Nat.le_refl _) (fun k h1 h2 => absurd h2 (by omega))
  clear hl
  intro j ih ls  hl
  intro hj hg
  cases j with
  | zero =>
    refine lv_iload_n hx hb dX0_lastPlaceOfCode_7 rfl (lv_at hl 0 rfl) ?_
    refine lv_if_lt (tgt := 29) hx hb dX0_lastPlaceOfCode_8 (by decide) (fun _ => ?_) (fun q => absurd (by decide) q)
    refine lv_iconst (v := (-1)) hx hb dX0_lastPlaceOfCode_29 (by decide) ?_
    exact p_i hx hb hr hlocks dX0_lastPlaceOfCode_30 (Or.inr ⟨fun k q => hg k (Nat.zero_le _) q.1 q.2, rfl⟩)
  | succ j =>
    rw [nI_pred] at hl
    refine lv_iload_n hx hb dX0_lastPlaceOfCode_7 rfl (lv_at hl 0 rfl) ?_
    refine z_lt (tgt := 29) hx hb dX0_lastPlaceOfCode_8 (by decide) (by omega) ?_
    refine lv_aload_n hx hb dX0_lastPlaceOfCode_11 rfl (lv_at hl 1 rfl) ?_
    refine va_get (D := G.1) (ci := 4) (C := RX0) (T := TX0) (N := 2) hx hb hts inX0 hown hK (at_P hO) 0 rfl rfl 0 (by decide) (hts _ tw_1_44) (fun _ h9 => h9) rfl dX0_lastPlaceOfCode_12 ?_
    refine lv_iload_n hx hb dX0_lastPlaceOfCode_15 rfl (lv_at hl 0 rfl) ?_
    refine va_cald hx hb hK (at_P hF) 0 1 rfl rfl (vp_in_nI (n := j) (N := 60) (by omega) (by omega)) dX0_lastPlaceOfCode_16 ?_
    refine lv_cv (show _ = nI (t.getD j 0) from by rw [nI_clamp (by omega)]; exact hf _ (by omega)) ?_
    refine lv_iload_n hx hb dX0_lastPlaceOfCode_17 rfl (lv_at hl 2 rfl) ?_
    have tokj := tok j
    refine b_ne (tgt := 23) hx hb dX0_lastPlaceOfCode_18 (by decide) (by omega) (by omega) (fun c_7 => ?_) (fun c_7 => ?_)
    · refine lv_iinc (v := nI j - 1) (lv' := [(2, .int (nI j - 1)), (0, .ref a), (1, .int (nI k0))]) hx hb dX0_lastPlaceOfCode_23 hl (k := 0) rfl (m1_eq j) (by decide) rfl (fun ls hl => ?_)
      refine lv_goto (tgt := 7) hx hb dX0_lastPlaceOfCode_26 (by decide) ?_
      exact ih j (Nat.lt_succ_self j) ls hl (by omega) (fun k h1 h2 => by rcases Nat.lt_or_ge j k with q | q; exact hg k q h2; rw [show k = j by omega]; exact c_7)
    · refine lv_iload_n hx hb dX0_lastPlaceOfCode_21 rfl (lv_at hl 0 rfl) ?_
      exact p_i hx hb hr hlocks dX0_lastPlaceOfCode_22 (Or.inl ⟨j, ⟨by omega, c_7⟩, fun k h1 q => hg k (by omega) q.1 q.2, rfl⟩)
end
section
/-! Line, 3: readers of two lines -/
/-- u stands in t at i -/
def stL (b : Bool) (t u : List Nat) (i : Nat) : Prop := i + u.length ≤ t.length ∧ ∀ k : Nat, k < u.length → viewN b (t.getD (i + k) 0) = viewN b (u.getD k 0)
def ordR (b : Bool) (t u : List Nat) (r : Int32) : Prop := (∃ k, k < t.length ∧ k < u.length ∧ (∀ j, j < k → viewN b (t.getD j 0) = viewN b (u.getD j 0)) ∧ viewN b (t.getD k 0) ≠ viewN b (u.getD k 0) ∧ r = nI (viewN b (t.getD k 0)) - nI (viewN b (u.getD k 0))) ∨ ((∀ k, k < t.length → k < u.length → viewN b (t.getD k 0) = viewN b (u.getD k 0)) ∧ r = nI t.length - nI u.length)
theorem subI {a b : Nat} (ha : a < 2 ^ 30) (hb : b < 2 ^ 30) : (nI a - nI b).toInt = (a : Int) - b := by
  rw [Int32.toInt_sub, nI_toInt (by omega), nI_toInt (by omega), Int.bmod_eq_of_le]
  · omega
  · omega
theorem subI_le {i a b : Nat} (hi : i < 2 ^ 31) (ha : a < 2 ^ 30) (hb : b < 2 ^ 30) : nI i ≤ nI a - nI b ↔ i + b ≤ a := by
  rw [Int32.le_iff_toInt_le, subI ha hb, nI_toInt (by omega)]; omega
theorem subI_gt {i a b : Nat} (hi : i < 2 ^ 31) (ha : a < 2 ^ 30) (hb : b < 2 ^ 30) (h : nI a - nI b < nI i) : ¬ i + b ≤ a := by
  rw [Int32.lt_iff_toInt_lt, subI ha hb, nI_toInt (by omega)] at h; omega
theorem subI_ngt {i a b : Nat} (hi : i < 2 ^ 31) (ha : a < 2 ^ 30) (hb : b < 2 ^ 30) (h : ¬ nI a - nI b < nI i) : i + b ≤ a := by
  rw [Int32.lt_iff_toInt_lt, subI ha hb, nI_toInt (by omega)] at h; omega
theorem subI_neg {a b : Nat} (ha : a < 2 ^ 30) (hb : b < 2 ^ 30) (h : a < b) : nI a - nI b < 0 := by
  rw [Int32.lt_iff_toInt_lt, subI ha hb]
  show (a : Int) - b < 0
  omega
theorem subI_0 {a b : Nat} (ha : a < 2 ^ 30) (hb : b < 2 ^ 30) : nI a - nI b = 0 ↔ a = b := by
  rw [← Int32.toInt_inj, subI ha hb]
  show (a : Int) - b = 0 ↔ a = b
  omega
theorem nI_nm1 {k : Nat} (h : k < 2 ^ 31) : ¬ nI k = -1 := fun q => by
  have q2 := congrArg Int32.toInt q
  rw [nI_toInt h] at q2
  have q3 : ((-1 : Int32)).toInt = -1 := by decide
  rw [q3] at q2; omega
theorem dX0_standsAt_0 : decode cX0_standsAt 0 = .ok (.iload_n 2, 1) := by decide +kernel
theorem dX0_standsAt_1 : decode cX0_standsAt 1 = .ok (.ifCond .lt 16, 3) := by decide +kernel
theorem dX0_standsAt_4 : decode cX0_standsAt 4 = .ok (.iload_n 2, 1) := by decide +kernel
theorem dX0_standsAt_5 : decode cX0_standsAt 5 = .ok (.aload_n 0, 1) := by decide +kernel
theorem dX0_standsAt_6 : decode cX0_standsAt 6 = .ok (.getfield 15, 3) := by decide +kernel
theorem dX0_standsAt_9 : decode cX0_standsAt 9 = .ok (.aload_n 1, 1) := by decide +kernel
theorem dX0_standsAt_10 : decode cX0_standsAt 10 = .ok (.invokevirtual 27, 3) := by decide +kernel
theorem dX0_standsAt_13 : decode cX0_standsAt 13 = .ok (.isub, 1) := by decide +kernel
theorem dX0_standsAt_14 : decode cX0_standsAt 14 = .ok (.if_icmp .le 5, 3) := by decide +kernel
theorem dX0_standsAt_17 : decode cX0_standsAt 17 = .ok (.iconst 0, 1) := by decide +kernel
theorem dX0_standsAt_18 : decode cX0_standsAt 18 = .ok (.ireturn, 1) := by decide +kernel
theorem dX0_standsAt_19 : decode cX0_standsAt 19 = .ok (.iconst 0, 1) := by decide +kernel
theorem dX0_standsAt_20 : decode cX0_standsAt 20 = .ok (.istore 4, 2) := by decide +kernel
theorem dX0_standsAt_22 : decode cX0_standsAt 22 = .ok (.iload 4, 2) := by decide +kernel
theorem dX0_standsAt_24 : decode cX0_standsAt 24 = .ok (.aload_n 1, 1) := by decide +kernel
theorem dX0_standsAt_25 : decode cX0_standsAt 25 = .ok (.invokevirtual 27, 3) := by decide +kernel
theorem dX0_standsAt_28 : decode cX0_standsAt 28 = .ok (.if_icmp .ge 36, 3) := by decide +kernel
theorem dX0_standsAt_31 : decode cX0_standsAt 31 = .ok (.aload_n 0, 1) := by decide +kernel
theorem dX0_standsAt_32 : decode cX0_standsAt 32 = .ok (.iload_n 2, 1) := by decide +kernel
theorem dX0_standsAt_33 : decode cX0_standsAt 33 = .ok (.iload 4, 2) := by decide +kernel
theorem dX0_standsAt_35 : decode cX0_standsAt 35 = .ok (.iadd, 1) := by decide +kernel
theorem dX0_standsAt_36 : decode cX0_standsAt 36 = .ok (.invokevirtual 19, 3) := by decide +kernel
theorem dX0_standsAt_39 : decode cX0_standsAt 39 = .ok (.iload_n 3, 1) := by decide +kernel
theorem dX0_standsAt_40 : decode cX0_standsAt 40 = .ok (.invokestatic 64, 3) := by decide +kernel
theorem dX0_standsAt_43 : decode cX0_standsAt 43 = .ok (.aload_n 1, 1) := by decide +kernel
theorem dX0_standsAt_44 : decode cX0_standsAt 44 = .ok (.iload 4, 2) := by decide +kernel
theorem dX0_standsAt_46 : decode cX0_standsAt 46 = .ok (.invokevirtual 19, 3) := by decide +kernel
theorem dX0_standsAt_49 : decode cX0_standsAt 49 = .ok (.iload_n 3, 1) := by decide +kernel
theorem dX0_standsAt_50 : decode cX0_standsAt 50 = .ok (.invokestatic 64, 3) := by decide +kernel
theorem dX0_standsAt_53 : decode cX0_standsAt 53 = .ok (.if_icmp .eq 5, 3) := by decide +kernel
theorem dX0_standsAt_56 : decode cX0_standsAt 56 = .ok (.iconst 0, 1) := by decide +kernel
theorem dX0_standsAt_57 : decode cX0_standsAt 57 = .ok (.ireturn, 1) := by decide +kernel
theorem dX0_standsAt_58 : decode cX0_standsAt 58 = .ok (.iinc 4 1, 3) := by decide +kernel
theorem dX0_standsAt_61 : decode cX0_standsAt 61 = .ok (.goto (-39), 3) := by decide +kernel
theorem dX0_standsAt_64 : decode cX0_standsAt 64 = .ok (.iconst 1, 1) := by decide +kernel
theorem dX0_standsAt_65 : decode cX0_standsAt 65 = .ok (.ireturn, 1) := by decide +kernel
theorem dX0_firstPlaceOf_0 : decode cX0_firstPlaceOf 0 = .ok (.iconst 0, 1) := by decide +kernel
theorem dX0_firstPlaceOf_1 : decode cX0_firstPlaceOf 1 = .ok (.istore_n 2, 1) := by decide +kernel
theorem dX0_firstPlaceOf_2 : decode cX0_firstPlaceOf 2 = .ok (.iload_n 2, 1) := by decide +kernel
theorem dX0_firstPlaceOf_3 : decode cX0_firstPlaceOf 3 = .ok (.aload_n 0, 1) := by decide +kernel
theorem dX0_firstPlaceOf_4 : decode cX0_firstPlaceOf 4 = .ok (.getfield 15, 3) := by decide +kernel
theorem dX0_firstPlaceOf_7 : decode cX0_firstPlaceOf 7 = .ok (.aload_n 1, 1) := by decide +kernel
theorem dX0_firstPlaceOf_8 : decode cX0_firstPlaceOf 8 = .ok (.invokevirtual 27, 3) := by decide +kernel
theorem dX0_firstPlaceOf_11 : decode cX0_firstPlaceOf 11 = .ok (.isub, 1) := by decide +kernel
theorem dX0_firstPlaceOf_12 : decode cX0_firstPlaceOf 12 = .ok (.if_icmp .gt 21, 3) := by decide +kernel
theorem dX0_firstPlaceOf_15 : decode cX0_firstPlaceOf 15 = .ok (.aload_n 0, 1) := by decide +kernel
theorem dX0_firstPlaceOf_16 : decode cX0_firstPlaceOf 16 = .ok (.aload_n 1, 1) := by decide +kernel
theorem dX0_firstPlaceOf_17 : decode cX0_firstPlaceOf 17 = .ok (.iload_n 2, 1) := by decide +kernel
theorem dX0_firstPlaceOf_18 : decode cX0_firstPlaceOf 18 = .ok (.iconst 0, 1) := by decide +kernel
theorem dX0_firstPlaceOf_19 : decode cX0_firstPlaceOf 19 = .ok (.invokevirtual 68, 3) := by decide +kernel
theorem dX0_firstPlaceOf_22 : decode cX0_firstPlaceOf 22 = .ok (.ifCond .eq 5, 3) := by decide +kernel
theorem dX0_firstPlaceOf_25 : decode cX0_firstPlaceOf 25 = .ok (.iload_n 2, 1) := by decide +kernel
theorem dX0_firstPlaceOf_26 : decode cX0_firstPlaceOf 26 = .ok (.ireturn, 1) := by decide +kernel
theorem dX0_firstPlaceOf_27 : decode cX0_firstPlaceOf 27 = .ok (.iinc 2 1, 3) := by decide +kernel
theorem dX0_firstPlaceOf_30 : decode cX0_firstPlaceOf 30 = .ok (.goto (-28), 3) := by decide +kernel
theorem dX0_firstPlaceOf_33 : decode cX0_firstPlaceOf 33 = .ok (.iconst (-1), 1) := by decide +kernel
theorem dX0_firstPlaceOf_34 : decode cX0_firstPlaceOf 34 = .ok (.ireturn, 1) := by decide +kernel
theorem dX0_lastPlaceOf_0 : decode cX0_lastPlaceOf 0 = .ok (.aload_n 0, 1) := by decide +kernel
theorem dX0_lastPlaceOf_1 : decode cX0_lastPlaceOf 1 = .ok (.getfield 15, 3) := by decide +kernel
theorem dX0_lastPlaceOf_4 : decode cX0_lastPlaceOf 4 = .ok (.aload_n 1, 1) := by decide +kernel
theorem dX0_lastPlaceOf_5 : decode cX0_lastPlaceOf 5 = .ok (.invokevirtual 27, 3) := by decide +kernel
theorem dX0_lastPlaceOf_8 : decode cX0_lastPlaceOf 8 = .ok (.isub, 1) := by decide +kernel
theorem dX0_lastPlaceOf_9 : decode cX0_lastPlaceOf 9 = .ok (.istore_n 2, 1) := by decide +kernel
theorem dX0_lastPlaceOf_10 : decode cX0_lastPlaceOf 10 = .ok (.iload_n 2, 1) := by decide +kernel
theorem dX0_lastPlaceOf_11 : decode cX0_lastPlaceOf 11 = .ok (.ifCond .lt 21, 3) := by decide +kernel
theorem dX0_lastPlaceOf_14 : decode cX0_lastPlaceOf 14 = .ok (.aload_n 0, 1) := by decide +kernel
theorem dX0_lastPlaceOf_15 : decode cX0_lastPlaceOf 15 = .ok (.aload_n 1, 1) := by decide +kernel
theorem dX0_lastPlaceOf_16 : decode cX0_lastPlaceOf 16 = .ok (.iload_n 2, 1) := by decide +kernel
theorem dX0_lastPlaceOf_17 : decode cX0_lastPlaceOf 17 = .ok (.iconst 0, 1) := by decide +kernel
theorem dX0_lastPlaceOf_18 : decode cX0_lastPlaceOf 18 = .ok (.invokevirtual 68, 3) := by decide +kernel
theorem dX0_lastPlaceOf_21 : decode cX0_lastPlaceOf 21 = .ok (.ifCond .eq 5, 3) := by decide +kernel
theorem dX0_lastPlaceOf_24 : decode cX0_lastPlaceOf 24 = .ok (.iload_n 2, 1) := by decide +kernel
theorem dX0_lastPlaceOf_25 : decode cX0_lastPlaceOf 25 = .ok (.ireturn, 1) := by decide +kernel
theorem dX0_lastPlaceOf_26 : decode cX0_lastPlaceOf 26 = .ok (.iinc 2 (-1), 3) := by decide +kernel
theorem dX0_lastPlaceOf_29 : decode cX0_lastPlaceOf 29 = .ok (.goto (-19), 3) := by decide +kernel
theorem dX0_lastPlaceOf_32 : decode cX0_lastPlaceOf 32 = .ok (.iconst (-1), 1) := by decide +kernel
theorem dX0_lastPlaceOf_33 : decode cX0_lastPlaceOf 33 = .ok (.ireturn, 1) := by decide +kernel
theorem dX0_holds_0 : decode cX0_holds 0 = .ok (.aload_n 0, 1) := by decide +kernel
theorem dX0_holds_1 : decode cX0_holds 1 = .ok (.aload_n 1, 1) := by decide +kernel
theorem dX0_holds_2 : decode cX0_holds 2 = .ok (.invokevirtual 72, 3) := by decide +kernel
theorem dX0_holds_5 : decode cX0_holds 5 = .ok (.iconst (-1), 1) := by decide +kernel
theorem dX0_holds_6 : decode cX0_holds 6 = .ok (.if_icmp .eq 7, 3) := by decide +kernel
theorem dX0_holds_9 : decode cX0_holds 9 = .ok (.iconst 1, 1) := by decide +kernel
theorem dX0_holds_10 : decode cX0_holds 10 = .ok (.goto 4, 3) := by decide +kernel
theorem dX0_holds_13 : decode cX0_holds 13 = .ok (.iconst 0, 1) := by decide +kernel
theorem dX0_holds_14 : decode cX0_holds 14 = .ok (.ireturn, 1) := by decide +kernel
theorem dX0_isSameAs_0 : decode cX0_isSameAs 0 = .ok (.aload_n 0, 1) := by decide +kernel
theorem dX0_isSameAs_1 : decode cX0_isSameAs 1 = .ok (.getfield 15, 3) := by decide +kernel
theorem dX0_isSameAs_4 : decode cX0_isSameAs 4 = .ok (.aload_n 1, 1) := by decide +kernel
theorem dX0_isSameAs_5 : decode cX0_isSameAs 5 = .ok (.invokevirtual 27, 3) := by decide +kernel
theorem dX0_isSameAs_8 : decode cX0_isSameAs 8 = .ok (.if_icmp .ne 17, 3) := by decide +kernel
theorem dX0_isSameAs_11 : decode cX0_isSameAs 11 = .ok (.aload_n 0, 1) := by decide +kernel
theorem dX0_isSameAs_12 : decode cX0_isSameAs 12 = .ok (.aload_n 1, 1) := by decide +kernel
theorem dX0_isSameAs_13 : decode cX0_isSameAs 13 = .ok (.iconst 0, 1) := by decide +kernel
theorem dX0_isSameAs_14 : decode cX0_isSameAs 14 = .ok (.iload_n 2, 1) := by decide +kernel
theorem dX0_isSameAs_15 : decode cX0_isSameAs 15 = .ok (.invokevirtual 68, 3) := by decide +kernel
theorem dX0_isSameAs_18 : decode cX0_isSameAs 18 = .ok (.ifCond .eq 7, 3) := by decide +kernel
theorem dX0_isSameAs_21 : decode cX0_isSameAs 21 = .ok (.iconst 1, 1) := by decide +kernel
theorem dX0_isSameAs_22 : decode cX0_isSameAs 22 = .ok (.goto 4, 3) := by decide +kernel
theorem dX0_isSameAs_25 : decode cX0_isSameAs 25 = .ok (.iconst 0, 1) := by decide +kernel
theorem dX0_isSameAs_26 : decode cX0_isSameAs 26 = .ok (.ireturn, 1) := by decide +kernel
theorem dX0_orderTo_0 : decode cX0_orderTo 0 = .ok (.iconst 0, 1) := by decide +kernel
theorem dX0_orderTo_1 : decode cX0_orderTo 1 = .ok (.istore_n 3, 1) := by decide +kernel
theorem dX0_orderTo_2 : decode cX0_orderTo 2 = .ok (.iload_n 3, 1) := by decide +kernel
theorem dX0_orderTo_3 : decode cX0_orderTo 3 = .ok (.aload_n 0, 1) := by decide +kernel
theorem dX0_orderTo_4 : decode cX0_orderTo 4 = .ok (.getfield 15, 3) := by decide +kernel
theorem dX0_orderTo_7 : decode cX0_orderTo 7 = .ok (.if_icmp .ge 47, 3) := by decide +kernel
theorem dX0_orderTo_10 : decode cX0_orderTo 10 = .ok (.iload_n 3, 1) := by decide +kernel
theorem dX0_orderTo_11 : decode cX0_orderTo 11 = .ok (.aload_n 1, 1) := by decide +kernel
theorem dX0_orderTo_12 : decode cX0_orderTo 12 = .ok (.invokevirtual 27, 3) := by decide +kernel
theorem dX0_orderTo_15 : decode cX0_orderTo 15 = .ok (.if_icmp .ge 39, 3) := by decide +kernel
theorem dX0_orderTo_18 : decode cX0_orderTo 18 = .ok (.aload_n 0, 1) := by decide +kernel
theorem dX0_orderTo_19 : decode cX0_orderTo 19 = .ok (.getfield 9, 3) := by decide +kernel
theorem dX0_orderTo_22 : decode cX0_orderTo 22 = .ok (.iload_n 3, 1) := by decide +kernel
theorem dX0_orderTo_23 : decode cX0_orderTo 23 = .ok (.caload, 1) := by decide +kernel
theorem dX0_orderTo_24 : decode cX0_orderTo 24 = .ok (.iload_n 2, 1) := by decide +kernel
theorem dX0_orderTo_25 : decode cX0_orderTo 25 = .ok (.invokestatic 64, 3) := by decide +kernel
theorem dX0_orderTo_28 : decode cX0_orderTo 28 = .ok (.aload_n 1, 1) := by decide +kernel
theorem dX0_orderTo_29 : decode cX0_orderTo 29 = .ok (.iload_n 3, 1) := by decide +kernel
theorem dX0_orderTo_30 : decode cX0_orderTo 30 = .ok (.invokevirtual 19, 3) := by decide +kernel
theorem dX0_orderTo_33 : decode cX0_orderTo 33 = .ok (.iload_n 2, 1) := by decide +kernel
theorem dX0_orderTo_34 : decode cX0_orderTo 34 = .ok (.invokestatic 64, 3) := by decide +kernel
theorem dX0_orderTo_37 : decode cX0_orderTo 37 = .ok (.isub, 1) := by decide +kernel
theorem dX0_orderTo_38 : decode cX0_orderTo 38 = .ok (.istore 4, 2) := by decide +kernel
theorem dX0_orderTo_40 : decode cX0_orderTo 40 = .ok (.iload 4, 2) := by decide +kernel
theorem dX0_orderTo_42 : decode cX0_orderTo 42 = .ok (.ifCond .eq 6, 3) := by decide +kernel
theorem dX0_orderTo_45 : decode cX0_orderTo 45 = .ok (.iload 4, 2) := by decide +kernel
theorem dX0_orderTo_47 : decode cX0_orderTo 47 = .ok (.ireturn, 1) := by decide +kernel
theorem dX0_orderTo_48 : decode cX0_orderTo 48 = .ok (.iinc 3 1, 3) := by decide +kernel
theorem dX0_orderTo_51 : decode cX0_orderTo 51 = .ok (.goto (-49), 3) := by decide +kernel
theorem dX0_orderTo_54 : decode cX0_orderTo 54 = .ok (.aload_n 0, 1) := by decide +kernel
theorem dX0_orderTo_55 : decode cX0_orderTo 55 = .ok (.getfield 15, 3) := by decide +kernel
theorem dX0_orderTo_58 : decode cX0_orderTo 58 = .ok (.aload_n 1, 1) := by decide +kernel
theorem dX0_orderTo_59 : decode cX0_orderTo 59 = .ok (.invokevirtual 27, 3) := by decide +kernel
theorem dX0_orderTo_62 : decode cX0_orderTo 62 = .ok (.isub, 1) := by decide +kernel
theorem dX0_orderTo_63 : decode cX0_orderTo 63 = .ok (.ireturn, 1) := by decide +kernel
abbrev rmX0_standsAt : Room := { frames := 2, cells := 0, slots := 0, locals := 41 }
theorem mX0_standsAt {l : Launch} {G : Cx} {A : Nat → Prop} {a ca b cb : Nat} {t u : List Nat} {b0 : Bool} {i : Nat} (hi : i < 2 ^ 31) : Met l yX0_standsAt (.code yX0_standsAt cX0_standsAt 5 (some .boolean) :: GW) rmX0_standsAt (PC G A [.ref a, .ref b, .int (nI i), .int (bI b0)] (fun H => LA G a ca t H ∧ LA G b cb u H)) (vp_Si (fun r => ∃ v : Bool, (v = true ↔ stL b0 t u i) ∧ r = bI v)) 0 0 (fun _ => False) := by
  refine mstart "Signtext$Line" (by decide +kernel) rfl (Nat.le_of_ble_eq_true rfl) ?_
  intro p e s m below meth c ls hx hb hr hts hown hml hlocks hname hC hA hW hl
  have hl : lv_has ls 5 [(0, .ref a), (1, .ref b), (2, .int (nI i)), (3, .int (bI b0))] := hl
  have hK := hC.1
  have hS : va_S A s.heap s.heap [] := va_S.rf
  obtain ⟨hWa, hWb⟩ := hW
  have hq9 := hWa
  obtain ⟨t60, tok, tne, hO, f, hF, hf⟩ := hq9
  have u60 := hWb.1
  have uok := hWb.2.1
  refine lv_iload_n hx hb dX0_standsAt_0 rfl (lv_at hl 2 rfl) ?_
  refine z_lt (tgt := 17) hx hb dX0_standsAt_1 (by decide) (by omega) ?_
  refine lv_iload_n hx hb dX0_standsAt_4 rfl (lv_at hl 2 rfl) ?_
  refine lv_aload_n hx hb dX0_standsAt_5 rfl (lv_at hl 0 rfl) ?_
  refine va_get (D := G.1) (ci := 4) (C := RX0) (T := TX0) (N := 2) hx hb hts inX0 hown hK (at_P hO) 0 rfl rfl 1 (by decide) (hts _ tw_1_45) (fun _ h9 => h9) rfl dX0_standsAt_6 ?_
  refine lv_aload_n hx hb dX0_standsAt_9 rfl (lv_at hl 1 rfl) ?_
  refine kV_i (A := A) (b := b) (As := []) (rest := .int (nI t.length) :: .int (nI i) :: []) ⟨hx, hb, hml, hown, hts⟩ (mX0_size (A := A) (ca := cb)) (cwV 0 hts (gV tw_2_11 tw_2_12 tw_2_13 tw_1_2 tw_2_14) rfl rfl rfl (by decide +kernel) ⟨Nat.le_of_ble_eq_true rfl, Nat.le_of_ble_eq_true rfl⟩) hC hS hA (hWb.recv hK) hWb rfl rfl hl.1 (Nat.le_of_ble_eq_true rfl) ⟨Nat.zero_le _, Nat.zero_le _⟩ dX0_standsAt_10 (fun r9 h9 => lv_cv h9 ?_)
  refine lv_isub hx hb dX0_standsAt_13 ?_
  refine lv_icmp_le (tgt := 19) hx hb dX0_standsAt_14 (by decide) (fun c_2 => ?_) (fun c_2 => ?_)
  · have c7 : i + u.length ≤ t.length := (subI_le (by omega) (by omega) (by omega)).mp c_2
    refine lv_iconst (v := nI 0) hx hb dX0_standsAt_19 (by decide) ?_
    refine lv_istore (lv' := [(4, .int (nI 0)), (0, .ref a), (1, .ref b), (2, .int (nI i)), (3, .int (bI b0))]) hx hb dX0_standsAt_20 hl (by decide) rfl (fun ls hl => ?_)
    refine nloop (P := fun j => ∀ (ls : Array Slot) , lv_has ls 5 [(4, .int (nI j)), (0, .ref a), (1, .ref b), (2, .int (nI i)), (3, .int (bI b0))] → (∀ k : Nat, k < j → viewN b0 (t.getD (i + k) 0) = viewN b0 (u.getD k 0)) → W p l e rmX0_standsAt s m [.ref a, .ref b, .int (nI i), .int (bI b0)].toArray below meth c s.heap [] 0 0 (MQ below (vp_Si (fun r => ∃ v : Bool, (v = true ↔ stL b0 t u i) ∧ r = bI v)) [.ref a, .ref b, .int (nI i), .int (bI b0)].toArray s 0 0 (fun _ => False)) (F0 m 22 ls [])) u.length ?_ 0 (Nat.zero_le _) ls  hl (fun k hk => absurd hk (Nat.not_lt_zero k))
    clear hl
    intro j hj ih ls  hl
    intro hg
    refine lv_iload hx hb dX0_standsAt_22 (lv_at hl 0 rfl) ?_
    refine lv_aload_n hx hb dX0_standsAt_24 rfl (lv_at hl 2 rfl) ?_
    refine kV_i (A := A) (b := b) (As := []) (rest := .int (nI j) :: []) ⟨hx, hb, hml, hown, hts⟩ (mX0_size (A := A) (ca := cb)) (cwV 0 hts (gV tw_2_11 tw_2_12 tw_2_13 tw_1_2 tw_2_14) rfl rfl rfl (by decide +kernel) ⟨Nat.le_of_ble_eq_true rfl, Nat.le_of_ble_eq_true rfl⟩) hC hS hA (hWb.recv hK) hWb rfl rfl hl.1 (Nat.le_of_ble_eq_true rfl) ⟨Nat.zero_le _, Nat.zero_le _⟩ dX0_standsAt_25 (fun r9 h9 => lv_cv h9 ?_)
    refine b_ge (tgt := 64) hx hb dX0_standsAt_28 (by decide) (by omega) (by omega) (fun c_3 => ?_) (fun c_3 => ?_)
    · refine lv_iconst (v := nI 1) hx hb dX0_standsAt_64 (by decide) ?_
      exact p_z (b := true) hx hb hr hlocks dX0_standsAt_65 ⟨true, ⟨fun _ => ⟨c7, fun k hk => hg k (by omega)⟩, fun _ => rfl⟩, rfl⟩
    · refine lv_aload_n hx hb dX0_standsAt_31 rfl (lv_at hl 1 rfl) ?_
      refine lv_iload_n hx hb dX0_standsAt_32 rfl (lv_at hl 3 rfl) ?_
      refine lv_iload hx hb dX0_standsAt_33 (lv_at hl 0 rfl) ?_
      refine lv_iadd hx hb dX0_standsAt_35 ?_
      refine lv_cv (nI_add i j) ?_
      refine kV_i (A := A) (b := a) (As := [.int (nI (i + j))]) (rest := []) ⟨hx, hb, hml, hown, hts⟩ (mX0_codeAt (A := A) (ca := ca) (i := i + j) (by omega)) (cwV 1 hts (gV tw_2_19 tw_2_20 tw_2_21 tw_1_2 tw_2_22) rfl rfl rfl (by decide +kernel) ⟨Nat.le_of_ble_eq_true rfl, Nat.le_of_ble_eq_true rfl⟩) hC hS hA (hWa.recv hK) hWa rfl rfl hl.1 (Nat.le_of_ble_eq_true rfl) ⟨Nat.zero_le _, Nat.zero_le _⟩ dX0_standsAt_36 (fun r9 h9 => lv_cv h9 ?_)
      refine lv_iload_n hx hb dX0_standsAt_39 rfl (lv_at hl 4 rfl) ?_
      refine kS_i (A := A) (As := [.int (nI (t.getD (i + j) 0)), .int (bI b0)]) (rest := []) ⟨hx, hb, hml, hown, hts⟩ (mX0_seen (A := A) (tok _)) (va_cwS 2 hts (gS tw_2_23 tw_2_24 tw_1_2 tw_2_25) rfl rfl rfl (by decide +kernel) ⟨Nat.le_of_ble_eq_true rfl, Nat.le_of_ble_eq_true rfl⟩) hC hS hA  trivial rfl rfl hl.1 (Nat.le_of_ble_eq_true rfl) ⟨Nat.zero_le _, Nat.zero_le _⟩ dX0_standsAt_40 (fun r9 h9 => lv_cv h9 ?_)
      refine lv_aload_n hx hb dX0_standsAt_43 rfl (lv_at hl 2 rfl) ?_
      refine lv_iload hx hb dX0_standsAt_44 (lv_at hl 0 rfl) ?_
      refine kV_i (A := A) (b := b) (As := [.int (nI j)]) (rest := .int (nI (viewN b0 (t.getD (i + j) 0))) :: []) ⟨hx, hb, hml, hown, hts⟩ (mX0_codeAt (A := A) (ca := cb) (i := j) (by omega)) (cwV 1 hts (gV tw_2_19 tw_2_20 tw_2_21 tw_1_2 tw_2_22) rfl rfl rfl (by decide +kernel) ⟨Nat.le_of_ble_eq_true rfl, Nat.le_of_ble_eq_true rfl⟩) hC hS hA (hWb.recv hK) hWb rfl rfl hl.1 (Nat.le_of_ble_eq_true rfl) ⟨Nat.zero_le _, Nat.zero_le _⟩ dX0_standsAt_46 (fun r9 h9 => lv_cv h9 ?_)
      refine lv_iload_n hx hb dX0_standsAt_49 rfl (lv_at hl 4 rfl) ?_
      refine kS_i (A := A) (As := [.int (nI (u.getD j 0)), .int (bI b0)]) (rest := .int (nI (viewN b0 (t.getD (i + j) 0))) :: []) ⟨hx, hb, hml, hown, hts⟩ (mX0_seen (A := A) (uok _)) (va_cwS 2 hts (gS tw_2_23 tw_2_24 tw_1_2 tw_2_25) rfl rfl rfl (by decide +kernel) ⟨Nat.le_of_ble_eq_true rfl, Nat.le_of_ble_eq_true rfl⟩) hC hS hA  trivial rfl rfl hl.1 (Nat.le_of_ble_eq_true rfl) ⟨Nat.zero_le _, Nat.zero_le _⟩ dX0_standsAt_50 (fun r9 h9 => lv_cv h9 ?_)
      have v1 := viewN_lt (b := b0) (tok (i + j))
      have v2 := viewN_lt (b := b0) (uok j)
      refine b_eq (tgt := 58) hx hb dX0_standsAt_53 (by decide) (by omega) (by omega) (fun c_4 => ?_) (fun c_4 => ?_)
      · refine lv_iinc (v := nI (j + 1)) (lv' := [(4, .int (nI (j + 1))), (0, .ref a), (1, .ref b), (2, .int (nI i)), (3, .int (bI b0))]) hx hb dX0_standsAt_58 hl (k := 0) rfl (nI_add j 1) (by decide) rfl (fun ls hl => ?_)
        refine lv_goto (tgt := 22) hx hb dX0_standsAt_61 (by decide) ?_
        exact ih (j + 1) (by omega) (by omega) ls hl (fun k hk => by rcases Nat.lt_succ_iff_lt_or_eq.mp hk with q | q; exact hg k q; rw [q]; exact c_4)
      · refine lv_iconst (v := nI 0) hx hb dX0_standsAt_56 (by decide) ?_
        exact p_z (b := false) hx hb hr hlocks dX0_standsAt_57 ⟨false, ⟨fun q => Bool.noConfusion q, fun q => absurd (q.2 j (by omega)) c_4⟩, rfl⟩
  · have c7 : ¬ i + u.length ≤ t.length := fun q => c_2 ((subI_le (by omega) (by omega) (by omega)).mpr q)
    refine lv_iconst (v := nI 0) hx hb dX0_standsAt_17 (by decide) ?_
    exact p_z (b := false) hx hb hr hlocks dX0_standsAt_18 ⟨false, ⟨fun q => Bool.noConfusion q, fun q => absurd q.1 c7⟩, rfl⟩

theorem mX0_standsAt_n {l : Launch} {G : Cx} {A : Nat → Prop} {a ca b cb : Nat} {t u : List Nat} {b0 : Bool} {x : Int32} (hx0 : x < 0) : Met l yX0_standsAt (.code yX0_standsAt cX0_standsAt 5 (some .boolean) :: GW) rmX0_standsAt (PC G A [.ref a, .ref b, .int x, .int (bI b0)] (fun H => LA G a ca t H ∧ LA G b cb u H)) (vp_Si (fun r => r = bI false)) 0 0 (fun _ => False) := by
  refine mstart "Signtext$Line" (by decide +kernel) rfl (Nat.le_of_ble_eq_true rfl) ?_
  intro p e s m below meth c ls hx hb hr hts hown hml hlocks hname hC hA hW hl
  have hl : lv_has ls 5 [(0, .ref a), (1, .ref b), (2, .int x), (3, .int (bI b0))] := hl
  have hK := hC.1
  have hS : va_S A s.heap s.heap [] := va_S.rf
  refine lv_iload_n hx hb dX0_standsAt_0 rfl (lv_at hl 2 rfl) ?_
  refine lv_if_lt (tgt := 17) hx hb dX0_standsAt_1 (by decide) (fun c_5 => ?_) (fun c_5 => ?_)
  · refine lv_iconst (v := nI 0) hx hb dX0_standsAt_17 (by decide) ?_
    exact p_z (b := false) hx hb hr hlocks dX0_standsAt_18 rfl
  · exact absurd hx0 c_5

abbrev rmX0_firstPlaceOf : Room := { frames := 3, cells := 0, slots := 0, locals := 65 }
theorem mX0_firstPlaceOf {l : Launch} {G : Cx} {A : Nat → Prop} {a ca b cb : Nat} {t u : List Nat} : Met l yX0_firstPlaceOf (.code yX0_firstPlaceOf cX0_firstPlaceOf 3 (some .int) :: GW) rmX0_firstPlaceOf (PC G A [.ref a, .ref b] (fun H => LA G a ca t H ∧ LA G b cb u H)) (vp_Si (fstR (fun k => stL false t u k))) 0 0 (fun _ => False) := by
  refine mstart "Signtext$Line" (by decide +kernel) rfl (Nat.le_of_ble_eq_true rfl) ?_
  intro p e s m below meth c ls hx hb hr hts hown hml hlocks hname hC hA hW hl
  have hl : lv_has ls 3 [(0, .ref a), (1, .ref b)] := hl
  have hK := hC.1
  have hS : va_S A s.heap s.heap [] := va_S.rf
  obtain ⟨hWa, hWb⟩ := hW
  have hq9 := hWa
  obtain ⟨t60, tok, tne, hO, f, hF, hf⟩ := hq9
  have u60 := hWb.1
  have uok := hWb.2.1
  refine lv_iconst (v := nI 0) hx hb dX0_firstPlaceOf_0 (by decide) ?_
  refine lv_istore_n (lv' := [(2, .int (nI 0)), (0, .ref a), (1, .ref b)]) hx hb dX0_firstPlaceOf_1 rfl hl (by decide) rfl (fun ls hl => ?_)
  refine nloop (P := fun j => ∀ (ls : Array Slot) , lv_has ls 3 [(2, .int (nI j)), (0, .ref a), (1, .ref b)] → (∀ k : Nat, k < j → ¬ stL false t u k) → W p l e rmX0_firstPlaceOf s m [.ref a, .ref b].toArray below meth c s.heap [] 0 0 (MQ below (vp_Si (fstR (fun k => stL false t u k))) [.ref a, .ref b].toArray s 0 0 (fun _ => False)) (F0 m 2 ls [])) 61 ?_ 0 (Nat.zero_le _) ls  hl (fun k hk => absurd hk (Nat.not_lt_zero k))
  clear hl
  intro j hj ih ls  hl
  intro hg
  refine lv_iload_n hx hb dX0_firstPlaceOf_2 rfl (lv_at hl 0 rfl) ?_
  refine lv_aload_n hx hb dX0_firstPlaceOf_3 rfl (lv_at hl 1 rfl) ?_
  refine va_get (D := G.1) (ci := 4) (C := RX0) (T := TX0) (N := 2) hx hb hts inX0 hown hK (at_P hO) 0 rfl rfl 1 (by decide) (hts _ tw_1_45) (fun _ h9 => h9) rfl dX0_firstPlaceOf_4 ?_
  refine lv_aload_n hx hb dX0_firstPlaceOf_7 rfl (lv_at hl 2 rfl) ?_
  refine kV_i (A := A) (b := b) (As := []) (rest := .int (nI t.length) :: .int (nI j) :: []) ⟨hx, hb, hml, hown, hts⟩ (mX0_size (A := A) (ca := cb)) (cwV 0 hts (gV tw_2_11 tw_2_12 tw_2_13 tw_1_2 tw_2_14) rfl rfl rfl (by decide +kernel) ⟨Nat.le_of_ble_eq_true rfl, Nat.le_of_ble_eq_true rfl⟩) hC hS hA (hWb.recv hK) hWb rfl rfl hl.1 (Nat.le_of_ble_eq_true rfl) ⟨Nat.zero_le _, Nat.zero_le _⟩ dX0_firstPlaceOf_8 (fun r9 h9 => lv_cv h9 ?_)
  refine lv_isub hx hb dX0_firstPlaceOf_11 ?_
  refine lv_icmp_gt (tgt := 33) hx hb dX0_firstPlaceOf_12 (by decide) (fun c_6 => ?_) (fun c_6 => ?_)
  · have c7 : ¬ j + u.length ≤ t.length := fun q => subI_gt (by omega) (by omega) (by omega) c_6 q
    refine lv_iconst (v := (-1)) hx hb dX0_firstPlaceOf_33 (by decide) ?_
    exact p_i hx hb hr hlocks dX0_firstPlaceOf_34 (Or.inr ⟨fun k q => by rcases Nat.lt_or_ge k j with h | h; exact hg k h q; exact absurd q.1 (by omega), rfl⟩)
  · have c7 : j + u.length ≤ t.length := subI_ngt (by omega) (by omega) (by omega) c_6
    refine lv_aload_n hx hb dX0_firstPlaceOf_15 rfl (lv_at hl 1 rfl) ?_
    refine lv_aload_n hx hb dX0_firstPlaceOf_16 rfl (lv_at hl 2 rfl) ?_
    refine lv_iload_n hx hb dX0_firstPlaceOf_17 rfl (lv_at hl 0 rfl) ?_
    refine lv_iconst (v := nI 0) hx hb dX0_firstPlaceOf_18 (by decide) ?_
    refine kV_i (A := A) (b := a) (As := [.ref b, .int (nI j), .int (bI false)]) (rest := []) ⟨hx, hb, hml, hown, hts⟩ (mX0_standsAt (A := A) (ca := ca) (cb := cb) (i := j) (b0 := false) (by omega)) (cwV 3 hts (gV tw_2_15 tw_2_16 tw_2_17 tw_1_2 tw_2_18) rfl rfl rfl (by decide +kernel) ⟨Nat.le_of_ble_eq_true rfl, Nat.le_of_ble_eq_true rfl⟩) hC hS hA (hWa.recv hK) ⟨hWa, hWb⟩ rfl rfl hl.1 (Nat.le_of_ble_eq_true rfl) ⟨Nat.zero_le _, Nat.zero_le _⟩ dX0_firstPlaceOf_19 (fun r_7 hr_7 => ?_)
    obtain ⟨v, hv, rfl⟩ := hr_7
    refine f_eq (tgt := 27) hx hb dX0_firstPlaceOf_22 (by decide) (fun c_8 => ?_) (fun c_8 => ?_)
    · subst c_8
      refine lv_iinc (v := nI (j + 1)) (lv' := [(2, .int (nI (j + 1))), (0, .ref a), (1, .ref b)]) hx hb dX0_firstPlaceOf_27 hl (k := 0) rfl (nI_add j 1) (by decide) rfl (fun ls hl => ?_)
      refine lv_goto (tgt := 2) hx hb dX0_firstPlaceOf_30 (by decide) ?_
      exact ih (j + 1) (by omega) (by omega) ls hl (fun k hk => by rcases Nat.lt_succ_iff_lt_or_eq.mp hk with q | q; exact hg k q; rw [q]; exact fun z => Bool.noConfusion (hv.mpr z))
    · refine lv_iload_n hx hb dX0_firstPlaceOf_25 rfl (lv_at hl 0 rfl) ?_
      exact p_i hx hb hr hlocks dX0_firstPlaceOf_26 (Or.inl ⟨j, hv.mp c_8, hg, rfl⟩)

abbrev rmX0_lastPlaceOf : Room := { frames := 3, cells := 0, slots := 0, locals := 65 }
theorem mX0_lastPlaceOf {l : Launch} {G : Cx} {A : Nat → Prop} {a ca b cb : Nat} {t u : List Nat} : Met l yX0_lastPlaceOf (.code yX0_lastPlaceOf cX0_lastPlaceOf 3 (some .int) :: GW) rmX0_lastPlaceOf (PC G A [.ref a, .ref b] (fun H => LA G a ca t H ∧ LA G b cb u H)) (vp_Si (lstR (fun k => stL false t u k))) 0 0 (fun _ => False) := by
  refine mstart "Signtext$Line" (by decide +kernel) rfl (Nat.le_of_ble_eq_true rfl) ?_
  intro p e s m below meth c ls hx hb hr hts hown hml hlocks hname hC hA hW hl
  have hl : lv_has ls 3 [(0, .ref a), (1, .ref b)] := hl
  have hK := hC.1
  have hS : va_S A s.heap s.heap [] := va_S.rf
  obtain ⟨hWa, hWb⟩ := hW
  have hq9 := hWa
  obtain ⟨t60, tok, tne, hO, f, hF, hf⟩ := hq9
  have u60 := hWb.1
  have uok := hWb.2.1
  refine lv_aload_n hx hb dX0_lastPlaceOf_0 rfl (lv_at hl 0 rfl) ?_
  refine va_get (D := G.1) (ci := 4) (C := RX0) (T := TX0) (N := 2) hx hb hts inX0 hown hK (at_P hO) 0 rfl rfl 1 (by decide) (hts _ tw_1_45) (fun _ h9 => h9) rfl dX0_lastPlaceOf_1 ?_
  refine lv_aload_n hx hb dX0_lastPlaceOf_4 rfl (lv_at hl 1 rfl) ?_
  refine kV_i (A := A) (b := b) (As := []) (rest := .int (nI t.length) :: []) ⟨hx, hb, hml, hown, hts⟩ (mX0_size (A := A) (ca := cb)) (cwV 0 hts (gV tw_2_11 tw_2_12 tw_2_13 tw_1_2 tw_2_14) rfl rfl rfl (by decide +kernel) ⟨Nat.le_of_ble_eq_true rfl, Nat.le_of_ble_eq_true rfl⟩) hC hS hA (hWb.recv hK) hWb rfl rfl hl.1 (Nat.le_of_ble_eq_true rfl) ⟨Nat.zero_le _, Nat.zero_le _⟩ dX0_lastPlaceOf_5 (fun r9 h9 => lv_cv h9 ?_)
  refine lv_isub hx hb dX0_lastPlaceOf_8 ?_
  refine lv_istore_n (lv' := [(2, .int (nI t.length - nI u.length)), (0, .ref a), (1, .ref b)]) hx hb dX0_lastPlaceOf_9 rfl hl (by decide) rfl (fun ls hl => ?_)
  rcases Nat.lt_or_ge t.length u.length with hlt | hge
  · refine lv_iload_n hx hb dX0_lastPlaceOf_10 rfl (lv_at hl 0 rfl) ?_
    refine lv_if_lt (tgt := 32) hx hb dX0_lastPlaceOf_11 (by decide) (fun c_9 => ?_) (fun c_9 => ?_)
    · refine lv_iconst (v := (-1)) hx hb dX0_lastPlaceOf_32 (by decide) ?_
      exact p_i hx hb hr hlocks dX0_lastPlaceOf_33 (Or.inr ⟨fun k q => absurd q.1 (by omega), rfl⟩)
    · exact absurd (subI_neg (by omega) (by omega) hlt) c_9
  · rw [show nI t.length - nI u.length = nI (t.length - u.length + 1) - 1 by rw [pk_sub hge, nI_pred]] at hl
    refine dloop (P := fun j => ∀ (ls : Array Slot) , lv_has ls 3 [(2, .int (nI j - 1)), (0, .ref a), (1, .ref b)] → j ≤ t.length - u.length + 1 → (∀ k : Nat, j ≤ k → ¬ stL false t u k) → W p l e rmX0_lastPlaceOf s m [.ref a, .ref b].toArray below meth c s.heap [] 0 0 (MQ below (vp_Si (lstR (fun k => stL false t u k))) [.ref a, .ref b].toArray s 0 0 (fun _ => False)) (F0 m 10 ls [])) ?_ (t.length - u.length + 1) ls  hl (Nat.le_refl _) (fun k h1 q => absurd q.1 (by omega))
    clear hl
    intro j ih ls  hl
    intro hj hg
    cases j with
    | zero =>
      refine lv_iload_n hx hb dX0_lastPlaceOf_10 rfl (lv_at hl 0 rfl) ?_
      refine lv_if_lt (tgt := 32) hx hb dX0_lastPlaceOf_11 (by decide) (fun _ => ?_) (fun q => absurd (by decide) q)
      refine lv_iconst (v := (-1)) hx hb dX0_lastPlaceOf_32 (by decide) ?_
      exact p_i hx hb hr hlocks dX0_lastPlaceOf_33 (Or.inr ⟨fun k q => hg k (Nat.zero_le _) q, rfl⟩)
    | succ j =>
      rw [nI_pred] at hl
      refine lv_iload_n hx hb dX0_lastPlaceOf_10 rfl (lv_at hl 0 rfl) ?_
      refine z_lt (tgt := 32) hx hb dX0_lastPlaceOf_11 (by decide) (by omega) ?_
      refine lv_aload_n hx hb dX0_lastPlaceOf_14 rfl (lv_at hl 1 rfl) ?_
      refine lv_aload_n hx hb dX0_lastPlaceOf_15 rfl (lv_at hl 2 rfl) ?_
      refine lv_iload_n hx hb dX0_lastPlaceOf_16 rfl (lv_at hl 0 rfl) ?_
      refine lv_iconst (v := nI 0) hx hb dX0_lastPlaceOf_17 (by decide) ?_
      refine kV_i (A := A) (b := a) (As := [.ref b, .int (nI j), .int (bI false)]) (rest := []) ⟨hx, hb, hml, hown, hts⟩ (mX0_standsAt (A := A) (ca := ca) (cb := cb) (i := j) (b0 := false) (by omega)) (cwV 3 hts (gV tw_2_15 tw_2_16 tw_2_17 tw_1_2 tw_2_18) rfl rfl rfl (by decide +kernel) ⟨Nat.le_of_ble_eq_true rfl, Nat.le_of_ble_eq_true rfl⟩) hC hS hA (hWa.recv hK) ⟨hWa, hWb⟩ rfl rfl hl.1 (Nat.le_of_ble_eq_true rfl) ⟨Nat.zero_le _, Nat.zero_le _⟩ dX0_lastPlaceOf_18 (fun r_11 hr_11 => ?_)
      obtain ⟨v, hv, rfl⟩ := hr_11
      refine f_eq (tgt := 26) hx hb dX0_lastPlaceOf_21 (by decide) (fun c_12 => ?_) (fun c_12 => ?_)
      · subst c_12
        refine lv_iinc (v := nI j - 1) (lv' := [(2, .int (nI j - 1)), (0, .ref a), (1, .ref b)]) hx hb dX0_lastPlaceOf_26 hl (k := 0) rfl (m1_eq j) (by decide) rfl (fun ls hl => ?_)
        refine lv_goto (tgt := 10) hx hb dX0_lastPlaceOf_29 (by decide) ?_
        exact ih j (Nat.lt_succ_self j) ls hl (by omega) (fun k h1 => by rcases Nat.lt_or_ge j k with q | q; exact hg k q; rw [show k = j by omega]; exact fun z => Bool.noConfusion (hv.mpr z))
      · refine lv_iload_n hx hb dX0_lastPlaceOf_24 rfl (lv_at hl 0 rfl) ?_
        exact p_i hx hb hr hlocks dX0_lastPlaceOf_25 (Or.inl ⟨j, hv.mp c_12, fun k h1 => hg k h1, rfl⟩)

abbrev rmX0_holds : Room := { frames := 4, cells := 0, slots := 0, locals := 87 }
theorem mX0_holds {l : Launch} {G : Cx} {A : Nat → Prop} {a ca b cb : Nat} {t u : List Nat} : Met l yX0_holds (.code yX0_holds cX0_holds 2 (some .boolean) :: GW) rmX0_holds (PC G A [.ref a, .ref b] (fun H => LA G a ca t H ∧ LA G b cb u H)) (vp_Si (fun r => ∃ v : Bool, (v = true ↔ ∃ k, stL false t u k) ∧ r = bI v)) 0 0 (fun _ => False) := by
  refine mstart "Signtext$Line" (by decide +kernel) rfl (Nat.le_of_ble_eq_true rfl) ?_
  intro p e s m below meth c ls hx hb hr hts hown hml hlocks hname hC hA hW hl
  have hl : lv_has ls 2 [(0, .ref a), (1, .ref b)] := hl
  have hK := hC.1
  have hS : va_S A s.heap s.heap [] := va_S.rf
  obtain ⟨hWa, hWb⟩ := hW
  have hq9 := hWa
  obtain ⟨t60, tok, tne, hO, f, hF, hf⟩ := hq9
  have u60 := hWb.1
  have uok := hWb.2.1
  refine lv_aload_n hx hb dX0_holds_0 rfl (lv_at hl 0 rfl) ?_
  refine lv_aload_n hx hb dX0_holds_1 rfl (lv_at hl 1 rfl) ?_
  refine kV_i (A := A) (b := a) (As := [.ref b]) (rest := []) ⟨hx, hb, hml, hown, hts⟩ (mX0_firstPlaceOf (A := A) (ca := ca) (cb := cb)) (cwV 1 hts (gV tw_2_118 tw_2_103 tw_2_104 tw_1_2 tw_2_105) rfl rfl rfl (by decide +kernel) ⟨Nat.le_of_ble_eq_true rfl, Nat.le_of_ble_eq_true rfl⟩) hC hS hA (hWa.recv hK) ⟨hWa, hWb⟩ rfl rfl hl.1 (Nat.le_of_ble_eq_true rfl) ⟨Nat.zero_le _, Nat.zero_le _⟩ dX0_holds_2 (fun r_13 hr_13 => ?_)
  have h7 : fstR _ r_13 := hr_13
  refine lv_iconst (v := (-1)) hx hb dX0_holds_5 (by decide) ?_
  refine lv_icmp_eq (tgt := 13) hx hb dX0_holds_6 (by decide) (fun c_14 => ?_) (fun c_14 => ?_)
  · refine lv_iconst (v := nI 0) hx hb dX0_holds_13 (by decide) ?_
    exact p_z (b := false) hx hb hr hlocks dX0_holds_14 ⟨false, ⟨fun q => Bool.noConfusion q, fun ⟨k, q⟩ => by rcases h7 with ⟨j, q0, -, q2⟩ | ⟨q1, -⟩; exact absurd (q2.symm.trans c_14) (nI_nm1 (by have := q0.1; omega)); exact absurd q (q1 k)⟩, rfl⟩
  · refine lv_iconst (v := nI 1) hx hb dX0_holds_9 (by decide) ?_
    refine lv_goto (tgt := 14) hx hb dX0_holds_10 (by decide) ?_
    exact p_z (b := true) hx hb hr hlocks dX0_holds_14 ⟨true, ⟨fun _ => by rcases h7 with ⟨j, q0, -, q2⟩ | ⟨-, q1⟩; exact ⟨j, q0⟩; exact absurd q1 c_14, fun _ => rfl⟩, rfl⟩

abbrev rmX0_isSameAs : Room := { frames := 3, cells := 0, slots := 0, locals := 65 }
theorem mX0_isSameAs {l : Launch} {G : Cx} {A : Nat → Prop} {a ca b cb : Nat} {t u : List Nat} {b0 : Bool} : Met l yX0_isSameAs (.code yX0_isSameAs cX0_isSameAs 3 (some .boolean) :: GW) rmX0_isSameAs (PC G A [.ref a, .ref b, .int (bI b0)] (fun H => LA G a ca t H ∧ LA G b cb u H)) (vp_Si (fun r => ∃ v : Bool, (v = true ↔ t.length = u.length ∧ stL b0 t u 0) ∧ r = bI v)) 0 0 (fun _ => False) := by
  refine mstart "Signtext$Line" (by decide +kernel) rfl (Nat.le_of_ble_eq_true rfl) ?_
  intro p e s m below meth c ls hx hb hr hts hown hml hlocks hname hC hA hW hl
  have hl : lv_has ls 3 [(0, .ref a), (1, .ref b), (2, .int (bI b0))] := hl
  have hK := hC.1
  have hS : va_S A s.heap s.heap [] := va_S.rf
  obtain ⟨hWa, hWb⟩ := hW
  have hq9 := hWa
  obtain ⟨t60, tok, tne, hO, f, hF, hf⟩ := hq9
  have u60 := hWb.1
  have uok := hWb.2.1
  refine lv_aload_n hx hb dX0_isSameAs_0 rfl (lv_at hl 0 rfl) ?_
  refine va_get (D := G.1) (ci := 4) (C := RX0) (T := TX0) (N := 2) hx hb hts inX0 hown hK (at_P hO) 0 rfl rfl 1 (by decide) (hts _ tw_1_45) (fun _ h9 => h9) rfl dX0_isSameAs_1 ?_
  refine lv_aload_n hx hb dX0_isSameAs_4 rfl (lv_at hl 1 rfl) ?_
  refine kV_i (A := A) (b := b) (As := []) (rest := .int (nI t.length) :: []) ⟨hx, hb, hml, hown, hts⟩ (mX0_size (A := A) (ca := cb)) (cwV 0 hts (gV tw_2_11 tw_2_12 tw_2_13 tw_1_2 tw_2_14) rfl rfl rfl (by decide +kernel) ⟨Nat.le_of_ble_eq_true rfl, Nat.le_of_ble_eq_true rfl⟩) hC hS hA (hWb.recv hK) hWb rfl rfl hl.1 (Nat.le_of_ble_eq_true rfl) ⟨Nat.zero_le _, Nat.zero_le _⟩ dX0_isSameAs_5 (fun r9 h9 => lv_cv h9 ?_)
  refine b_ne (tgt := 25) hx hb dX0_isSameAs_8 (by decide) (by omega) (by omega) (fun c_15 => ?_) (fun c_15 => ?_)
  · refine lv_iconst (v := nI 0) hx hb dX0_isSameAs_25 (by decide) ?_
    exact p_z (b := false) hx hb hr hlocks dX0_isSameAs_26 ⟨false, ⟨fun q => Bool.noConfusion q, fun q => absurd q.1 c_15⟩, rfl⟩
  · refine lv_aload_n hx hb dX0_isSameAs_11 rfl (lv_at hl 0 rfl) ?_
    refine lv_aload_n hx hb dX0_isSameAs_12 rfl (lv_at hl 1 rfl) ?_
    refine lv_iconst (v := nI 0) hx hb dX0_isSameAs_13 (by decide) ?_
    refine lv_iload_n hx hb dX0_isSameAs_14 rfl (lv_at hl 2 rfl) ?_
    refine kV_i (A := A) (b := a) (As := [.ref b, .int (nI 0), .int (bI b0)]) (rest := []) ⟨hx, hb, hml, hown, hts⟩ (mX0_standsAt (A := A) (ca := ca) (cb := cb) (i := 0) (b0 := b0) (by decide)) (cwV 3 hts (gV tw_2_15 tw_2_16 tw_2_17 tw_1_2 tw_2_18) rfl rfl rfl (by decide +kernel) ⟨Nat.le_of_ble_eq_true rfl, Nat.le_of_ble_eq_true rfl⟩) hC hS hA (hWa.recv hK) ⟨hWa, hWb⟩ rfl rfl hl.1 (Nat.le_of_ble_eq_true rfl) ⟨Nat.zero_le _, Nat.zero_le _⟩ dX0_isSameAs_15 (fun r_16 hr_16 => ?_)
    obtain ⟨v, hv, rfl⟩ := hr_16
    refine f_eq (tgt := 25) hx hb dX0_isSameAs_18 (by decide) (fun c_17 => ?_) (fun c_17 => ?_)
    · refine lv_iconst (v := nI 0) hx hb dX0_isSameAs_25 (by decide) ?_
      exact p_z (b := false) hx hb hr hlocks dX0_isSameAs_26 ⟨false, ⟨fun q => Bool.noConfusion q, fun q => absurd (hv.mpr q.2) (by rw [c_17]; decide)⟩, rfl⟩
    · refine lv_iconst (v := nI 1) hx hb dX0_isSameAs_21 (by decide) ?_
      refine lv_goto (tgt := 26) hx hb dX0_isSameAs_22 (by decide) ?_
      exact p_z (b := true) hx hb hr hlocks dX0_isSameAs_26 ⟨true, ⟨fun _ => ⟨c_15, hv.mp c_17⟩, fun _ => rfl⟩, rfl⟩

abbrev rmX0_orderTo : Room := { frames := 2, cells := 0, slots := 0, locals := 41 }
theorem mX0_orderTo {l : Launch} {G : Cx} {A : Nat → Prop} {a ca b cb : Nat} {t u : List Nat} {b0 : Bool} : Met l yX0_orderTo (.code yX0_orderTo cX0_orderTo 5 (some .int) :: GW) rmX0_orderTo (PC G A [.ref a, .ref b, .int (bI b0)] (fun H => LA G a ca t H ∧ LA G b cb u H)) (vp_Si (ordR b0 t u)) 0 0 (fun _ => False) := by
  refine mstart "Signtext$Line" (by decide +kernel) rfl (Nat.le_of_ble_eq_true rfl) ?_
  intro p e s m below meth c ls hx hb hr hts hown hml hlocks hname hC hA hW hl
  have hl : lv_has ls 5 [(0, .ref a), (1, .ref b), (2, .int (bI b0))] := hl
  have hK := hC.1
  have hS : va_S A s.heap s.heap [] := va_S.rf
  obtain ⟨hWa, hWb⟩ := hW
  have hq9 := hWa
  obtain ⟨t60, tok, tne, hO, f, hF, hf⟩ := hq9
  have u60 := hWb.1
  have uok := hWb.2.1
  refine lv_iconst (v := nI 0) hx hb dX0_orderTo_0 (by decide) ?_
  refine lv_istore_n (lv' := [(3, .int (nI 0)), (0, .ref a), (1, .ref b), (2, .int (bI b0))]) hx hb dX0_orderTo_1 rfl hl (by decide) rfl (fun ls hl => ?_)
  refine nloop (P := fun j => ∀ (ls : Array Slot) , lv_has ls 5 [(3, .int (nI j)), (0, .ref a), (1, .ref b), (2, .int (bI b0))] → (∀ k : Nat, k < j → k < u.length → viewN b0 (t.getD k 0) = viewN b0 (u.getD k 0)) → W p l e rmX0_orderTo s m [.ref a, .ref b, .int (bI b0)].toArray below meth c s.heap [] 0 0 (MQ below (vp_Si (ordR b0 t u)) [.ref a, .ref b, .int (bI b0)].toArray s 0 0 (fun _ => False)) (F0 m 2 ls [])) t.length ?_ 0 (Nat.zero_le _) ls  hl (fun k hk => absurd hk (Nat.not_lt_zero k))
  clear hl
  intro j hj ih ls  hl
  intro hg
  refine lv_iload_n hx hb dX0_orderTo_2 rfl (lv_at hl 0 rfl) ?_
  refine lv_aload_n hx hb dX0_orderTo_3 rfl (lv_at hl 1 rfl) ?_
  refine va_get (D := G.1) (ci := 4) (C := RX0) (T := TX0) (N := 2) hx hb hts inX0 hown hK (at_P hO) 0 rfl rfl 1 (by decide) (hts _ tw_1_45) (fun _ h9 => h9) rfl dX0_orderTo_4 ?_
  refine b_ge (tgt := 54) hx hb dX0_orderTo_7 (by decide) (by omega) (by omega) (fun c_18 => ?_) (fun c_18 => ?_)
  · refine lv_aload_n hx hb dX0_orderTo_54 rfl (lv_at hl 1 rfl) ?_
    refine va_get (D := G.1) (ci := 4) (C := RX0) (T := TX0) (N := 2) hx hb hts inX0 hown hK (at_P hO) 0 rfl rfl 1 (by decide) (hts _ tw_1_45) (fun _ h9 => h9) rfl dX0_orderTo_55 ?_
    refine lv_aload_n hx hb dX0_orderTo_58 rfl (lv_at hl 2 rfl) ?_
    refine kV_i (A := A) (b := b) (As := []) (rest := .int (nI t.length) :: []) ⟨hx, hb, hml, hown, hts⟩ (mX0_size (A := A) (ca := cb)) (cwV 0 hts (gV tw_2_11 tw_2_12 tw_2_13 tw_1_2 tw_2_14) rfl rfl rfl (by decide +kernel) ⟨Nat.le_of_ble_eq_true rfl, Nat.le_of_ble_eq_true rfl⟩) hC hS hA (hWb.recv hK) hWb rfl rfl hl.1 (Nat.le_of_ble_eq_true rfl) ⟨Nat.zero_le _, Nat.zero_le _⟩ dX0_orderTo_59 (fun r9 h9 => lv_cv h9 ?_)
    refine lv_isub hx hb dX0_orderTo_62 ?_
    exact p_i hx hb hr hlocks dX0_orderTo_63 (Or.inr ⟨fun k h1 h2 => hg k (by omega) h2, rfl⟩)
  · refine lv_iload_n hx hb dX0_orderTo_10 rfl (lv_at hl 0 rfl) ?_
    refine lv_aload_n hx hb dX0_orderTo_11 rfl (lv_at hl 2 rfl) ?_
    refine kV_i (A := A) (b := b) (As := []) (rest := .int (nI j) :: []) ⟨hx, hb, hml, hown, hts⟩ (mX0_size (A := A) (ca := cb)) (cwV 0 hts (gV tw_2_11 tw_2_12 tw_2_13 tw_1_2 tw_2_14) rfl rfl rfl (by decide +kernel) ⟨Nat.le_of_ble_eq_true rfl, Nat.le_of_ble_eq_true rfl⟩) hC hS hA (hWb.recv hK) hWb rfl rfl hl.1 (Nat.le_of_ble_eq_true rfl) ⟨Nat.zero_le _, Nat.zero_le _⟩ dX0_orderTo_12 (fun r9 h9 => lv_cv h9 ?_)
    refine b_ge (tgt := 54) hx hb dX0_orderTo_15 (by decide) (by omega) (by omega) (fun c_19 => ?_) (fun c_19 => ?_)
    · refine lv_aload_n hx hb dX0_orderTo_54 rfl (lv_at hl 1 rfl) ?_
      refine va_get (D := G.1) (ci := 4) (C := RX0) (T := TX0) (N := 2) hx hb hts inX0 hown hK (at_P hO) 0 rfl rfl 1 (by decide) (hts _ tw_1_45) (fun _ h9 => h9) rfl dX0_orderTo_55 ?_
      refine lv_aload_n hx hb dX0_orderTo_58 rfl (lv_at hl 2 rfl) ?_
      refine kV_i (A := A) (b := b) (As := []) (rest := .int (nI t.length) :: []) ⟨hx, hb, hml, hown, hts⟩ (mX0_size (A := A) (ca := cb)) (cwV 0 hts (gV tw_2_11 tw_2_12 tw_2_13 tw_1_2 tw_2_14) rfl rfl rfl (by decide +kernel) ⟨Nat.le_of_ble_eq_true rfl, Nat.le_of_ble_eq_true rfl⟩) hC hS hA (hWb.recv hK) hWb rfl rfl hl.1 (Nat.le_of_ble_eq_true rfl) ⟨Nat.zero_le _, Nat.zero_le _⟩ dX0_orderTo_59 (fun r9 h9 => lv_cv h9 ?_)
      refine lv_isub hx hb dX0_orderTo_62 ?_
      exact p_i hx hb hr hlocks dX0_orderTo_63 (Or.inr ⟨fun k h1 h2 => hg k (by omega) h2, rfl⟩)
    · refine lv_aload_n hx hb dX0_orderTo_18 rfl (lv_at hl 1 rfl) ?_
      refine va_get (D := G.1) (ci := 4) (C := RX0) (T := TX0) (N := 2) hx hb hts inX0 hown hK (at_P hO) 0 rfl rfl 0 (by decide) (hts _ tw_1_44) (fun _ h9 => h9) rfl dX0_orderTo_19 ?_
      refine lv_iload_n hx hb dX0_orderTo_22 rfl (lv_at hl 0 rfl) ?_
      refine va_cald hx hb hK (at_P hF) 0 1 rfl rfl (vp_in_nI (n := j) (N := 60) (by omega) (by omega)) dX0_orderTo_23 ?_
      refine lv_cv (show _ = nI (t.getD j 0) from by rw [nI_clamp (by omega)]; exact hf _ (by omega)) ?_
      refine lv_iload_n hx hb dX0_orderTo_24 rfl (lv_at hl 3 rfl) ?_
      refine kS_i (A := A) (As := [.int (nI (t.getD j 0)), .int (bI b0)]) (rest := []) ⟨hx, hb, hml, hown, hts⟩ (mX0_seen (A := A) (tok j)) (va_cwS 2 hts (gS tw_2_23 tw_2_24 tw_1_2 tw_2_25) rfl rfl rfl (by decide +kernel) ⟨Nat.le_of_ble_eq_true rfl, Nat.le_of_ble_eq_true rfl⟩) hC hS hA  trivial rfl rfl hl.1 (Nat.le_of_ble_eq_true rfl) ⟨Nat.zero_le _, Nat.zero_le _⟩ dX0_orderTo_25 (fun r9 h9 => lv_cv h9 ?_)
      refine lv_aload_n hx hb dX0_orderTo_28 rfl (lv_at hl 2 rfl) ?_
      refine lv_iload_n hx hb dX0_orderTo_29 rfl (lv_at hl 0 rfl) ?_
      refine kV_i (A := A) (b := b) (As := [.int (nI j)]) (rest := .int (nI (viewN b0 (t.getD j 0))) :: []) ⟨hx, hb, hml, hown, hts⟩ (mX0_codeAt (A := A) (ca := cb) (i := j) (by omega)) (cwV 1 hts (gV tw_2_19 tw_2_20 tw_2_21 tw_1_2 tw_2_22) rfl rfl rfl (by decide +kernel) ⟨Nat.le_of_ble_eq_true rfl, Nat.le_of_ble_eq_true rfl⟩) hC hS hA (hWb.recv hK) hWb rfl rfl hl.1 (Nat.le_of_ble_eq_true rfl) ⟨Nat.zero_le _, Nat.zero_le _⟩ dX0_orderTo_30 (fun r9 h9 => lv_cv h9 ?_)
      refine lv_iload_n hx hb dX0_orderTo_33 rfl (lv_at hl 3 rfl) ?_
      refine kS_i (A := A) (As := [.int (nI (u.getD j 0)), .int (bI b0)]) (rest := .int (nI (viewN b0 (t.getD j 0))) :: []) ⟨hx, hb, hml, hown, hts⟩ (mX0_seen (A := A) (uok j)) (va_cwS 2 hts (gS tw_2_23 tw_2_24 tw_1_2 tw_2_25) rfl rfl rfl (by decide +kernel) ⟨Nat.le_of_ble_eq_true rfl, Nat.le_of_ble_eq_true rfl⟩) hC hS hA  trivial rfl rfl hl.1 (Nat.le_of_ble_eq_true rfl) ⟨Nat.zero_le _, Nat.zero_le _⟩ dX0_orderTo_34 (fun r9 h9 => lv_cv h9 ?_)
      refine lv_isub hx hb dX0_orderTo_37 ?_
      refine lv_istore (lv' := [(4, .int (nI (viewN b0 (t.getD j 0)) - nI (viewN b0 (u.getD j 0)))), (3, .int (nI j)), (0, .ref a), (1, .ref b), (2, .int (bI b0))]) hx hb dX0_orderTo_38 hl (by decide) rfl (fun ls hl => ?_)
      refine lv_iload hx hb dX0_orderTo_40 (lv_at hl 0 rfl) ?_
      have v1 := viewN_lt (b := b0) (tok j)
      have v2 := viewN_lt (b := b0) (uok j)
      refine lv_if_eq (tgt := 48) hx hb dX0_orderTo_42 (by decide) (fun c_20 => ?_) (fun c_20 => ?_)
      · refine lv_iinc (v := nI (j + 1)) (lv' := [(3, .int (nI (j + 1))), (4, .int (nI (viewN b0 (t.getD j 0)) - nI (viewN b0 (u.getD j 0)))), (0, .ref a), (1, .ref b), (2, .int (bI b0))]) hx hb dX0_orderTo_48 hl (k := 1) rfl (nI_add j 1) (by decide) rfl (fun ls hl => ?_)
        refine lv_goto (tgt := 2) hx hb dX0_orderTo_51 (by decide) ?_
        exact ih (j + 1) (by omega) (by omega) ls (lv_sub hl [0, 2, 3, 4] rfl) (fun k hk h2 => by rcases Nat.lt_succ_iff_lt_or_eq.mp hk with q | q; exact hg k q h2; rw [q]; exact (subI_0 (by omega) (by omega)).mp c_20)
      · refine lv_iload hx hb dX0_orderTo_45 (lv_at hl 0 rfl) ?_
        exact p_i hx hb hr hlocks dX0_orderTo_47 (Or.inl ⟨j, by omega, by omega, fun k h1 => hg k h1 (by omega), fun q => c_20 ((subI_0 (by omega) (by omega)).mpr q), rfl⟩)
end
section
/-! OWN LAYER, 4: calls with effects inside A, their ends -/
def qV (A : Nat → Prop) (P : Heap → Prop) : Array Value → State → Outcome → State → Prop := va_Qv (fun _ : Unit => True) (fun _ t => P t.heap) A
def qI (A : Nat → Prop) (P : Int32 → Heap → Prop) : Array Value → State → Outcome → State → Prop := va_Qi (S := Int32) (fun r u => r = u) (fun u t => P u t.heap) A
def qL (A : Nat → Prop) (P : Int64 → Heap → Prop) : Array Value → State → Outcome → State → Prop := va_Ql (S := Int64) (fun r u => r = u) (fun u t => P u t.heap) A
def qR (A : Nat → Prop) (P : Nat → Heap → Prop) : Array Value → State → Outcome → State → Prop := va_Qr (fun _ : Unit => True) (fun _ a t => P a t.heap) A
theorem ow_in {A : Nat → Prop} {a b n n0 : Nat} (ha : A a) (hb : A b) (hA : ∀ q : Nat, n0 ≤ q → A q) (hn : n0 ≤ n) : ∀ q, ow a b n q → A q := fun q h => by
  rcases h with rfl | rfl | h
  · exact ha
  · exact hb
  · exact hA q (Nat.le_trans hn h)
theorem nw_in {A : Nat → Prop} {n n0 : Nat} (hA : ∀ q : Nat, n0 ≤ q → A q) (hn : n0 ≤ n) : ∀ q, nw n q → A q := fun q h => hA q (Nat.le_trans hn h)
theorem ow_no {a b n q : Nat} (h1 : q ≠ a) (h2 : q ≠ b) (h3 : q < n) : ¬ ow a b n q := fun h => by
  rcases h with h | h | h
  · exact h1 h
  · exact h2 h
  · omega
section QR
variable {p : Program} {l : Launch} {e : Env} {R : Room} {s : State} {m : MethodId} {args : Array Value} {below : List Frame} {meth : Method} {c : Code} {H : Heap} {locs : List Loc} {cells slots : Nat} {Q : State → Prop}
variable {cc bytes : ByteArray} {pc nL maxL index n mc ms : Nat} {ls : Array Slot} {rest st0 : List Value} {G : Cx} {A A1 : Nat → Prop} {own C : String} {y : MethodName} {ret : Option FieldType} {ws : List Cond} {rm : Room} {b : Nat} {As : List Value} {Wd : Heap → Prop}
theorem qV_V {P : Heap → Prop} (S : CallFix p m c cc nL s args GW own) (hM : Met l y ws rm (PC G A1 (.ref b :: As) Wd) (qV A1 P) mc ms A1) (cw : CallW R s args own C index y bytes maxL ret ws rm mc ms n) (hC : cx G A s) (hS : va_S A s.heap H locs) (hAA : ∀ q, A1 q → A q) (hA1 : ∀ q : Nat, H.size ≤ q → A1 q)
    (hr : ∃ cell : Cell, H[b]? = some cell ∧ cell.vm.isStatics = false ∧ s.vm.findClass C = some cell.cls) (hW : Wd H) (hst : st0 = As.reverse ++ .ref b :: rest) (hn : As.length = n) (hl : ls.size = nL) (hrm : (rest.map fun v => v.category).sum ≤ 8) (hf : cells + mc ≤ R.cells ∧ slots + ms ≤ R.slots) (hdg : decode cc pc = .ok (.invokevirtual index, 3))
    (kk : ∀ (H1 : Heap) (locs1 : List Loc), P H1 → kp A1 H H1 → va_S A s.heap H1 locs1 → W p l e R s m args below meth c H1 locs1 (cells + mc) (slots + ms) Q (F0 m (pc + 3) ls rest)) : W p l e R s m args below meth c H locs cells slots Q (F0 m pc ls st0) :=
  eV_v (S9 := Unit) (post := fun _ => True) (B := fun _ H => P H) S hM cw hC hS hAA hA1 hr hW hst hn hl hrm hf hdg (fun _ H1 locs1 _ hB hk hS1 => kk H1 locs1 hB hk hS1)
theorem qI_V {P : Int32 → Heap → Prop} (S : CallFix p m c cc nL s args GW own) (hM : Met l y ws rm (PC G A1 (.ref b :: As) Wd) (qI A1 P) mc ms A1) (cw : CallW R s args own C index y bytes maxL ret ws rm mc ms n) (hC : cx G A s) (hS : va_S A s.heap H locs) (hAA : ∀ q, A1 q → A q) (hA1 : ∀ q : Nat, H.size ≤ q → A1 q)
    (hr : ∃ cell : Cell, H[b]? = some cell ∧ cell.vm.isStatics = false ∧ s.vm.findClass C = some cell.cls) (hW : Wd H) (hst : st0 = As.reverse ++ .ref b :: rest) (hn : As.length = n) (hl : ls.size = nL) (hrm : (rest.map fun v => v.category).sum ≤ 8) (hf : cells + mc ≤ R.cells ∧ slots + ms ≤ R.slots) (hdg : decode cc pc = .ok (.invokevirtual index, 3))
    (kk : ∀ (r : Int32) (H1 : Heap) (locs1 : List Loc), P r H1 → kp A1 H H1 → va_S A s.heap H1 locs1 → W p l e R s m args below meth c H1 locs1 (cells + mc) (slots + ms) Q (F0 m (pc + 3) ls (.int r :: rest))) : W p l e R s m args below meth c H locs cells slots Q (F0 m pc ls st0) :=
  eV_i (S9 := Int32) (post := fun r u => r = u) (B := fun u H => P u H) S hM cw hC hS hAA hA1 hr hW hst hn hl hrm hf hdg (fun r u H1 locs1 hp hB hk hS1 => by subst hp; exact kk r H1 locs1 hB hk hS1)
theorem qR_V {P : Nat → Heap → Prop} (S : CallFix p m c cc nL s args GW own) (hM : Met l y ws rm (PC G A1 (.ref b :: As) Wd) (qR A1 P) mc ms A1) (cw : CallW R s args own C index y bytes maxL ret ws rm mc ms n) (hC : cx G A s) (hS : va_S A s.heap H locs) (hAA : ∀ q, A1 q → A q) (hA1 : ∀ q : Nat, H.size ≤ q → A1 q)
    (hr : ∃ cell : Cell, H[b]? = some cell ∧ cell.vm.isStatics = false ∧ s.vm.findClass C = some cell.cls) (hW : Wd H) (hst : st0 = As.reverse ++ .ref b :: rest) (hn : As.length = n) (hl : ls.size = nL) (hrm : (rest.map fun v => v.category).sum ≤ 8) (hf : cells + mc ≤ R.cells ∧ slots + ms ≤ R.slots) (hdg : decode cc pc = .ok (.invokevirtual index, 3))
    (kk : ∀ (a : Nat) (H1 : Heap) (locs1 : List Loc), P a H1 → kp A1 H H1 → va_S A s.heap H1 locs1 → W p l e R s m args below meth c H1 locs1 (cells + mc) (slots + ms) Q (F0 m (pc + 3) ls (.ref a :: rest))) : W p l e R s m args below meth c H locs cells slots Q (F0 m pc ls st0) :=
  eV_r (S9 := Unit) (post := fun _ => True) (B := fun _ a H => P a H) S hM cw hC hS hAA hA1 hr hW hst hn hl hrm hf hdg (fun _ a H1 locs1 _ hB hk hS1 => kk a H1 locs1 hB hk hS1)
theorem qR_S {P : Nat → Heap → Prop} (S : CallFix p m c cc nL s args GW own) (hM : Met l y ws rm (PC G A1 As Wd) (qR A1 P) mc ms A1) (cw : CallB R s args own index y bytes maxL ret ws rm mc ms n ∧ (Cond.static y).before args s = true) (hC : cx G A s) (hS : va_S A s.heap H locs) (hAA : ∀ q, A1 q → A q) (hA1 : ∀ q : Nat, H.size ≤ q → A1 q)
    (hW : Wd H) (hst : st0 = As.reverse ++ rest) (hn : As.length = n) (hl : ls.size = nL) (hrm : (rest.map fun v => v.category).sum ≤ 8) (hf : cells + mc ≤ R.cells ∧ slots + ms ≤ R.slots) (hdg : decode cc pc = .ok (.invokestatic index, 3))
    (kk : ∀ (a : Nat) (H1 : Heap) (locs1 : List Loc), P a H1 → kp A1 H H1 → va_S A s.heap H1 locs1 → W p l e R s m args below meth c H1 locs1 (cells + mc) (slots + ms) Q (F0 m (pc + 3) ls (.ref a :: rest))) : W p l e R s m args below meth c H locs cells slots Q (F0 m pc ls st0) :=
  eS_r (S9 := Unit) (post := fun _ => True) (B := fun _ a H => P a H) S hM cw hC hS hAA hA1 hW hst hn hl hrm hf hdg (fun _ a H1 locs1 _ hB hk hS1 => kk a H1 locs1 hB hk hS1)
theorem qI_S {P : Int32 → Heap → Prop} (S : CallFix p m c cc nL s args GW own) (hM : Met l y ws rm (PC G A1 As Wd) (qI A1 P) mc ms A1) (cw : CallB R s args own index y bytes maxL ret ws rm mc ms n ∧ (Cond.static y).before args s = true) (hC : cx G A s) (hS : va_S A s.heap H locs) (hAA : ∀ q, A1 q → A q) (hA1 : ∀ q : Nat, H.size ≤ q → A1 q)
    (hW : Wd H) (hst : st0 = As.reverse ++ rest) (hn : As.length = n) (hl : ls.size = nL) (hrm : (rest.map fun v => v.category).sum ≤ 8) (hf : cells + mc ≤ R.cells ∧ slots + ms ≤ R.slots) (hdg : decode cc pc = .ok (.invokestatic index, 3))
    (kk : ∀ (r : Int32) (H1 : Heap) (locs1 : List Loc), P r H1 → kp A1 H H1 → va_S A s.heap H1 locs1 → W p l e R s m args below meth c H1 locs1 (cells + mc) (slots + ms) Q (F0 m (pc + 3) ls (.int r :: rest))) : W p l e R s m args below meth c H locs cells slots Q (F0 m pc ls st0) := by
  subst hst
  exact va_calli (va_runS (As := As) (rest := rest) (g := F0 m pc ls (As.reverse ++ rest)) S hM cw ⟨PC.blind, PC.go hC hS hAA hA1 hW⟩ rfl hn hl rfl (lv_room hrm) hdg hf) hS (fun q _ h => hAA q h) hAA (fun r u t H1 locs1 ht _ hp hB hz hk hS1 => by subst hp; exact kk r H1 locs1 (show P r H1 from ht ▸ hB) ⟨hz, hk⟩ hS1)
theorem qL_S {P : Int64 → Heap → Prop} (S : CallFix p m c cc nL s args GW own) (hM : Met l y ws rm (PC G A1 As Wd) (qL A1 P) mc ms A1) (cw : CallB R s args own index y bytes maxL ret ws rm mc ms n ∧ (Cond.static y).before args s = true) (hC : cx G A s) (hS : va_S A s.heap H locs) (hAA : ∀ q, A1 q → A q) (hA1 : ∀ q : Nat, H.size ≤ q → A1 q)
    (hW : Wd H) (hst : st0 = As.reverse ++ rest) (hn : As.length = n) (hl : ls.size = nL) (hrm : (rest.map fun v => v.category).sum ≤ 8) (hf : cells + mc ≤ R.cells ∧ slots + ms ≤ R.slots) (hdg : decode cc pc = .ok (.invokestatic index, 3))
    (kk : ∀ (r : Int64) (H1 : Heap) (locs1 : List Loc), P r H1 → kp A1 H H1 → va_S A s.heap H1 locs1 → W p l e R s m args below meth c H1 locs1 (cells + mc) (slots + ms) Q (F0 m (pc + 3) ls (.long r :: rest))) : W p l e R s m args below meth c H locs cells slots Q (F0 m pc ls st0) := by
  subst hst
  exact va_calll (va_runS (As := As) (rest := rest) (g := F0 m pc ls (As.reverse ++ rest)) S hM cw ⟨PC.blind, PC.go hC hS hAA hA1 hW⟩ rfl hn hl rfl (lv_room hrm) hdg hf) hS (fun q _ h => hAA q h) hAA (fun r u t H1 locs1 ht _ hp hB hz hk hS1 => by subst hp; exact kk r H1 locs1 (show P r H1 from ht ▸ hB) ⟨hz, hk⟩ hS1)
theorem qL_V {P : Int64 → Heap → Prop} (S : CallFix p m c cc nL s args GW own) (hM : Met l y ws rm (PC G A1 (.ref b :: As) Wd) (qL A1 P) mc ms A1) (cw : CallW R s args own C index y bytes maxL ret ws rm mc ms n) (hC : cx G A s) (hS : va_S A s.heap H locs) (hAA : ∀ q, A1 q → A q) (hA1 : ∀ q : Nat, H.size ≤ q → A1 q)
    (hr : ∃ cell : Cell, H[b]? = some cell ∧ cell.vm.isStatics = false ∧ s.vm.findClass C = some cell.cls) (hW : Wd H) (hst : st0 = As.reverse ++ .ref b :: rest) (hn : As.length = n) (hl : ls.size = nL) (hrm : (rest.map fun v => v.category).sum ≤ 8) (hf : cells + mc ≤ R.cells ∧ slots + ms ≤ R.slots) (hdg : decode cc pc = .ok (.invokevirtual index, 3))
    (kk : ∀ (r : Int64) (H1 : Heap) (locs1 : List Loc), P r H1 → kp A1 H H1 → va_S A s.heap H1 locs1 → W p l e R s m args below meth c H1 locs1 (cells + mc) (slots + ms) Q (F0 m (pc + 3) ls (.long r :: rest))) : W p l e R s m args below meth c H locs cells slots Q (F0 m pc ls st0) := by
  subst hst
  exact va_calll (va_runV (As := As) (rest := rest) (g := F0 m pc ls (As.reverse ++ .ref b :: rest)) S hM cw ⟨PC.blind, hr, PC.go hC hS hAA hA1 hW⟩ rfl hn hl rfl (lv_room hrm) hdg hf) hS (fun q _ h => hAA q h) hAA (fun r u t H1 locs1 ht _ hp hB hz hk hS1 => by subst hp; exact kk r H1 locs1 (show P r H1 from ht ▸ hB) ⟨hz, hk⟩ hS1)
theorem qV_I {P : Heap → Prop} (S : CallFix p m c cc nL s args GW own) (hM : Met l y ws rm (PC G A1 (.ref b :: As) Wd) (qV A1 P) mc ms A1) (cw : CallB R s args own index y bytes maxL none ws rm mc ms n ∧ y.name = "<init>" ∧ (Cond.instanceMethod y).before args s = true) (hC : cx G A s) (hS : va_S A s.heap H locs) (hAA : ∀ q, A1 q → A q) (hA1 : ∀ q : Nat, H.size ≤ q → A1 q)
    (hW : Wd H) (hst : st0 = As.reverse ++ .ref b :: rest) (hn : As.length = n) (hl : ls.size = nL) (hrm : (rest.map fun v => v.category).sum ≤ 8) (hf : cells + mc ≤ R.cells ∧ slots + ms ≤ R.slots) (hdg : decode cc pc = .ok (.invokespecial index, 3))
    (kk : ∀ (H1 : Heap) (locs1 : List Loc), P H1 → kp A1 H H1 → va_S A s.heap H1 locs1 → W p l e R s m args below meth c H1 locs1 (cells + mc) (slots + ms) Q (F0 m (pc + 3) ls rest)) : W p l e R s m args below meth c H locs cells slots Q (F0 m pc ls st0) :=
  eI_v (S9 := Unit) (post := fun _ => True) (B := fun _ H => P H) S hM cw hC hS hAA hA1 hW hst hn hl hrm hf hdg (fun _ H1 locs1 _ hB hk hS1 => kk H1 locs1 hB hk hS1)
/-- ends -/
theorem q_v {P : Heap → Prop} (hx : p.tables.exec = Jvm.exec) (hb : c.code = cc) (hr : meth.sig.returnType = none) (hlocks : meth.locks = false) (hd : decode cc pc = .ok (.return_, 1)) (hS : va_S A s.heap H locs) (hc : cells ≤ mc) (hs : slots ≤ ms) (hP : P H) : W p l e R s m args below meth c H locs cells slots (MQ below (qV A P) args s mc ms A) (F0 m pc ls []) :=
  W.widen hc hs (W.vret hx hb hr (fun t ht hW => ⟨⟨(), rfl, trivial, show P t.heap from ht ▸ hP⟩, hS.F ht⟩) hS.2.2 hd)
theorem q_i {P : Int32 → Heap → Prop} {v : Int32} (hx : p.tables.exec = Jvm.exec) (hb : c.code = cc) (hr : meth.sig.returnType = some .int) (hlocks : meth.locks = false) (hd : decode cc pc = .ok (.ireturn, 1)) (hS : va_S A s.heap H locs) (hc : cells ≤ mc) (hs : slots ≤ ms) (hP : P v H) : W p l e R s m args below meth c H locs cells slots (MQ below (qI A P) args s mc ms A) (F0 m pc ls [.int v]) :=
  W.widen hc hs (W.iret hx hb hr (fun t ht hW => ⟨⟨v, v, rfl, rfl, show P v t.heap from ht ▸ hP⟩, hS.F ht⟩) hS.2.2 hd)
theorem q_z {P : Int32 → Heap → Prop} {b9 : Bool} (hx : p.tables.exec = Jvm.exec) (hb : c.code = cc) (hr : meth.sig.returnType = some .boolean) (hlocks : meth.locks = false) (hd : decode cc pc = .ok (.ireturn, 1)) (hS : va_S A s.heap H locs) (hc : cells ≤ mc) (hs : slots ≤ ms) (hP : P (bI b9) H) : W p l e R s m args below meth c H locs cells slots (MQ below (qI A P) args s mc ms A) (F0 m pc ls [.int (bI b9)]) :=
  W.widen hc hs (W.zret hx hb hr (nar_bI b9) (fun t ht hW => ⟨⟨_, _, rfl, rfl, show P _ t.heap from ht ▸ hP⟩, hS.F ht⟩) hS.2.2 hd)
theorem q_l {P : Int64 → Heap → Prop} {v : Int64} (hx : p.tables.exec = Jvm.exec) (hb : c.code = cc) (hr : meth.sig.returnType = some .long) (hlocks : meth.locks = false) (hd : decode cc pc = .ok (.lreturn, 1)) (hS : va_S A s.heap H locs) (hc : cells ≤ mc) (hs : slots ≤ ms) (hP : P v H) : W p l e R s m args below meth c H locs cells slots (MQ below (qL A P) args s mc ms A) (F0 m pc ls [.long v]) :=
  W.widen hc hs (W.lret hx hb hr (fun t ht hW => ⟨⟨v, v, rfl, rfl, show P v t.heap from ht ▸ hP⟩, hS.F ht⟩) hS.2.2 hd)
theorem q_a {P : Nat → Heap → Prop} {a : Nat} {rt : FieldType} (hx : p.tables.exec = Jvm.exec) (hb : c.code = cc) (hr : meth.sig.returnType = some rt) (hrt : (∃ n, rt = FieldType.object n) ∨ ∃ t, rt = FieldType.array t) (hlocks : meth.locks = false) (hd : decode cc pc = .ok (.areturn, 1)) (hS : va_S A s.heap H locs) (hc : cells ≤ mc) (hs : slots ≤ ms) (hP : P a H) : W p l e R s m args below meth c H locs cells slots (MQ below (qR A P) args s mc ms A) (F0 m pc ls [.ref a]) :=
  W.widen hc hs (W.aret hx hb hr hrt (Or.inr ⟨a, rfl⟩) (fun t ht hW => ⟨⟨(), a, rfl, trivial, show P a t.heap from ht ▸ hP⟩, hS.F ht⟩) hS.2.2 hd)
/-- a pure answer that is a cell -/
def pR (P : Nat → Prop) : Array Value → State → Outcome → State → Prop := fun _ st o t => ∃ a : Nat, o = .returned (some (.ref a)) ∧ P a ∧ t.heap = st.heap
theorem p_a {P : Nat → Prop} {a : Nat} {rt : FieldType} (hx : p.tables.exec = Jvm.exec) (hb : c.code = cc) (hr : meth.sig.returnType = some rt) (hrt : (∃ n, rt = FieldType.object n) ∨ ∃ t, rt = FieldType.array t) (hlocks : meth.locks = false) (hd : decode cc pc = .ok (.areturn, 1)) (hP : P a) : W p l e R s m args below meth c s.heap [] 0 0 (MQ below (pR P) args s 0 0 (fun _ => False)) (F0 m pc ls [.ref a]) :=
  W.aret hx hb hr hrt (Or.inr ⟨a, rfl⟩) (fun t ht hW => ⟨a, rfl, hP, ht⟩) (fun q h => by cases h) hd
end QR
end
section
/-! Line, 4: writers -/
theorem LA.o {G : Cx} {a ca b : Nat} {t : List Nat} {H H1 : Heap} (h : LA G a ca t H) (oq : ∀ q : Nat, q ≠ b → H1[q]? = H[q]?) (n1 : a ≠ b) (n2 : ca ≠ b) : LA G a ca t H1 := by
  obtain ⟨q1, q2, q3, q4, f, q5, q6⟩ := h
  exact ⟨q1, q2, q3, at_o q4 oq n1, f, at_o q5 oq n2, q6⟩
theorem LA.n {G : Cx} {a ca : Nat} {t : List Nat} {H H1 : Heap} (h : LA G a ca t H) (oq : ∀ q : Nat, q < H.size → H1[q]? = H[q]?) : LA G a ca t H1 := by
  obtain ⟨q1, q2, q3, q4, f, q5, q6⟩ := h
  exact ⟨q1, q2, q3, at_n q4 oq, f, at_n q5 oq, q6⟩
theorem okc_set {t : List Nat} {i k0 : Nat} (h : okc t) (hk : k0 < 256) : okc (t.set i k0) := fun j => by
  rw [List.getD_eq_getElem?_getD, List.getElem?_set]
  split
  · split
    · exact hk
    · decide
  · rw [← List.getD_eq_getElem?_getD]; exact h j
theorem LA.put {G : Cx} {a ca i k0 : Nat} {t : List Nat} {f : Nat → Int32} {H : Heap} (t60 : t.length ≤ 60) (tok : okc t) (hi : i < t.length) (hk0 : k0 < 256) (tne : a ≠ ca) (hO : va_at G.1 vwCl (a, .inr (4, [.ref ca, .int (nI t.length)])) H) (hF : va_at G.1 vwCl (ca, .inl (G.2.1 1, 60, .inl (upd f i (vp_nar .char (nI k0))))) H) (hf : ∀ j : Nat, j < t.length → f j = nI (t.getD j 0)) : LA G a ca (t.set i k0) H := by
  refine ⟨by rw [List.length_set]; exact t60, okc_set tok hk0, tne, by rw [List.length_set]; exact hO, _, hF, fun j hj => ?_⟩
  rw [List.length_set] at hj
  by_cases h : j = i
  · subst h
    rw [pk_us, nar_char (by omega), List.getD_eq_getElem?_getD, List.getElem?_set_self hj]; rfl
  · rw [pk_un h, hf j hj, List.getD_eq_getElem?_getD, List.getD_eq_getElem?_getD, List.getElem?_set_ne (fun q => h q.symm)]
theorem LA.push {G : Cx} {a ca k0 : Nat} {t : List Nat} {f : Nat → Int32} {H : Heap} (t60 : t.length < 60) (tok : okc t) (hk0 : k0 < 256) (tne : a ≠ ca) (hO : va_at G.1 vwCl (a, .inr (4, [.ref ca, .int (nI (t.length + 1))])) H) (hF : va_at G.1 vwCl (ca, .inl (G.2.1 1, 60, .inl (upd f t.length (vp_nar .char (nI k0))))) H) (hf : ∀ j : Nat, j < t.length → f j = nI (t.getD j 0)) : LA G a ca (t ++ [k0]) H := by
  have hl : (t ++ [k0]).length = t.length + 1 := by rw [List.length_append]; rfl
  refine ⟨by rw [hl]; omega, okc_app tok (okc_one hk0), tne, by rw [hl]; exact hO, _, hF, fun j hj => ?_⟩
  rw [hl] at hj
  by_cases h : j = t.length
  · subst h
    rw [pk_us, nar_char (by omega), getD_last]
  · rw [pk_un h, hf j (by omega), getD_app1 (by omega)]
theorem take_full {t : List Nat} {k0 : Nat} (h : 60 ≤ t.length) (h2 : t.length ≤ 60 := by omega) : (t ++ [k0]).take 60 = t := by
  rw [List.take_append_of_le_length h, List.take_of_length_le h2]
theorem take_room {t : List Nat} {k0 : Nat} (h : t.length < 60) : (t ++ [k0]).take 60 = t ++ [k0] := List.take_of_length_le (by rw [List.length_append]; show t.length + 1 ≤ 60; omega)
theorem take_take60 (l r : List Nat) : (l.take 60 ++ r).take 60 = (l ++ r).take 60 := by
  rcases Nat.lt_or_ge l.length 60 with h | h
  · rw [List.take_of_length_le (Nat.le_of_lt h)]
  · rw [List.take_append_of_le_length (by rw [List.length_take]; omega), List.take_take, Nat.min_self, List.take_append_of_le_length h]
theorem dX0_init_0 : decode cX0_init 0 = .ok (.aload_n 0, 1) := by decide +kernel
theorem dX0_init_1 : decode cX0_init 1 = .ok (.invokespecial 3, 3) := by decide +kernel
theorem dX0_init_4 : decode cX0_init 4 = .ok (.aload_n 0, 1) := by decide +kernel
theorem dX0_init_5 : decode cX0_init 5 = .ok (.bipush 60, 2) := by decide +kernel
theorem dX0_init_7 : decode cX0_init 7 = .ok (.newarray .char, 2) := by decide +kernel
theorem dX0_init_9 : decode cX0_init 9 = .ok (.putfield 9, 3) := by decide +kernel
theorem dX0_init_12 : decode cX0_init 12 = .ok (.aload_n 0, 1) := by decide +kernel
theorem dX0_init_13 : decode cX0_init 13 = .ok (.iconst 0, 1) := by decide +kernel
theorem dX0_init_14 : decode cX0_init 14 = .ok (.putfield 15, 3) := by decide +kernel
theorem dX0_init_17 : decode cX0_init 17 = .ok (.return_, 1) := by decide +kernel
theorem dX0_empty_0 : decode cX0_empty 0 = .ok (.aload_n 0, 1) := by decide +kernel
theorem dX0_empty_1 : decode cX0_empty 1 = .ok (.iconst 0, 1) := by decide +kernel
theorem dX0_empty_2 : decode cX0_empty 2 = .ok (.putfield 15, 3) := by decide +kernel
theorem dX0_empty_5 : decode cX0_empty 5 = .ok (.return_, 1) := by decide +kernel
theorem dX0_change_0 : decode cX0_change 0 = .ok (.iload_n 1, 1) := by decide +kernel
theorem dX0_change_1 : decode cX0_change 1 = .ok (.ifCond .lt 19, 3) := by decide +kernel
theorem dX0_change_4 : decode cX0_change 4 = .ok (.iload_n 1, 1) := by decide +kernel
theorem dX0_change_5 : decode cX0_change 5 = .ok (.aload_n 0, 1) := by decide +kernel
theorem dX0_change_6 : decode cX0_change 6 = .ok (.getfield 15, 3) := by decide +kernel
theorem dX0_change_9 : decode cX0_change 9 = .ok (.if_icmp .ge 11, 3) := by decide +kernel
theorem dX0_change_12 : decode cX0_change 12 = .ok (.aload_n 0, 1) := by decide +kernel
theorem dX0_change_13 : decode cX0_change 13 = .ok (.getfield 9, 3) := by decide +kernel
theorem dX0_change_16 : decode cX0_change 16 = .ok (.iload_n 1, 1) := by decide +kernel
theorem dX0_change_17 : decode cX0_change 17 = .ok (.iload_n 2, 1) := by decide +kernel
theorem dX0_change_18 : decode cX0_change 18 = .ok (.i2c, 1) := by decide +kernel
theorem dX0_change_19 : decode cX0_change 19 = .ok (.castore, 1) := by decide +kernel
theorem dX0_change_20 : decode cX0_change 20 = .ok (.return_, 1) := by decide +kernel
theorem dX0_addCode_0 : decode cX0_addCode 0 = .ok (.aload_n 0, 1) := by decide +kernel
theorem dX0_addCode_1 : decode cX0_addCode 1 = .ok (.getfield 15, 3) := by decide +kernel
theorem dX0_addCode_4 : decode cX0_addCode 4 = .ok (.bipush 60, 2) := by decide +kernel
theorem dX0_addCode_6 : decode cX0_addCode 6 = .ok (.if_icmp .ge 24, 3) := by decide +kernel
theorem dX0_addCode_9 : decode cX0_addCode 9 = .ok (.aload_n 0, 1) := by decide +kernel
theorem dX0_addCode_10 : decode cX0_addCode 10 = .ok (.getfield 9, 3) := by decide +kernel
theorem dX0_addCode_13 : decode cX0_addCode 13 = .ok (.aload_n 0, 1) := by decide +kernel
theorem dX0_addCode_14 : decode cX0_addCode 14 = .ok (.getfield 15, 3) := by decide +kernel
theorem dX0_addCode_17 : decode cX0_addCode 17 = .ok (.iload_n 1, 1) := by decide +kernel
theorem dX0_addCode_18 : decode cX0_addCode 18 = .ok (.i2c, 1) := by decide +kernel
theorem dX0_addCode_19 : decode cX0_addCode 19 = .ok (.castore, 1) := by decide +kernel
theorem dX0_addCode_20 : decode cX0_addCode 20 = .ok (.aload_n 0, 1) := by decide +kernel
theorem dX0_addCode_21 : decode cX0_addCode 21 = .ok (.dup, 1) := by decide +kernel
theorem dX0_addCode_22 : decode cX0_addCode 22 = .ok (.getfield 15, 3) := by decide +kernel
theorem dX0_addCode_25 : decode cX0_addCode 25 = .ok (.iconst 1, 1) := by decide +kernel
theorem dX0_addCode_26 : decode cX0_addCode 26 = .ok (.iadd, 1) := by decide +kernel
theorem dX0_addCode_27 : decode cX0_addCode 27 = .ok (.putfield 15, 3) := by decide +kernel
theorem dX0_addCode_30 : decode cX0_addCode 30 = .ok (.return_, 1) := by decide +kernel
theorem dX0_addPart_0 : decode cX0_addPart 0 = .ok (.iload_n 2, 1) := by decide +kernel
theorem dX0_addPart_1 : decode cX0_addPart 1 = .ok (.istore 4, 2) := by decide +kernel
theorem dX0_addPart_3 : decode cX0_addPart 3 = .ok (.iload 4, 2) := by decide +kernel
theorem dX0_addPart_5 : decode cX0_addPart 5 = .ok (.iload_n 3, 1) := by decide +kernel
theorem dX0_addPart_6 : decode cX0_addPart 6 = .ok (.if_icmp .ge 19, 3) := by decide +kernel
theorem dX0_addPart_9 : decode cX0_addPart 9 = .ok (.aload_n 0, 1) := by decide +kernel
theorem dX0_addPart_10 : decode cX0_addPart 10 = .ok (.aload_n 1, 1) := by decide +kernel
theorem dX0_addPart_11 : decode cX0_addPart 11 = .ok (.iload 4, 2) := by decide +kernel
theorem dX0_addPart_13 : decode cX0_addPart 13 = .ok (.invokevirtual 19, 3) := by decide +kernel
theorem dX0_addPart_16 : decode cX0_addPart 16 = .ok (.invokevirtual 23, 3) := by decide +kernel
theorem dX0_addPart_19 : decode cX0_addPart 19 = .ok (.iinc 4 1, 3) := by decide +kernel
theorem dX0_addPart_22 : decode cX0_addPart 22 = .ok (.goto (-19), 3) := by decide +kernel
theorem dX0_addPart_25 : decode cX0_addPart 25 = .ok (.return_, 1) := by decide +kernel
theorem dX0_addAll_0 : decode cX0_addAll 0 = .ok (.aload_n 0, 1) := by decide +kernel
theorem dX0_addAll_1 : decode cX0_addAll 1 = .ok (.aload_n 1, 1) := by decide +kernel
theorem dX0_addAll_2 : decode cX0_addAll 2 = .ok (.iconst 0, 1) := by decide +kernel
theorem dX0_addAll_3 : decode cX0_addAll 3 = .ok (.aload_n 1, 1) := by decide +kernel
theorem dX0_addAll_4 : decode cX0_addAll 4 = .ok (.invokevirtual 27, 3) := by decide +kernel
theorem dX0_addAll_7 : decode cX0_addAll 7 = .ok (.invokevirtual 31, 3) := by decide +kernel
theorem dX0_addAll_10 : decode cX0_addAll 10 = .ok (.return_, 1) := by decide +kernel
theorem dX0_become_0 : decode cX0_become 0 = .ok (.aload_n 0, 1) := by decide +kernel
theorem dX0_become_1 : decode cX0_become 1 = .ok (.aload_n 1, 1) := by decide +kernel
theorem dX0_become_2 : decode cX0_become 2 = .ok (.getfield 15, 3) := by decide +kernel
theorem dX0_become_5 : decode cX0_become 5 = .ok (.putfield 15, 3) := by decide +kernel
theorem dX0_become_8 : decode cX0_become 8 = .ok (.iconst 0, 1) := by decide +kernel
theorem dX0_become_9 : decode cX0_become 9 = .ok (.istore_n 2, 1) := by decide +kernel
theorem dX0_become_10 : decode cX0_become 10 = .ok (.iload_n 2, 1) := by decide +kernel
theorem dX0_become_11 : decode cX0_become 11 = .ok (.aload_n 0, 1) := by decide +kernel
theorem dX0_become_12 : decode cX0_become 12 = .ok (.getfield 15, 3) := by decide +kernel
theorem dX0_become_15 : decode cX0_become 15 = .ok (.if_icmp .ge 21, 3) := by decide +kernel
theorem dX0_become_18 : decode cX0_become 18 = .ok (.aload_n 0, 1) := by decide +kernel
theorem dX0_become_19 : decode cX0_become 19 = .ok (.getfield 9, 3) := by decide +kernel
theorem dX0_become_22 : decode cX0_become 22 = .ok (.iload_n 2, 1) := by decide +kernel
theorem dX0_become_23 : decode cX0_become 23 = .ok (.aload_n 1, 1) := by decide +kernel
theorem dX0_become_24 : decode cX0_become 24 = .ok (.getfield 9, 3) := by decide +kernel
theorem dX0_become_27 : decode cX0_become 27 = .ok (.iload_n 2, 1) := by decide +kernel
theorem dX0_become_28 : decode cX0_become 28 = .ok (.caload, 1) := by decide +kernel
theorem dX0_become_29 : decode cX0_become 29 = .ok (.castore, 1) := by decide +kernel
theorem dX0_become_30 : decode cX0_become 30 = .ok (.iinc 2 1, 3) := by decide +kernel
theorem dX0_become_33 : decode cX0_become 33 = .ok (.goto (-23), 3) := by decide +kernel
theorem dX0_become_36 : decode cX0_become 36 = .ok (.return_, 1) := by decide +kernel
abbrev rmX0_empty : Room := { frames := 1, cells := 0, slots := 0, locals := 20 }
theorem mX0_empty {l : Launch} {G : Cx} {A : Nat → Prop} {a ca : Nat} {t : List Nat} (hAa : A a) : Met l yX0_empty (.code yX0_empty cX0_empty 1 (none : Option Jvm.ClassFile.FieldType) :: GW) rmX0_empty (PC G A [.ref a] (LA G a ca t)) (qV A (LA G a ca [])) 0 0 (A) := by
  refine mstart "Signtext$Line" (by decide +kernel) rfl (Nat.le_of_ble_eq_true rfl) ?_
  intro p e s m below meth c ls hx hb hr hts hown hml hlocks hname hC hA hW hl
  have hl : lv_has ls 1 [(0, .ref a)] := hl
  have hK := hC.1
  have hS : va_S A s.heap s.heap [] := va_S.rf
  have hq9 := hW
  obtain ⟨t60, tok, tne, hO, f, hF, hf⟩ := hq9
  refine lv_aload_n hx hb dX0_empty_0 rfl (lv_at hl 0 rfl) ?_
  refine lv_iconst (v := nI 0) hx hb dX0_empty_1 (by decide) ?_
  refine h_put (D := G.1) (ci := 4) (C := RX0) (T := TX0) (N := 2) hx hb hts inX0 tyX0 tyX0_ok nmX0 hown hK hO hS hAa rfl 1 (by decide) (hts _ tw_1_45) (fun _ h9 => h9) rfl (tyX0_ok 1 (by decide)) rfl rfl (Nat.le_of_ble_eq_true rfl) dX0_empty_2 (fun H1 L1 hO z1 o1 hS => ?_)
  have hO : va_at G.1 vwCl (a, .inr (4, [.ref ca, .int (nI 0)])) H1 := hO
  have hF := at_o hF o1 (Ne.symm tne)
  have hZ1 := hS.1
  exact q_v hx hb hr hlocks dX0_empty_5 hS (Nat.le_refl _) (Nat.le_refl _) ⟨Nat.zero_le _, okc_nil, tne, hO, f, hF, fun j hj => absurd hj (Nat.not_lt_zero j)⟩

abbrev rmX0_change : Room := { frames := 1, cells := 0, slots := 0, locals := 20 }
theorem mX0_change {l : Launch} {G : Cx} {A : Nat → Prop} {a ca : Nat} {t : List Nat} {i k0 : Nat} (hAca : A ca) (hi : i < t.length) (hk0 : k0 < 256) : Met l yX0_change (.code yX0_change cX0_change 3 (none : Option Jvm.ClassFile.FieldType) :: GW) rmX0_change (PC G A [.ref a, .int (nI i), .int (nI k0)] (LA G a ca t)) (qV A (LA G a ca (t.set i k0))) 0 0 (A) := by
  refine mstart "Signtext$Line" (by decide +kernel) rfl (Nat.le_of_ble_eq_true rfl) ?_
  intro p e s m below meth c ls hx hb hr hts hown hml hlocks hname hC hA hW hl
  have hl : lv_has ls 3 [(0, .ref a), (1, .int (nI i)), (2, .int (nI k0))] := hl
  have hK := hC.1
  have hS : va_S A s.heap s.heap [] := va_S.rf
  have hq9 := hW
  obtain ⟨t60, tok, tne, hO, f, hF, hf⟩ := hq9
  refine lv_iload_n hx hb dX0_change_0 rfl (lv_at hl 1 rfl) ?_
  refine z_lt (tgt := 20) hx hb dX0_change_1 (by decide) (by omega) ?_
  refine lv_iload_n hx hb dX0_change_4 rfl (lv_at hl 1 rfl) ?_
  refine lv_aload_n hx hb dX0_change_5 rfl (lv_at hl 0 rfl) ?_
  refine va_get (D := G.1) (ci := 4) (C := RX0) (T := TX0) (N := 2) hx hb hts inX0 hown hK (at_P hO) 0 rfl rfl 1 (by decide) (hts _ tw_1_45) (fun _ h9 => h9) rfl dX0_change_6 ?_
  refine b_ge (tgt := 20) hx hb dX0_change_9 (by decide) (by omega) (by omega) (fun c_3 => ?_) (fun c_3 => ?_)
  · exact absurd c_3 (by omega)
  · refine lv_aload_n hx hb dX0_change_12 rfl (lv_at hl 0 rfl) ?_
    refine va_get (D := G.1) (ci := 4) (C := RX0) (T := TX0) (N := 2) hx hb hts inX0 hown hK (at_P hO) 0 rfl rfl 0 (by decide) (hts _ tw_1_44) (fun _ h9 => h9) rfl dX0_change_13 ?_
    refine lv_iload_n hx hb dX0_change_16 rfl (lv_at hl 1 rfl) ?_
    refine lv_iload_n hx hb dX0_change_17 rfl (lv_at hl 2 rfl) ?_
    refine lv_i2c hx hb dX0_change_18 (show _ = nI k0 from (chr_id (n := k0) (by omega))) ?_
    refine h_cst (D := G.1) hx hb hK 1 hF rfl hS hAca (vp_in_nI (n := i) (N := 60) (by omega) (by omega)) dX0_change_19 (fun H4 L4 hF z4 o4 hS => ?_)
    rw [nI_clamp (n := i) (by omega)] at hF
    have hO := at_o hO o4 tne
    have hZ4 := hS.1
    exact q_v hx hb hr hlocks dX0_change_20 hS (Nat.le_refl _) (Nat.le_refl _) (LA.put t60 tok hi hk0 tne hO hF hf)

abbrev rmX0_addCode : Room := { frames := 1, cells := 0, slots := 0, locals := 20 }
theorem mX0_addCode {l : Launch} {G : Cx} {A : Nat → Prop} {a ca : Nat} {t : List Nat} {k0 : Nat} (hAa : A a) (hAca : A ca) (hk0 : k0 < 256) : Met l yX0_addCode (.code yX0_addCode cX0_addCode 2 (none : Option Jvm.ClassFile.FieldType) :: GW) rmX0_addCode (PC G A [.ref a, .int (nI k0)] (LA G a ca t)) (qV A (LA G a ca ((t ++ [k0]).take 60))) 0 0 (A) := by
  refine mstart "Signtext$Line" (by decide +kernel) rfl (Nat.le_of_ble_eq_true rfl) ?_
  intro p e s m below meth c ls hx hb hr hts hown hml hlocks hname hC hA hW hl
  have hl : lv_has ls 2 [(0, .ref a), (1, .int (nI k0))] := hl
  have hK := hC.1
  have hS : va_S A s.heap s.heap [] := va_S.rf
  have hW0 := hW
  have hq9 := hW
  obtain ⟨t60, tok, tne, hO, f, hF, hf⟩ := hq9
  refine lv_aload_n hx hb dX0_addCode_0 rfl (lv_at hl 0 rfl) ?_
  refine va_get (D := G.1) (ci := 4) (C := RX0) (T := TX0) (N := 2) hx hb hts inX0 hown hK (at_P hO) 0 rfl rfl 1 (by decide) (hts _ tw_1_45) (fun _ h9 => h9) rfl dX0_addCode_1 ?_
  refine lv_bipush (v := nI 60) hx hb dX0_addCode_4 (by decide) ?_
  refine b_ge (tgt := 30) hx hb dX0_addCode_6 (by decide) (by omega) (by omega) (fun c_5 => ?_) (fun c_5 => ?_)
  · exact q_v hx hb hr hlocks dX0_addCode_30 hS (Nat.le_refl _) (Nat.le_refl _) (by rw [take_full (by omega)]; exact hW0)
  · refine lv_aload_n hx hb dX0_addCode_9 rfl (lv_at hl 0 rfl) ?_
    refine va_get (D := G.1) (ci := 4) (C := RX0) (T := TX0) (N := 2) hx hb hts inX0 hown hK (at_P hO) 0 rfl rfl 0 (by decide) (hts _ tw_1_44) (fun _ h9 => h9) rfl dX0_addCode_10 ?_
    refine lv_aload_n hx hb dX0_addCode_13 rfl (lv_at hl 0 rfl) ?_
    refine va_get (D := G.1) (ci := 4) (C := RX0) (T := TX0) (N := 2) hx hb hts inX0 hown hK (at_P hO) 0 rfl rfl 1 (by decide) (hts _ tw_1_45) (fun _ h9 => h9) rfl dX0_addCode_14 ?_
    refine lv_iload_n hx hb dX0_addCode_17 rfl (lv_at hl 1 rfl) ?_
    refine lv_i2c hx hb dX0_addCode_18 (show _ = nI k0 from (chr_id (n := k0) (by omega))) ?_
    refine h_cst (D := G.1) hx hb hK 1 hF rfl hS hAca (vp_in_nI (n := t.length) (N := 60) (by omega) (by omega)) dX0_addCode_19 (fun H6 L6 hF z6 o6 hS => ?_)
    rw [nI_clamp (n := t.length) (by omega)] at hF
    have hO := at_o hO o6 tne
    have hZ6 := hS.1
    refine lv_aload_n hx hb dX0_addCode_20 rfl (lv_at hl 0 rfl) ?_
    refine lv_dup hx hb dX0_addCode_21 rfl ?_
    refine va_get (D := G.1) (ci := 4) (C := RX0) (T := TX0) (N := 2) hx hb hts inX0 hown hK (at_P hO) 0 rfl rfl 1 (by decide) (hts _ tw_1_45) (fun _ h9 => h9) rfl dX0_addCode_22 ?_
    refine lv_iconst (v := nI 1) hx hb dX0_addCode_25 (by decide) ?_
    refine lv_iadd hx hb dX0_addCode_26 ?_
    refine lv_cv (nI_add t.length 1) ?_
    refine h_put (D := G.1) (ci := 4) (C := RX0) (T := TX0) (N := 2) hx hb hts inX0 tyX0 tyX0_ok nmX0 hown hK hO hS hAa rfl 1 (by decide) (hts _ tw_1_45) (fun _ h9 => h9) rfl (tyX0_ok 1 (by decide)) rfl rfl (Nat.le_of_ble_eq_true rfl) dX0_addCode_27 (fun H7 L7 hO z7 o7 hS => ?_)
    have hO : va_at G.1 vwCl (a, .inr (4, [.ref ca, .int (nI (t.length + 1))])) H7 := hO
    have hF := at_o hF o7 (Ne.symm tne)
    have hZ7 := hS.1
    exact q_v hx hb hr hlocks dX0_addCode_30 hS (Nat.le_refl _) (Nat.le_refl _) (by rw [take_room c_5]; exact LA.push c_5 tok hk0 tne hO hF hf)

abbrev rmX0_become : Room := { frames := 1, cells := 0, slots := 0, locals := 20 }
theorem mX0_become {l : Launch} {G : Cx} {A : Nat → Prop} {a ca b cb : Nat} {t u : List Nat} (hAa : A a) (hAca : A ca) (hd : b ≠ a ∧ b ≠ ca ∧ cb ≠ a ∧ cb ≠ ca) : Met l yX0_become (.code yX0_become cX0_become 3 (none : Option Jvm.ClassFile.FieldType) :: GW) rmX0_become (PC G A [.ref a, .ref b] (fun H => LA G a ca t H ∧ LA G b cb u H)) (qV A (fun H => LA G a ca u H ∧ LA G b cb u H)) 0 0 (A) := by
  refine mstart "Signtext$Line" (by decide +kernel) rfl (Nat.le_of_ble_eq_true rfl) ?_
  intro p e s m below meth c ls hx hb hr hts hown hml hlocks hname hC hA hW hl
  have hl : lv_has ls 3 [(0, .ref a), (1, .ref b)] := hl
  have hK := hC.1
  have hS : va_S A s.heap s.heap [] := va_S.rf
  obtain ⟨hWa, hWb⟩ := hW
  obtain ⟨d1, d2, d3, d4⟩ := hd
  have hq9 := hWa
  obtain ⟨t60, tok, tne, hO, f, hF, hf⟩ := hq9
  have hq9 := hWb
  obtain ⟨t60u, toku, tneu, hOu, fu, hFu, hfu⟩ := hq9
  refine lv_aload_n hx hb dX0_become_0 rfl (lv_at hl 0 rfl) ?_
  refine lv_aload_n hx hb dX0_become_1 rfl (lv_at hl 1 rfl) ?_
  refine va_get (D := G.1) (ci := 4) (C := RX0) (T := TX0) (N := 2) hx hb hts inX0 hown hK (at_P hOu) 0 rfl rfl 1 (by decide) (hts _ tw_1_45) (fun _ h9 => h9) rfl dX0_become_2 ?_
  refine h_put (D := G.1) (ci := 4) (C := RX0) (T := TX0) (N := 2) hx hb hts inX0 tyX0 tyX0_ok nmX0 hown hK hO hS hAa rfl 1 (by decide) (hts _ tw_1_45) (fun _ h9 => h9) rfl (tyX0_ok 1 (by decide)) rfl rfl (Nat.le_of_ble_eq_true rfl) dX0_become_5 (fun H8 L8 hO z8 o8 hS => ?_)
  have hO : va_at G.1 vwCl (a, .inr (4, [.ref ca, .int (nI u.length)])) H8 := hO
  have hOu := at_o hOu o8 d1
  have hF := at_o hF o8 (Ne.symm tne)
  have hFu := at_o hFu o8 d3
  have hZ8 := hS.1
  refine lv_iconst (v := nI 0) hx hb dX0_become_8 (by decide) ?_
  refine lv_istore_n (lv' := [(2, .int (nI 0)), (0, .ref a), (1, .ref b)]) hx hb dX0_become_9 rfl hl (by decide) rfl (fun ls hl => ?_)
  refine nloop (P := fun j => ∀ (ls : Array Slot) (H : Heap) (L : List Loc) (f : Nat → Int32), lv_has ls 3 [(2, .int (nI j)), (0, .ref a), (1, .ref b)] → va_S A s.heap H L → va_at G.1 vwCl (a, .inr (4, [.ref ca, .int (nI u.length)])) H → va_at G.1 vwCl (ca, .inl (G.2.1 1, 60, .inl f)) H → (∀ k : Nat, k < j → f k = nI (u.getD k 0)) → va_at G.1 vwCl (b, .inr (4, [.ref cb, .int (nI u.length)])) H → va_at G.1 vwCl (cb, .inl (G.2.1 1, 60, .inl fu)) H → W p l e rmX0_become s m [.ref a, .ref b].toArray below meth c H L 0 0 (MQ below (qV A (fun H => LA G a ca u H ∧ LA G b cb u H)) [.ref a, .ref b].toArray s 0 0 (A)) (F0 m 10 ls [])) u.length ?_ 0 (Nat.zero_le _) ls H8 L8 f hl hS hO hF (fun k hk => absurd hk (Nat.not_lt_zero k)) hOu hFu
  clear hl
  intro j hj ih ls H L f hl
  clear hS hO hF hf hOu hFu
  intro hS hO hF hf hOu hFu
  refine lv_iload_n hx hb dX0_become_10 rfl (lv_at hl 0 rfl) ?_
  refine lv_aload_n hx hb dX0_become_11 rfl (lv_at hl 1 rfl) ?_
  refine va_get (D := G.1) (ci := 4) (C := RX0) (T := TX0) (N := 2) hx hb hts inX0 hown hK (at_P hO) 0 rfl rfl 1 (by decide) (hts _ tw_1_45) (fun _ h9 => h9) rfl dX0_become_12 ?_
  refine b_ge (tgt := 36) hx hb dX0_become_15 (by decide) (by omega) (by omega) (fun c_9 => ?_) (fun c_9 => ?_)
  · exact q_v hx hb hr hlocks dX0_become_36 hS (Nat.le_refl _) (Nat.le_refl _) ⟨⟨t60u, toku, tne, hO, f, hF, fun k hk => hf k (by omega)⟩, ⟨t60u, toku, tneu, hOu, fu, hFu, hfu⟩⟩
  · refine lv_aload_n hx hb dX0_become_18 rfl (lv_at hl 1 rfl) ?_
    refine va_get (D := G.1) (ci := 4) (C := RX0) (T := TX0) (N := 2) hx hb hts inX0 hown hK (at_P hO) 0 rfl rfl 0 (by decide) (hts _ tw_1_44) (fun _ h9 => h9) rfl dX0_become_19 ?_
    refine lv_iload_n hx hb dX0_become_22 rfl (lv_at hl 0 rfl) ?_
    refine lv_aload_n hx hb dX0_become_23 rfl (lv_at hl 2 rfl) ?_
    refine va_get (D := G.1) (ci := 4) (C := RX0) (T := TX0) (N := 2) hx hb hts inX0 hown hK (at_P hOu) 0 rfl rfl 0 (by decide) (hts _ tw_1_44) (fun _ h9 => h9) rfl dX0_become_24 ?_
    refine lv_iload_n hx hb dX0_become_27 rfl (lv_at hl 0 rfl) ?_
    refine va_cald hx hb hK (at_P hFu) 0 1 rfl rfl (vp_in_nI (n := j) (N := 60) (by omega) (by omega)) dX0_become_28 ?_
    refine lv_cv (show _ = nI (u.getD j 0) from by rw [nI_clamp (by omega)]; exact hfu _ (by omega)) ?_
    have tokj := toku j
    refine h_cst (D := G.1) hx hb hK 1 hF rfl hS hAca (vp_in_nI (n := j) (N := 60) (by omega) (by omega)) dX0_become_29 (fun H10 L10 hF z10 o10 hS => ?_)
    rw [nI_clamp (n := j) (by omega)] at hF
    have hO := at_o hO o10 tne
    have hOu := at_o hOu o10 d2
    have hFu := at_o hFu o10 d4
    have hZ10 := hS.1
    refine lv_iinc (v := nI (j + 1)) (lv' := [(2, .int (nI (j + 1))), (0, .ref a), (1, .ref b)]) hx hb dX0_become_30 hl (k := 0) rfl (nI_add j 1) (by decide) rfl (fun ls hl => ?_)
    refine lv_goto (tgt := 10) hx hb dX0_become_33 (by decide) ?_
    exact ih (j + 1) (by omega) (by omega) ls H10 L10 _ hl hS hO hF (fun k hk => by rcases Nat.lt_succ_iff_lt_or_eq.mp hk with q | q; rw [pk_un (by omega)]; exact hf k q; rw [q, pk_us, nar_char (by omega)]) hOu hFu

abbrev rmX0_addPart : Room := { frames := 2, cells := 0, slots := 0, locals := 41 }
theorem mX0_addPart {l : Launch} {G : Cx} {A : Nat → Prop} {a ca b cb : Nat} {t u : List Nat} {i i2 : Nat} (hAa : A a) (hAca : A ca) (hd : b ≠ a ∧ b ≠ ca ∧ cb ≠ a ∧ cb ≠ ca) (hi : i ≤ i2) (hi2 : i2 ≤ u.length) : Met l yX0_addPart (.code yX0_addPart cX0_addPart 5 (none : Option Jvm.ClassFile.FieldType) :: GW) rmX0_addPart (PC G A [.ref a, .ref b, .int (nI i), .int (nI i2)] (fun H => LA G a ca t H ∧ LA G b cb u H)) (qV A (fun H => LA G a ca ((t ++ cutL u i i2).take 60) H ∧ LA G b cb u H)) 0 0 (A) := by
  refine mstart "Signtext$Line" (by decide +kernel) rfl (Nat.le_of_ble_eq_true rfl) ?_
  intro p e s m below meth c ls hx hb hr hts hown hml hlocks hname hC hA hW hl
  have hl : lv_has ls 5 [(0, .ref a), (1, .ref b), (2, .int (nI i)), (3, .int (nI i2))] := hl
  have hK := hC.1
  have hS : va_S A s.heap s.heap [] := va_S.rf
  obtain ⟨hWa, hWb⟩ := hW
  have t60 := hWa.1
  have u60 := hWb.1
  have uok := hWb.2.1
  obtain ⟨d1, d2, d3, d4⟩ := hd
  refine lv_iload_n hx hb dX0_addPart_0 rfl (lv_at hl 2 rfl) ?_
  refine lv_istore (lv' := [(4, .int (nI i)), (0, .ref a), (1, .ref b), (2, .int (nI i)), (3, .int (nI i2))]) hx hb dX0_addPart_1 hl (by decide) rfl (fun ls hl => ?_)
  refine nloop (P := fun j => ∀ (ls : Array Slot) (H : Heap) (L : List Loc), lv_has ls 5 [(4, .int (nI j)), (0, .ref a), (1, .ref b), (2, .int (nI i)), (3, .int (nI i2))] → va_S A s.heap H L → LA G a ca ((t ++ cutL u i j).take 60) H → LA G b cb u H → i ≤ j → W p l e rmX0_addPart s m [.ref a, .ref b, .int (nI i), .int (nI i2)].toArray below meth c H L 0 0 (MQ below (qV A (fun H => LA G a ca ((t ++ cutL u i i2).take 60) H ∧ LA G b cb u H)) [.ref a, .ref b, .int (nI i), .int (nI i2)].toArray s 0 0 (A)) (F0 m 3 ls [])) i2 ?_ i hi ls s.heap [] hl hS (by rw [cutL_nil, List.append_nil, List.take_of_length_le t60]; exact hWa) hWb (Nat.le_refl _)
  clear hl
  intro j hj ih ls H L hl
  clear hS hWa hWb
  intro hS hWa hWb hij
  have hZ0 := hS.1
  refine lv_iload hx hb dX0_addPart_3 (lv_at hl 0 rfl) ?_
  refine lv_iload_n hx hb dX0_addPart_5 rfl (lv_at hl 4 rfl) ?_
  refine b_ge (tgt := 25) hx hb dX0_addPart_6 (by decide) (by omega) (by omega) (fun c_11 => ?_) (fun c_11 => ?_)
  · obtain rfl : j = i2 := by omega
    exact q_v hx hb hr hlocks dX0_addPart_25 hS (Nat.le_refl _) (Nat.le_refl _) ⟨hWa, hWb⟩
  · refine lv_aload_n hx hb dX0_addPart_9 rfl (lv_at hl 1 rfl) ?_
    refine lv_aload_n hx hb dX0_addPart_10 rfl (lv_at hl 2 rfl) ?_
    refine lv_iload hx hb dX0_addPart_11 (lv_at hl 0 rfl) ?_
    refine kV_i (A := A) (b := b) (As := [.int (nI j)]) (rest := .ref a :: []) ⟨hx, hb, hml, hown, hts⟩ (mX0_codeAt (A := A) (ca := cb) (i := j) (by omega)) (cwV 1 hts (gV tw_2_19 tw_2_20 tw_2_21 tw_1_2 tw_2_22) rfl rfl rfl (by decide +kernel) ⟨Nat.le_of_ble_eq_true rfl, Nat.le_of_ble_eq_true rfl⟩) hC hS hA (hWb.recv hK) hWb rfl rfl hl.1 (Nat.le_of_ble_eq_true rfl) ⟨Nat.zero_le _, Nat.zero_le _⟩ dX0_addPart_13 (fun r9 h9 => lv_cv h9 ?_)
    refine qV_V (A := A) (A1 := ow a ca H.size) (b := a) (As := [.int (nI (u.getD j 0))]) (rest := []) ⟨hx, hb, hml, hown, hts⟩ (mX0_addCode (A := ow a ca H.size) (ca := ca) (k0 := u.getD j 0) (Or.inl rfl) (Or.inr (Or.inl rfl)) (uok j)) (cwV 1 hts (gV tw_1_133 tw_1_134 tw_1_135 tw_1_2 tw_1_136) rfl rfl rfl (by decide +kernel) ⟨Nat.le_of_ble_eq_true rfl, Nat.le_of_ble_eq_true rfl⟩) hC hS (ow_in hAa hAca hA hZ0) ow_n (hWa.recv hK) hWa rfl rfl hl.1 (Nat.le_of_ble_eq_true rfl) ⟨Nat.zero_le _, Nat.zero_le _⟩ dX0_addPart_16 (fun H12 L12 hP12 hk12 hS => ?_)
    have hZ12 := hS.1
    have hWb := hWb.kp hk12 (ow_no d1 d2 hWb.lt.1) (ow_no d3 d4 hWb.lt.2)
    refine lv_iinc (v := nI (j + 1)) (lv' := [(4, .int (nI (j + 1))), (0, .ref a), (1, .ref b), (2, .int (nI i)), (3, .int (nI i2))]) hx hb dX0_addPart_19 hl (k := 0) rfl (nI_add j 1) (by decide) rfl (fun ls hl => ?_)
    refine lv_goto (tgt := 3) hx hb dX0_addPart_22 (by decide) ?_
    exact ih (j + 1) (by omega) (by omega) ls H12 L12 hl hS (by rw [cutL_succ hij (by omega), ← List.append_assoc, ← take_take60]; exact hP12) hWb (by omega)

abbrev rmX0_addAll : Room := { frames := 3, cells := 0, slots := 0, locals := 65 }
theorem mX0_addAll {l : Launch} {G : Cx} {A : Nat → Prop} {a ca b cb : Nat} {t u : List Nat} (hAa : A a) (hAca : A ca) (hd : b ≠ a ∧ b ≠ ca ∧ cb ≠ a ∧ cb ≠ ca) : Met l yX0_addAll (.code yX0_addAll cX0_addAll 2 (none : Option Jvm.ClassFile.FieldType) :: GW) rmX0_addAll (PC G A [.ref a, .ref b] (fun H => LA G a ca t H ∧ LA G b cb u H)) (qV A (fun H => LA G a ca ((t ++ u).take 60) H ∧ LA G b cb u H)) 0 0 (A) := by
  refine mstart "Signtext$Line" (by decide +kernel) rfl (Nat.le_of_ble_eq_true rfl) ?_
  intro p e s m below meth c ls hx hb hr hts hown hml hlocks hname hC hA hW hl
  have hl : lv_has ls 2 [(0, .ref a), (1, .ref b)] := hl
  have hK := hC.1
  have hS : va_S A s.heap s.heap [] := va_S.rf
  obtain ⟨hWa, hWb⟩ := hW
  refine lv_aload_n hx hb dX0_addAll_0 rfl (lv_at hl 0 rfl) ?_
  refine lv_aload_n hx hb dX0_addAll_1 rfl (lv_at hl 1 rfl) ?_
  refine lv_iconst (v := nI 0) hx hb dX0_addAll_2 (by decide) ?_
  refine lv_aload_n hx hb dX0_addAll_3 rfl (lv_at hl 1 rfl) ?_
  refine kV_i (A := A) (b := b) (As := []) (rest := .int (nI 0) :: .ref b :: .ref a :: []) ⟨hx, hb, hml, hown, hts⟩ (mX0_size (A := A) (ca := cb)) (cwV 0 hts (gV tw_2_11 tw_2_12 tw_2_13 tw_1_2 tw_2_14) rfl rfl rfl (by decide +kernel) ⟨Nat.le_of_ble_eq_true rfl, Nat.le_of_ble_eq_true rfl⟩) hC hS hA (hWb.recv hK) hWb rfl rfl hl.1 (Nat.le_of_ble_eq_true rfl) ⟨Nat.zero_le _, Nat.zero_le _⟩ dX0_addAll_4 (fun r9 h9 => lv_cv h9 ?_)
  refine qV_V (A := A) (A1 := ow a ca s.heap.size) (b := a) (As := [.ref b, .int (nI 0), .int (nI u.length)]) (rest := []) ⟨hx, hb, hml, hown, hts⟩ (mX0_addPart (A := ow a ca s.heap.size) (ca := ca) (cb := cb) (t := t) (u := u) (i := 0) (i2 := u.length) (Or.inl rfl) (Or.inr (Or.inl rfl)) hd (Nat.zero_le _) (Nat.le_refl _)) (cwV 3 hts (gV tw_3_58 tw_2_36 tw_2_37 tw_1_2 tw_2_38) rfl rfl rfl (by decide +kernel) ⟨Nat.le_of_ble_eq_true rfl, Nat.le_of_ble_eq_true rfl⟩) hC hS (ow_in hAa hAca hA (Nat.le_refl _)) ow_n (hWa.recv hK) ⟨hWa, hWb⟩ rfl rfl hl.1 (Nat.le_of_ble_eq_true rfl) ⟨Nat.zero_le _, Nat.zero_le _⟩ dX0_addAll_7 (fun H13 L13 hP13 hk13 hS => ?_)
  have hZ13 := hS.1
  rw [cutL_all] at hP13
  exact q_v hx hb hr hlocks dX0_addAll_10 hS (Nat.le_refl _) (Nat.le_refl _) hP13

abbrev rmX0_init : Room := { frames := 1, cells := 1, slots := 60, locals := 20 }
theorem mX0_init {l : Launch} {G : Cx} {A : Nat → Prop} {a sz : Nat} (hAa : A a) : Met l yX0_init (.code yX0_init cX0_init 1 (none : Option Jvm.ClassFile.FieldType) :: GW) rmX0_init (PC G A [.ref a] (fun H => H.size = sz ∧ va_at G.1 vwCl (a, .inr (4, [.null, .int 0])) H)) (qV A (fun H => ∃ ca, sz ≤ ca ∧ H.size = sz + 1 ∧ LA G a ca [] H)) 1 60 (A) := by
  refine mstart "Signtext$Line" (by decide +kernel) rfl (Nat.le_of_ble_eq_true rfl) ?_
  intro p e s m below meth c ls hx hb hr hts hown hml hlocks hname hC hA hW hl
  have hl : lv_has ls 1 [(0, .ref a)] := hl
  have hK := hC.1
  have hS : va_S A s.heap s.heap [] := va_S.rf
  obtain ⟨hsz, hO⟩ := hW
  refine lv_aload_n hx hb dX0_init_0 rfl (lv_at hl 0 rfl) ?_
  refine W.objInit hx hb hown (hts _ tw_1_43) (hts _ tw_1_35) (hts _ tw_1_36) rfl (by rw [hml]; exact hl.1) rfl dX0_init_1 (Nat.le_of_ble_eq_true rfl) (Nat.le_of_ble_eq_true rfl) ?_
  refine W.eq (g2 := F0 m 4 ls []) rfl ?_
  refine lv_aload_n hx hb dX0_init_4 rfl (lv_at hl 0 rfl) ?_
  refine lv_bipush (v := nI 60) hx hb dX0_init_5 (by decide) ?_
  refine h_newa (D := G.1) (atype := .char) (N := 60) (z := (60, .inl (fun _ => 0))) hx hb (hts _ tw_1_51) rfl (fun h => h) hK 1 rfl hS rfl (by decide) (by decide) (Nat.le_of_ble_eq_true rfl) (Nat.le_of_ble_eq_true rfl) (Nat.le_of_ble_eq_true rfl) dX0_init_7 (fun ca H1 hca hF z1 o1 hS => ?_)
  have nac : a ≠ ca := fun q => absurd hO.lt (by rw [q, hca]; exact Nat.lt_irrefl _)
  have hO := at_n hO o1
  refine h_putF (D := G.1) (ci := 4) (C := RX0) (T := TX0) (N := 2) hx hb hts inX0 tyX0 tyX0_ok nmX0 hown hK hO hS hAa rfl 0 (by decide) (hts _ tw_1_44) (fun _ h9 => h9) rfl hname rfl (tyX0_ok 0 (by decide)) rfl rfl (Nat.le_of_ble_eq_true rfl) dX0_init_9 (fun H14 L14 hO z14 o14 hS => ?_)
  have hO : va_at G.1 vwCl (a, .inr (4, [.ref ca, .int (nI 0)])) H14 := hO
  have hF := at_o hF o14 (Ne.symm nac)
  have hZ14 := hS.1
  refine lv_aload_n hx hb dX0_init_12 rfl (lv_at hl 0 rfl) ?_
  refine lv_iconst (v := nI 0) hx hb dX0_init_13 (by decide) ?_
  refine h_put (D := G.1) (ci := 4) (C := RX0) (T := TX0) (N := 2) hx hb hts inX0 tyX0 tyX0_ok nmX0 hown hK hO hS hAa rfl 1 (by decide) (hts _ tw_1_45) (fun _ h9 => h9) rfl (tyX0_ok 1 (by decide)) rfl rfl (Nat.le_of_ble_eq_true rfl) dX0_init_14 (fun H15 L15 hO z15 o15 hS => ?_)
  have hO : va_at G.1 vwCl (a, .inr (4, [.ref ca, .int (nI 0)])) H15 := hO
  have hF := at_o hF o15 (Ne.symm nac)
  have hZ15 := hS.1
  exact q_v hx hb hr hlocks dX0_init_17 hS (by omega) (by omega) ⟨ca, by rw [hca, hsz]; exact Nat.le_refl _, by rw [z15, z14, z1, hsz], Nat.zero_le _, okc_nil, nac, hO, _, hF, fun j hj => absurd hj (Nat.not_lt_zero j)⟩
end
section
/-! OWN LAYER, 5: more pure calls (nothing, a cell, a long), their ends -/
def pV : Array Value → State → Outcome → State → Prop := fun _ st o t => o = .returned none ∧ t.heap = st.heap
section P2
variable {p : Program} {l : Launch} {e : Env} {R : Room} {s : State} {m : MethodId} {args : Array Value} {below : List Frame} {meth : Method} {c : Code} {H : Heap} {locs : List Loc} {cells slots : Nat} {Q : State → Prop}
variable {cc bytes : ByteArray} {pc nL maxL index n mc ms : Nat} {ls : Array Slot} {rest st0 : List Value} {G : Cx} {A A1 : Nat → Prop} {own C : String} {y : MethodName} {ret : Option FieldType} {ws : List Cond} {rm : Room} {b : Nat} {As : List Value} {Wd : Heap → Prop}
theorem callSv {a : Array Value} {st0 : List Value} (hr : CallRun p l e R s m args below meth c H locs cells slots 0 0 (F0 m pc ls st0) rest (pV a) (fun _ => False))
    (kk : W p l e R s m args below meth c H locs cells slots Q (F0 m (pc + 3) ls rest)) : W p l e R s m args below meth c H locs cells slots Q (F0 m pc ls st0) := by
  intro T hT X
  obtain ⟨v, st₀, t, T', L, h0, X', hL, e1, ⟨hv, hh⟩, st⟩ := hr T hT X
  cases hv
  obtain ⟨t2, a1, b1⟩ := kk T' (by rw [e1, hh, h0]) (Stand.forget X' (fun q h => (hL q h).elim))
  exact ⟨t2, st t2 a1, b1⟩
theorem callSr {P : Nat → Prop} {a : Array Value} {st0 : List Value} (hr : CallRun p l e R s m args below meth c H locs cells slots 0 0 (F0 m pc ls st0) rest (pR P a) (fun _ => False))
    (kk : ∀ r : Nat, P r → W p l e R s m args below meth c H locs cells slots Q (F0 m (pc + 3) ls (.ref r :: rest))) : W p l e R s m args below meth c H locs cells slots Q (F0 m pc ls st0) := by
  intro T hT X
  obtain ⟨v, st₀, t, T', L, h0, X', hL, e1, ⟨r, hv, hp, hh⟩, st⟩ := hr T hT X
  cases hv
  obtain ⟨t2, a1, b1⟩ := kk r hp T' (by rw [e1, hh, h0]) (Stand.forget X' (fun q h => (hL q h).elim))
  exact ⟨t2, st t2 a1, b1⟩
theorem kS_v (S : CallFix p m c cc nL s args GW own) (hM : Met l y ws rm (PC G A As Wd) pV 0 0 (fun _ => False)) (cw : CallB R s args own index y bytes maxL ret ws rm 0 0 n ∧ (Cond.static y).before args s = true) (hC : cx G A s) (hS : va_S A s.heap H locs) (hA : ∀ q : Nat, s.heap.size ≤ q → A q)
    (hW : Wd H) (hst : st0 = As.reverse ++ rest) (hn : As.length = n) (hl : ls.size = nL) (hrm : (rest.map fun v => v.category).sum ≤ 8) (hf : cells ≤ R.cells ∧ slots ≤ R.slots) (hdg : decode cc pc = .ok (.invokestatic index, 3))
    (kk : W p l e R s m args below meth c H locs cells slots Q (F0 m (pc + 3) ls rest)) : W p l e R s m args below meth c H locs cells slots Q (F0 m pc ls st0) := by
  subst hst
  exact callSv (W.runS (As := As) (rest := rest) (g := F0 m pc ls (As.reverse ++ rest)) S hM cw ⟨PC.blind, PC.go hC hS (fun _ z => z) (fun q h => hA q (Nat.le_trans hS.1 h)) hW⟩ rfl hn hl rfl (lv_room hrm) hdg hf) kk
theorem kV_v (S : CallFix p m c cc nL s args GW own) (hM : Met l y ws rm (PC G A (.ref b :: As) Wd) pV 0 0 (fun _ => False)) (cw : CallW R s args own C index y bytes maxL ret ws rm 0 0 n) (hC : cx G A s) (hS : va_S A s.heap H locs) (hA : ∀ q : Nat, s.heap.size ≤ q → A q)
    (hr : ∃ cell : Cell, H[b]? = some cell ∧ cell.vm.isStatics = false ∧ s.vm.findClass C = some cell.cls) (hW : Wd H) (hst : st0 = As.reverse ++ .ref b :: rest) (hn : As.length = n) (hl : ls.size = nL) (hrm : (rest.map fun v => v.category).sum ≤ 8) (hf : cells ≤ R.cells ∧ slots ≤ R.slots) (hdg : decode cc pc = .ok (.invokevirtual index, 3))
    (kk : W p l e R s m args below meth c H locs cells slots Q (F0 m (pc + 3) ls rest)) : W p l e R s m args below meth c H locs cells slots Q (F0 m pc ls st0) := by
  subst hst
  exact callSv (W.runV (As := As) (rest := rest) (g := F0 m pc ls (As.reverse ++ .ref b :: rest)) S hM cw ⟨PC.blind, hr, PC.go hC hS (fun _ z => z) (fun q h => hA q (Nat.le_trans hS.1 h)) hW⟩ rfl hn hl rfl (lv_room hrm) hdg hf) kk
theorem kV_a {P : Nat → Prop} (S : CallFix p m c cc nL s args GW own) (hM : Met l y ws rm (PC G A (.ref b :: As) Wd) (pR P) 0 0 (fun _ => False)) (cw : CallW R s args own C index y bytes maxL ret ws rm 0 0 n) (hC : cx G A s) (hS : va_S A s.heap H locs) (hA : ∀ q : Nat, s.heap.size ≤ q → A q)
    (hr : ∃ cell : Cell, H[b]? = some cell ∧ cell.vm.isStatics = false ∧ s.vm.findClass C = some cell.cls) (hW : Wd H) (hst : st0 = As.reverse ++ .ref b :: rest) (hn : As.length = n) (hl : ls.size = nL) (hrm : (rest.map fun v => v.category).sum ≤ 8) (hf : cells ≤ R.cells ∧ slots ≤ R.slots) (hdg : decode cc pc = .ok (.invokevirtual index, 3))
    (kk : ∀ r : Nat, P r → W p l e R s m args below meth c H locs cells slots Q (F0 m (pc + 3) ls (.ref r :: rest))) : W p l e R s m args below meth c H locs cells slots Q (F0 m pc ls st0) := by
  subst hst
  exact callSr (W.runV (As := As) (rest := rest) (g := F0 m pc ls (As.reverse ++ .ref b :: rest)) S hM cw ⟨PC.blind, hr, PC.go hC hS (fun _ z => z) (fun q h => hA q (Nat.le_trans hS.1 h)) hW⟩ rfl hn hl rfl (lv_room hrm) hdg hf) kk
theorem kS_a {P : Nat → Prop} (S : CallFix p m c cc nL s args GW own) (hM : Met l y ws rm (PC G A As Wd) (pR P) 0 0 (fun _ => False)) (cw : CallB R s args own index y bytes maxL ret ws rm 0 0 n ∧ (Cond.static y).before args s = true) (hC : cx G A s) (hS : va_S A s.heap H locs) (hA : ∀ q : Nat, s.heap.size ≤ q → A q)
    (hW : Wd H) (hst : st0 = As.reverse ++ rest) (hn : As.length = n) (hl : ls.size = nL) (hrm : (rest.map fun v => v.category).sum ≤ 8) (hf : cells ≤ R.cells ∧ slots ≤ R.slots) (hdg : decode cc pc = .ok (.invokestatic index, 3))
    (kk : ∀ r : Nat, P r → W p l e R s m args below meth c H locs cells slots Q (F0 m (pc + 3) ls (.ref r :: rest))) : W p l e R s m args below meth c H locs cells slots Q (F0 m pc ls st0) := by
  subst hst
  exact callSr (W.runS (As := As) (rest := rest) (g := F0 m pc ls (As.reverse ++ rest)) S hM cw ⟨PC.blind, PC.go hC hS (fun _ z => z) (fun q h => hA q (Nat.le_trans hS.1 h)) hW⟩ rfl hn hl rfl (lv_room hrm) hdg hf) kk
theorem kS_l {post : Int64 → Prop} (S : CallFix p m c cc nL s args GW own) (hM : Met l y ws rm (PC G A As Wd) (vp_Sl post) 0 0 (fun _ => False)) (cw : CallB R s args own index y bytes maxL ret ws rm 0 0 n ∧ (Cond.static y).before args s = true) (hC : cx G A s) (hS : va_S A s.heap H locs) (hA : ∀ q : Nat, s.heap.size ≤ q → A q)
    (hW : Wd H) (hst : st0 = As.reverse ++ rest) (hn : As.length = n) (hl : ls.size = nL) (hrm : (rest.map fun v => v.category).sum ≤ 8) (hf : cells ≤ R.cells ∧ slots ≤ R.slots) (hdg : decode cc pc = .ok (.invokestatic index, 3))
    (kk : ∀ r : Int64, post r → W p l e R s m args below meth c H locs cells slots Q (F0 m (pc + 3) ls (.long r :: rest))) : W p l e R s m args below meth c H locs cells slots Q (F0 m pc ls st0) := by
  subst hst
  exact vp_callSl (W.runS (As := As) (rest := rest) (g := F0 m pc ls (As.reverse ++ rest)) S hM cw ⟨PC.blind, PC.go hC hS (fun _ z => z) (fun q h => hA q (Nat.le_trans hS.1 h)) hW⟩ rfl hn hl rfl (lv_room hrm) hdg hf) kk
theorem p_v (hx : p.tables.exec = Jvm.exec) (hb : c.code = cc) (hr : meth.sig.returnType = none) (hlocks : meth.locks = false) (hd : decode cc pc = .ok (.return_, 1)) : W p l e R s m args below meth c s.heap [] 0 0 (MQ below pV args s 0 0 (fun _ => False)) (F0 m pc ls []) :=
  W.vret hx hb hr (fun t ht hW => ⟨rfl, ht⟩) (fun q h => by cases h) hd
theorem p_l {post : Int64 → Prop} {v : Int64} (hx : p.tables.exec = Jvm.exec) (hb : c.code = cc) (hr : meth.sig.returnType = some .long) (hlocks : meth.locks = false) (hd : decode cc pc = .ok (.lreturn, 1)) (hp : post v) : W p l e R s m args below meth c s.heap [] 0 0 (MQ below (vp_Sl post) args s 0 0 (fun _ => False)) (F0 m pc ls [.long v]) :=
  W.lret hx hb hr (fun t ht hW => ⟨v, rfl, hp, ht⟩) (fun q h => by cases h) hd
theorem p_g {post : Int32 → Prop} {v : Int32} {ty : FieldType} (hx : p.tables.exec = Jvm.exec) (hb : c.code = cc) (hr : meth.sig.returnType = some ty) (hn : narrow ty (.int v) = .int v) (hlocks : meth.locks = false) (hd : decode cc pc = .ok (.ireturn, 1)) (hp : post v) : W p l e R s m args below meth c s.heap [] 0 0 (MQ below (vp_Si post) args s 0 0 (fun _ => False)) (F0 m pc ls [.int v]) :=
  W.zret hx hb hr hn (fun t ht hW => ⟨v, rfl, hp, ht⟩) (fun q h => by cases h) hd
end P2
end
section
/-! The JDK, 1: length and charAt of the text constants -/
theorem sh0 (x : Int32) : x >>> ((0 : Int32) &&& 31) = x := by
  rw [show ((0 : Int32) &&& 31) = 0 from rfl]; simp
theorem and255 {c9 : Nat} (h : c9 < 256) : nI c9 &&& nI 255 = nI c9 := by
  have k : ∀ x : Fin 256, nI x.1 &&& nI 255 = nI x.1 := by decide +kernel
  exact k ⟨c9, h⟩
theorem stx_len {i : Nat} (h : i < 9) : (stx i).length < 6 := by
  have k : ∀ x : Fin 9, (stx x.1).length < 6 := by decide +kernel
  exact k ⟨i, h⟩
theorem stx_ok {i : Nat} (h : i < 9) : okc (stx i) := by
  have k : ∀ x : Fin 9, ∀ j : Fin 6, (stx x.1).getD j.1 0 < 256 := by decide +kernel
  intro j
  rcases Nat.lt_or_ge j 6 with q | q
  · exact k ⟨i, h⟩ ⟨j, q⟩
  · rw [List.getD_eq_getElem?_getD, List.getElem?_eq_none (by have := stx_len h; omega)]; decide
theorem stx_lt {i : Nat} (h : i < 9) (j : Nat) : (stx i).getD j 0 < 256 := stx_ok h j
theorem nar_charN {n : Nat} (h : n < 65536) : narrow .char (.int (nI n)) = .int (nI n) := (pk_charN h).1
theorem dJ0_length_8abf5_0 : decode cJ0_length_8abf5 0 = .ok (.aload_n 0, 1) := by decide +kernel
theorem dJ0_length_8abf5_1 : decode cJ0_length_8abf5 1 = .ok (.getfield 9, 3) := by decide +kernel
theorem dJ0_length_8abf5_4 : decode cJ0_length_8abf5 4 = .ok (.arraylength, 1) := by decide +kernel
theorem dJ0_length_8abf5_5 : decode cJ0_length_8abf5 5 = .ok (.aload_n 0, 1) := by decide +kernel
theorem dJ0_length_8abf5_6 : decode cJ0_length_8abf5 6 = .ok (.invokevirtual 335, 3) := by decide +kernel
theorem dJ0_length_8abf5_9 : decode cJ0_length_8abf5 9 = .ok (.ishr, 1) := by decide +kernel
theorem dJ0_length_8abf5_10 : decode cJ0_length_8abf5 10 = .ok (.ireturn, 1) := by decide +kernel
theorem dJ0_charAt_5068e_0 : decode cJ0_charAt_5068e 0 = .ok (.aload_n 0, 1) := by decide +kernel
theorem dJ0_charAt_5068e_1 : decode cJ0_charAt_5068e 1 = .ok (.invokevirtual 492, 3) := by decide +kernel
theorem dJ0_charAt_5068e_4 : decode cJ0_charAt_5068e 4 = .ok (.ifCond .eq 12, 3) := by decide +kernel
theorem dJ0_charAt_5068e_7 : decode cJ0_charAt_5068e 7 = .ok (.aload_n 0, 1) := by decide +kernel
theorem dJ0_charAt_5068e_8 : decode cJ0_charAt_5068e 8 = .ok (.getfield 9, 3) := by decide +kernel
theorem dJ0_charAt_5068e_11 : decode cJ0_charAt_5068e 11 = .ok (.iload_n 1, 1) := by decide +kernel
theorem dJ0_charAt_5068e_12 : decode cJ0_charAt_5068e 12 = .ok (.invokestatic 495, 3) := by decide +kernel
theorem dJ0_charAt_5068e_15 : decode cJ0_charAt_5068e 15 = .ok (.ireturn, 1) := by decide +kernel
theorem dJ0_charAt_5068e_16 : decode cJ0_charAt_5068e 16 = .ok (.aload_n 0, 1) := by decide +kernel
theorem dJ0_charAt_5068e_17 : decode cJ0_charAt_5068e 17 = .ok (.getfield 9, 3) := by decide +kernel
theorem dJ0_charAt_5068e_20 : decode cJ0_charAt_5068e 20 = .ok (.iload_n 1, 1) := by decide +kernel
theorem dJ0_charAt_5068e_21 : decode cJ0_charAt_5068e 21 = .ok (.invokestatic 498, 3) := by decide +kernel
theorem dJ0_charAt_5068e_24 : decode cJ0_charAt_5068e 24 = .ok (.ireturn, 1) := by decide +kernel
theorem dJ0_coder_7d493_0 : decode cJ0_coder_7d493 0 = .ok (.getstatic 38, 3) := by decide +kernel
theorem dJ0_coder_7d493_3 : decode cJ0_coder_7d493 3 = .ok (.ifCond .eq 10, 3) := by decide +kernel
theorem dJ0_coder_7d493_6 : decode cJ0_coder_7d493 6 = .ok (.aload_n 0, 1) := by decide +kernel
theorem dJ0_coder_7d493_7 : decode cJ0_coder_7d493 7 = .ok (.getfield 15, 3) := by decide +kernel
theorem dJ0_coder_7d493_10 : decode cJ0_coder_7d493 10 = .ok (.goto 4, 3) := by decide +kernel
theorem dJ0_coder_7d493_13 : decode cJ0_coder_7d493 13 = .ok (.iconst 1, 1) := by decide +kernel
theorem dJ0_coder_7d493_14 : decode cJ0_coder_7d493 14 = .ok (.ireturn, 1) := by decide +kernel
theorem dJ0_isLatin1_aae02_0 : decode cJ0_isLatin1_aae02 0 = .ok (.getstatic 38, 3) := by decide +kernel
theorem dJ0_isLatin1_aae02_3 : decode cJ0_isLatin1_aae02 3 = .ok (.ifCond .eq 14, 3) := by decide +kernel
theorem dJ0_isLatin1_aae02_6 : decode cJ0_isLatin1_aae02 6 = .ok (.aload_n 0, 1) := by decide +kernel
theorem dJ0_isLatin1_aae02_7 : decode cJ0_isLatin1_aae02 7 = .ok (.getfield 15, 3) := by decide +kernel
theorem dJ0_isLatin1_aae02_10 : decode cJ0_isLatin1_aae02 10 = .ok (.ifCond .ne 7, 3) := by decide +kernel
theorem dJ0_isLatin1_aae02_13 : decode cJ0_isLatin1_aae02 13 = .ok (.iconst 1, 1) := by decide +kernel
theorem dJ0_isLatin1_aae02_14 : decode cJ0_isLatin1_aae02 14 = .ok (.goto 4, 3) := by decide +kernel
theorem dJ0_isLatin1_aae02_17 : decode cJ0_isLatin1_aae02 17 = .ok (.iconst 0, 1) := by decide +kernel
theorem dJ0_isLatin1_aae02_18 : decode cJ0_isLatin1_aae02 18 = .ok (.ireturn, 1) := by decide +kernel
theorem dJ0_checkIndex_df160_0 : decode cJ0_checkIndex_df160 0 = .ok (.iload_n 0, 1) := by decide +kernel
theorem dJ0_checkIndex_df160_1 : decode cJ0_checkIndex_df160 1 = .ok (.iload_n 1, 1) := by decide +kernel
theorem dJ0_checkIndex_df160_2 : decode cJ0_checkIndex_df160 2 = .ok (.getstatic 1053, 3) := by decide +kernel
theorem dJ0_checkIndex_df160_5 : decode cJ0_checkIndex_df160 5 = .ok (.invokestatic 1059, 3) := by decide +kernel
theorem dJ0_checkIndex_df160_8 : decode cJ0_checkIndex_df160 8 = .ok (.pop, 1) := by decide +kernel
theorem dJ0_checkIndex_df160_9 : decode cJ0_checkIndex_df160 9 = .ok (.return_, 1) := by decide +kernel
theorem dJ1_charAt_3b067_0 : decode cJ1_charAt_3b067 0 = .ok (.iload_n 1, 1) := by decide +kernel
theorem dJ1_charAt_3b067_1 : decode cJ1_charAt_3b067 1 = .ok (.aload_n 0, 1) := by decide +kernel
theorem dJ1_charAt_3b067_2 : decode cJ1_charAt_3b067 2 = .ok (.arraylength, 1) := by decide +kernel
theorem dJ1_charAt_3b067_3 : decode cJ1_charAt_3b067 3 = .ok (.invokestatic 9, 3) := by decide +kernel
theorem dJ1_charAt_3b067_6 : decode cJ1_charAt_3b067 6 = .ok (.aload_n 0, 1) := by decide +kernel
theorem dJ1_charAt_3b067_7 : decode cJ1_charAt_3b067 7 = .ok (.iload_n 1, 1) := by decide +kernel
theorem dJ1_charAt_3b067_8 : decode cJ1_charAt_3b067 8 = .ok (.baload, 1) := by decide +kernel
theorem dJ1_charAt_3b067_9 : decode cJ1_charAt_3b067 9 = .ok (.sipush 255, 3) := by decide +kernel
theorem dJ1_charAt_3b067_12 : decode cJ1_charAt_3b067 12 = .ok (.iand, 1) := by decide +kernel
theorem dJ1_charAt_3b067_13 : decode cJ1_charAt_3b067 13 = .ok (.i2c, 1) := by decide +kernel
theorem dJ1_charAt_3b067_14 : decode cJ1_charAt_3b067 14 = .ok (.ireturn, 1) := by decide +kernel
theorem dJ3_checkIndex_8e157_0 : decode cJ3_checkIndex_8e157 0 = .ok (.iload_n 0, 1) := by decide +kernel
theorem dJ3_checkIndex_8e157_1 : decode cJ3_checkIndex_8e157 1 = .ok (.ifCond .lt 8, 3) := by decide +kernel
theorem dJ3_checkIndex_8e157_4 : decode cJ3_checkIndex_8e157 4 = .ok (.iload_n 0, 1) := by decide +kernel
theorem dJ3_checkIndex_8e157_5 : decode cJ3_checkIndex_8e157 5 = .ok (.iload_n 1, 1) := by decide +kernel
theorem dJ3_checkIndex_8e157_6 : decode cJ3_checkIndex_8e157 6 = .ok (.if_icmp .lt 10, 3) := by decide +kernel
theorem dJ3_checkIndex_8e157_9 : decode cJ3_checkIndex_8e157 9 = .ok (.aload_n 2, 1) := by decide +kernel
theorem dJ3_checkIndex_8e157_10 : decode cJ3_checkIndex_8e157 10 = .ok (.iload_n 0, 1) := by decide +kernel
theorem dJ3_checkIndex_8e157_11 : decode cJ3_checkIndex_8e157 11 = .ok (.iload_n 1, 1) := by decide +kernel
theorem dJ3_checkIndex_8e157_12 : decode cJ3_checkIndex_8e157 12 = .ok (.invokestatic 95, 3) := by decide +kernel
theorem dJ3_checkIndex_8e157_15 : decode cJ3_checkIndex_8e157 15 = .ok (.athrow, 1) := by decide +kernel
theorem dJ3_checkIndex_8e157_16 : decode cJ3_checkIndex_8e157 16 = .ok (.iload_n 0, 1) := by decide +kernel
theorem dJ3_checkIndex_8e157_17 : decode cJ3_checkIndex_8e157 17 = .ok (.ireturn, 1) := by decide +kernel
abbrev rmJ0_coder_7d493 : Room := { frames := 1, cells := 0, slots := 0, locals := 20 }
theorem mJ0_coder_7d493 {l : Launch} {G : Cx} {A : Nat → Prop} {i : Nat} (hi : i < 9) : Met l yJ0_coder_7d493 (.code yJ0_coder_7d493 cJ0_coder_7d493 1 (some .byte) :: GW) rmJ0_coder_7d493 (PC G A [.ref (G.2.2 (20 + i))] (fun _ => True)) (vp_Si (fun r => r = 0)) 0 0 (fun _ => False) := by
  refine mstart "java/lang/String" (by decide +kernel) rfl (Nat.le_of_ble_eq_true rfl) ?_
  intro p e s m below meth c ls hx hb hr hts hown hml hlocks hname hC hA hW hl
  have hl : lv_has ls 1 [(0, .ref (G.2.2 (20 + i)))] := hl
  have hK := hC.1
  have hS : va_S A s.heap s.heap [] := va_S.rf
  obtain ⟨z1, z2, z3, z4, z5, z6, z7, z8, z9, z10, z11, z12, z13⟩ := hC.2.2.1
  obtain ⟨c1, c2, c3, c4⟩ := hC.2.2.2.1 i hi
  refine va_gets (v := .int 1) hx hb z8 hS hown (hts _ tw_1_93) (fun _ h9 => h9) dJ0_coder_7d493_0 ?_
  refine lv_if_eq (tgt := 13) hx hb dJ0_coder_7d493_3 (by decide) (fun c_1 => ?_) (fun c_1 => ?_)
  · exact absurd c_1 (by decide)
  · refine lv_aload_n hx hb dJ0_coder_7d493_6 rfl (lv_at hl 0 rfl) ?_
    refine vk_getf hx hb c2 hS hown (hts _ tw_1_221) (fun _ h9 => h9) dJ0_coder_7d493_7 ?_
    refine lv_goto (tgt := 14) hx hb dJ0_coder_7d493_10 (by decide) ?_
    exact p_g hx hb hr rfl hlocks dJ0_coder_7d493_14 rfl

abbrev rmJ0_length_8abf5 : Room := { frames := 2, cells := 0, slots := 0, locals := 40 }
theorem mJ0_length_8abf5 {l : Launch} {G : Cx} {A : Nat → Prop} {i : Nat} (hi : i < 9) : Met l yJ0_length_8abf5 (.code yJ0_length_8abf5 cJ0_length_8abf5 1 (some .int) :: GW) rmJ0_length_8abf5 (PC G A [.ref (G.2.2 (20 + i))] (fun _ => True)) (vp_Si (fun r => r = nI (stx i).length)) 0 0 (fun _ => False) := by
  refine mstart "java/lang/String" (by decide +kernel) rfl (Nat.le_of_ble_eq_true rfl) ?_
  intro p e s m below meth c ls hx hb hr hts hown hml hlocks hname hC hA hW hl
  have hl : lv_has ls 1 [(0, .ref (G.2.2 (20 + i)))] := hl
  have hK := hC.1
  have hS : va_S A s.heap s.heap [] := va_S.rf
  obtain ⟨z1, z2, z3, z4, z5, z6, z7, z8, z9, z10, z11, z12, z13⟩ := hC.2.2.1
  obtain ⟨c1, c2, c3, c4⟩ := hC.2.2.2.1 i hi
  refine lv_aload_n hx hb dJ0_length_8abf5_0 rfl (lv_at hl 0 rfl) ?_
  refine vk_getf hx hb c3 hS hown (hts _ tw_1_220) (fun _ h9 => h9) dJ0_length_8abf5_1 ?_
  refine va_tlen (v := nI ((stx i).length)) hx hb c4 hS rfl dJ0_length_8abf5_4 ?_
  refine lv_aload_n hx hb dJ0_length_8abf5_5 rfl (lv_at hl 0 rfl) ?_
  refine kV_i (A := A) (b := (G.2.2 (20 + i))) (As := []) (rest := .int (nI ((stx i).length)) :: []) ⟨hx, hb, hml, hown, hts⟩ (mJ0_coder_7d493 (A := A) hi) (cwV 0 hts (gV tw_1_89 tw_1_90 tw_1_91 tw_1_4 tw_1_92) rfl rfl rfl (by decide +kernel) ⟨Nat.le_of_ble_eq_true rfl, Nat.le_of_ble_eq_true rfl⟩) hC hS hA (va_Orecv c1 hS) trivial rfl rfl hl.1 (Nat.le_of_ble_eq_true rfl) ⟨Nat.zero_le _, Nat.zero_le _⟩ dJ0_length_8abf5_6 (fun r9 h9 => lv_cv h9 ?_)
  refine lv_ishr hx hb dJ0_length_8abf5_9 ?_
  refine lv_cv (sh0 _) ?_
  exact p_i hx hb hr hlocks dJ0_length_8abf5_10 rfl

abbrev rmJ0_isLatin1_aae02 : Room := { frames := 1, cells := 0, slots := 0, locals := 20 }
theorem mJ0_isLatin1_aae02 {l : Launch} {G : Cx} {A : Nat → Prop} {i : Nat} (hi : i < 9) : Met l yJ0_isLatin1_aae02 (.code yJ0_isLatin1_aae02 cJ0_isLatin1_aae02 1 (some .boolean) :: GW) rmJ0_isLatin1_aae02 (PC G A [.ref (G.2.2 (20 + i))] (fun _ => True)) (vp_Si (fun r => r = bI true)) 0 0 (fun _ => False) := by
  refine mstart "java/lang/String" (by decide +kernel) rfl (Nat.le_of_ble_eq_true rfl) ?_
  intro p e s m below meth c ls hx hb hr hts hown hml hlocks hname hC hA hW hl
  have hl : lv_has ls 1 [(0, .ref (G.2.2 (20 + i)))] := hl
  have hK := hC.1
  have hS : va_S A s.heap s.heap [] := va_S.rf
  obtain ⟨z1, z2, z3, z4, z5, z6, z7, z8, z9, z10, z11, z12, z13⟩ := hC.2.2.1
  obtain ⟨c1, c2, c3, c4⟩ := hC.2.2.2.1 i hi
  refine va_gets (v := .int 1) hx hb z8 hS hown (hts _ tw_1_93) (fun _ h9 => h9) dJ0_isLatin1_aae02_0 ?_
  refine lv_if_eq (tgt := 17) hx hb dJ0_isLatin1_aae02_3 (by decide) (fun c_2 => ?_) (fun c_2 => ?_)
  · exact absurd c_2 (by decide)
  · refine lv_aload_n hx hb dJ0_isLatin1_aae02_6 rfl (lv_at hl 0 rfl) ?_
    refine vk_getf hx hb c2 hS hown (hts _ tw_1_221) (fun _ h9 => h9) dJ0_isLatin1_aae02_7 ?_
    refine lv_if_ne (tgt := 17) hx hb dJ0_isLatin1_aae02_10 (by decide) (fun c_3 => ?_) (fun c_3 => ?_)
    · exact absurd rfl c_3
    · refine lv_iconst (v := nI 1) hx hb dJ0_isLatin1_aae02_13 (by decide) ?_
      refine lv_goto (tgt := 18) hx hb dJ0_isLatin1_aae02_14 (by decide) ?_
      exact p_z (b := true) hx hb hr hlocks dJ0_isLatin1_aae02_18 rfl

abbrev rmJ3_checkIndex_8e157 : Room := { frames := 0, cells := 0, slots := 0, locals := 0 }
theorem mJ3_checkIndex_8e157 {l : Launch} {G : Cx} {A : Nat → Prop} {j n fa : Nat} (hj : j < n) (hn : n < 2 ^ 31) : Met l yJ3_checkIndex_8e157 (.code yJ3_checkIndex_8e157 cJ3_checkIndex_8e157 3 (some .int) :: GW) rmJ3_checkIndex_8e157 (PC G A [.int (nI j), .int (nI n), .ref fa] (fun _ => True)) (vp_Si (fun r => r = nI j)) 0 0 (fun _ => False) := by
  refine mstart "jdk/internal/util/Preconditions" (by decide +kernel) rfl (Nat.le_of_ble_eq_true rfl) ?_
  intro p e s m below meth c ls hx hb hr hts hown hml hlocks hname hC hA hW hl
  have hl : lv_has ls 3 [(0, .int (nI j)), (1, .int (nI n)), (2, .ref fa)] := hl
  have hK := hC.1
  have hS : va_S A s.heap s.heap [] := va_S.rf
  refine lv_iload_n hx hb dJ3_checkIndex_8e157_0 rfl (lv_at hl 0 rfl) ?_
  refine z_lt (tgt := 9) hx hb dJ3_checkIndex_8e157_1 (by decide) (by omega) ?_
  refine lv_iload_n hx hb dJ3_checkIndex_8e157_4 rfl (lv_at hl 0 rfl) ?_
  refine lv_iload_n hx hb dJ3_checkIndex_8e157_5 rfl (lv_at hl 1 rfl) ?_
  refine b_lt (tgt := 16) hx hb dJ3_checkIndex_8e157_6 (by decide) (by omega) (by omega) (fun c_5 => ?_) (fun c_5 => ?_)
  · refine lv_iload_n hx hb dJ3_checkIndex_8e157_16 rfl (lv_at hl 0 rfl) ?_
    exact p_i hx hb hr hlocks dJ3_checkIndex_8e157_17 rfl
  · exact absurd c_5 (by omega)

theorem mJ3_checkIndex_8e157_n {l : Launch} {G : Cx} {A : Nat → Prop} {j n fa : Nat} (hj : j < n) (hn : n < 2 ^ 31) : Met l yJ3_checkIndex_8e157 (.code yJ3_checkIndex_8e157 cJ3_checkIndex_8e157 3 (some .int) :: GW) rmJ3_checkIndex_8e157 (PC G A [.int (nI j), .int (nI n), .null] (fun _ => True)) (vp_Si (fun r => r = nI j)) 0 0 (fun _ => False) := by
  refine mstart "jdk/internal/util/Preconditions" (by decide +kernel) rfl (Nat.le_of_ble_eq_true rfl) ?_
  intro p e s m below meth c ls hx hb hr hts hown hml hlocks hname hC hA hW hl
  have hl : lv_has ls 3 [(0, .int (nI j)), (1, .int (nI n)), (2, .null)] := hl
  have hK := hC.1
  have hS : va_S A s.heap s.heap [] := va_S.rf
  refine lv_iload_n hx hb dJ3_checkIndex_8e157_0 rfl (lv_at hl 0 rfl) ?_
  refine z_lt (tgt := 9) hx hb dJ3_checkIndex_8e157_1 (by decide) (by omega) ?_
  refine lv_iload_n hx hb dJ3_checkIndex_8e157_4 rfl (lv_at hl 0 rfl) ?_
  refine lv_iload_n hx hb dJ3_checkIndex_8e157_5 rfl (lv_at hl 1 rfl) ?_
  refine b_lt (tgt := 16) hx hb dJ3_checkIndex_8e157_6 (by decide) (by omega) (by omega) (fun c_7 => ?_) (fun c_7 => ?_)
  · refine lv_iload_n hx hb dJ3_checkIndex_8e157_16 rfl (lv_at hl 0 rfl) ?_
    exact p_i hx hb hr hlocks dJ3_checkIndex_8e157_17 rfl
  · exact absurd c_7 (by omega)

abbrev rmJ0_checkIndex_df160 : Room := { frames := 1, cells := 0, slots := 0, locals := 22 }
theorem mJ0_checkIndex_df160 {l : Launch} {G : Cx} {A : Nat → Prop} {j n : Nat} (hj : j < n) (hn : n < 2 ^ 31) : Met l yJ0_checkIndex_df160 (.code yJ0_checkIndex_df160 cJ0_checkIndex_df160 2 (none : Option Jvm.ClassFile.FieldType) :: GW) rmJ0_checkIndex_df160 (PC G A [.int (nI j), .int (nI n)] (fun _ => True)) (pV) 0 0 (fun _ => False) := by
  refine mstart "java/lang/String" (by decide +kernel) rfl (Nat.le_of_ble_eq_true rfl) ?_
  intro p e s m below meth c ls hx hb hr hts hown hml hlocks hname hC hA hW hl
  have hl : lv_has ls 2 [(0, .int (nI j)), (1, .int (nI n))] := hl
  have hK := hC.1
  have hS : va_S A s.heap s.heap [] := va_S.rf
  obtain ⟨z1, z2, z3, z4, z5, z6, z7, z8, z9, z10, z11, z12, z13⟩ := hC.2.2.1
  refine lv_iload_n hx hb dJ0_checkIndex_df160_0 rfl (lv_at hl 0 rfl) ?_
  refine lv_iload_n hx hb dJ0_checkIndex_df160_1 rfl (lv_at hl 1 rfl) ?_
  rcases z11 with z11 | ⟨fa, z11⟩
  · refine va_gets (v := .null) hx hb z11 hS hown (hts _ tw_1_109) (fun _ h9 => h9) dJ0_checkIndex_df160_2 ?_
    refine kS_i (A := A) (As := [.int (nI j), .int (nI n), .null]) (rest := []) ⟨hx, hb, hml, hown, hts⟩ (mJ3_checkIndex_8e157_n (fa := 0) (A := A) hj hn) (va_cwS 3 hts (gS tw_1_111 tw_1_112 tw_1_6 tw_1_113) rfl rfl rfl (by decide +kernel) ⟨Nat.le_of_ble_eq_true rfl, Nat.le_of_ble_eq_true rfl⟩) hC hS hA  trivial rfl rfl hl.1 (Nat.le_of_ble_eq_true rfl) ⟨Nat.zero_le _, Nat.zero_le _⟩ dJ0_checkIndex_df160_5 (fun r9 h9 => lv_cv h9 ?_)
    refine lv_pop hx hb dJ0_checkIndex_df160_8 rfl ?_
    exact p_v hx hb hr hlocks dJ0_checkIndex_df160_9
  · refine va_gets (v := .ref fa) hx hb z11 hS hown (hts _ tw_1_109) (fun _ h9 => h9) dJ0_checkIndex_df160_2 ?_
    refine kS_i (A := A) (As := [.int (nI j), .int (nI n), .ref fa]) (rest := []) ⟨hx, hb, hml, hown, hts⟩ (mJ3_checkIndex_8e157 (A := A) hj hn) (va_cwS 3 hts (gS tw_1_111 tw_1_112 tw_1_6 tw_1_113) rfl rfl rfl (by decide +kernel) ⟨Nat.le_of_ble_eq_true rfl, Nat.le_of_ble_eq_true rfl⟩) hC hS hA  trivial rfl rfl hl.1 (Nat.le_of_ble_eq_true rfl) ⟨Nat.zero_le _, Nat.zero_le _⟩ dJ0_checkIndex_df160_5 (fun r9 h9 => lv_cv h9 ?_)
    refine lv_pop hx hb dJ0_checkIndex_df160_8 rfl ?_
    exact p_v hx hb hr hlocks dJ0_checkIndex_df160_9

abbrev rmJ1_charAt_3b067 : Room := { frames := 2, cells := 0, slots := 0, locals := 43 }
theorem mJ1_charAt_3b067 {l : Launch} {G : Cx} {A : Nat → Prop} {i : Nat} (hi : i < 9) {j : Nat} (hj : j < (stx i).length) : Met l yJ1_charAt_3b067 (.code yJ1_charAt_3b067 cJ1_charAt_3b067 2 (some .char) :: GW) rmJ1_charAt_3b067 (PC G A [.ref (G.2.2 (40 + i)), .int (nI j)] (fun _ => True)) (vp_Si (fun r => r = nI ((stx i).getD j 0))) 0 0 (fun _ => False) := by
  refine mstart "java/lang/StringLatin1" (by decide +kernel) rfl (Nat.le_of_ble_eq_true rfl) ?_
  intro p e s m below meth c ls hx hb hr hts hown hml hlocks hname hC hA hW hl
  have hl : lv_has ls 2 [(0, .ref (G.2.2 (40 + i))), (1, .int (nI j))] := hl
  have hK := hC.1
  have hS : va_S A s.heap s.heap [] := va_S.rf
  obtain ⟨z1, z2, z3, z4, z5, z6, z7, z8, z9, z10, z11, z12, z13⟩ := hC.2.2.1
  obtain ⟨c1, c2, c3, c4⟩ := hC.2.2.2.1 i hi
  have hs := stx_len hi
  refine lv_iload_n hx hb dJ1_charAt_3b067_0 rfl (lv_at hl 1 rfl) ?_
  refine lv_aload_n hx hb dJ1_charAt_3b067_1 rfl (lv_at hl 0 rfl) ?_
  refine va_tlen (v := nI ((stx i).length)) hx hb c4 hS rfl dJ1_charAt_3b067_2 ?_
  refine kS_v (A := A) (As := [.int (nI j), .int (nI ((stx i).length))]) (rest := []) ⟨hx, hb, hml, hown, hts⟩ (mJ0_checkIndex_df160 (A := A) hj (by omega)) (va_cwS 2 hts (gS tw_1_106 tw_1_107 tw_1_4 tw_1_108) rfl rfl rfl (by decide +kernel) ⟨Nat.le_of_ble_eq_true rfl, Nat.le_of_ble_eq_true rfl⟩) hC hS hA  trivial rfl rfl hl.1 (Nat.le_of_ble_eq_true rfl) ⟨Nat.zero_le _, Nat.zero_le _⟩ dJ1_charAt_3b067_3 ?_
  refine lv_aload_n hx hb dJ1_charAt_3b067_6 rfl (lv_at hl 0 rfl) ?_
  refine lv_iload_n hx hb dJ1_charAt_3b067_7 rfl (lv_at hl 1 rfl) ?_
  refine va_tb (v := .int (nI ((stx i).getD j 0))) hx hb c4 hS (vp_in_nI (n := j) (N := (stx i).length) (by omega) (by omega)) (by rw [nI_clamp (n := j) (by omega)]) dJ1_charAt_3b067_8 ?_
  refine lv_sipush (v := nI 255) hx hb dJ1_charAt_3b067_9 (by decide) ?_
  refine lv_iand hx hb dJ1_charAt_3b067_12 ?_
  refine lv_cv (and255 (stx_lt hi j)) ?_
  have hc9 := stx_lt hi j
  refine lv_i2c hx hb dJ1_charAt_3b067_13 (show _ = nI ((stx i).getD j 0) from (chr_id (n := (stx i).getD j 0) (by omega))) ?_
  exact p_g hx hb hr (nar_charN (by omega)) hlocks dJ1_charAt_3b067_14 rfl

abbrev rmJ0_charAt_5068e : Room := { frames := 3, cells := 0, slots := 0, locals := 64 }
theorem mJ0_charAt_5068e {l : Launch} {G : Cx} {A : Nat → Prop} {i : Nat} (hi : i < 9) {j : Nat} (hj : j < (stx i).length) : Met l yJ0_charAt_5068e (.code yJ0_charAt_5068e cJ0_charAt_5068e 2 (some .char) :: GW) rmJ0_charAt_5068e (PC G A [.ref (G.2.2 (20 + i)), .int (nI j)] (fun _ => True)) (vp_Si (fun r => r = nI ((stx i).getD j 0))) 0 0 (fun _ => False) := by
  refine mstart "java/lang/String" (by decide +kernel) rfl (Nat.le_of_ble_eq_true rfl) ?_
  intro p e s m below meth c ls hx hb hr hts hown hml hlocks hname hC hA hW hl
  have hl : lv_has ls 2 [(0, .ref (G.2.2 (20 + i))), (1, .int (nI j))] := hl
  have hK := hC.1
  have hS : va_S A s.heap s.heap [] := va_S.rf
  obtain ⟨z1, z2, z3, z4, z5, z6, z7, z8, z9, z10, z11, z12, z13⟩ := hC.2.2.1
  obtain ⟨c1, c2, c3, c4⟩ := hC.2.2.2.1 i hi
  refine lv_aload_n hx hb dJ0_charAt_5068e_0 rfl (lv_at hl 0 rfl) ?_
  refine kV_i (A := A) (b := (G.2.2 (20 + i))) (As := []) (rest := []) ⟨hx, hb, hml, hown, hts⟩ (mJ0_isLatin1_aae02 (A := A) hi) (cwV 0 hts (gV tw_1_99 tw_1_100 tw_1_101 tw_1_4 tw_1_102) rfl rfl rfl (by decide +kernel) ⟨Nat.le_of_ble_eq_true rfl, Nat.le_of_ble_eq_true rfl⟩) hC hS hA (va_Orecv c1 hS) trivial rfl rfl hl.1 (Nat.le_of_ble_eq_true rfl) ⟨Nat.zero_le _, Nat.zero_le _⟩ dJ0_charAt_5068e_1 (fun r9 h9 => lv_cv h9 ?_)
  refine f_eq (tgt := 16) hx hb dJ0_charAt_5068e_4 (by decide) (fun c_8 => ?_) (fun c_8 => ?_)
  · exact absurd c_8 (by decide)
  · refine lv_aload_n hx hb dJ0_charAt_5068e_7 rfl (lv_at hl 0 rfl) ?_
    refine vk_getf hx hb c3 hS hown (hts _ tw_1_220) (fun _ h9 => h9) dJ0_charAt_5068e_8 ?_
    refine lv_iload_n hx hb dJ0_charAt_5068e_11 rfl (lv_at hl 1 rfl) ?_
    refine kS_i (A := A) (As := [.ref (G.2.2 (40 + i)), .int (nI j)]) (rest := []) ⟨hx, hb, hml, hown, hts⟩ (mJ1_charAt_3b067 (A := A) hi hj) (va_cwS 2 hts (gS tw_1_103 tw_1_104 tw_1_5 tw_1_105) rfl rfl rfl (by decide +kernel) ⟨Nat.le_of_ble_eq_true rfl, Nat.le_of_ble_eq_true rfl⟩) hC hS hA  trivial rfl rfl hl.1 (Nat.le_of_ble_eq_true rfl) ⟨Nat.zero_le _, Nat.zero_le _⟩ dJ0_charAt_5068e_12 (fun r9 h9 => lv_cv h9 ?_)
    have hc9 := stx_lt hi j
    exact p_g hx hb hr (nar_charN (by omega)) hlocks dJ0_charAt_5068e_15 rfl
end
section
/-! The JDK, 2: making a text of chars -/
theorem inJ0 : ∀ w ∈ u_ws RJ0 TJ0 4, w ∈ GW := by
  intro w hw
  simp only [u_ws, List.mem_map, List.mem_range] at hw
  obtain ⟨k, hk, rfl⟩ := hw
  match k, hk with
  | 0, _ => exact tw_1_222
  | 1, _ => exact tw_1_224
  | 2, _ => exact tw_1_226
  | 3, _ => exact tw_1_228
theorem inJ4 : ∀ w ∈ u_ws RJ4 TJ4 4, w ∈ GW := by
  intro w hw
  simp only [u_ws, List.mem_map, List.mem_range] at hw
  obtain ⟨k, hk, rfl⟩ := hw
  match k, hk with
  | 0, _ => exact tw_5_209
  | 1, _ => exact tw_5_211
  | 2, _ => exact tw_5_213
  | 3, _ => exact tw_5_215
theorem inJx35411 : ∀ w ∈ u_ws RJx35411 TJx35411 4, w ∈ GW := by
  intro w hw
  simp only [u_ws, List.mem_map, List.mem_range] at hw
  obtain ⟨k, hk, rfl⟩ := hw
  match k, hk with
  | 0, _ => exact tw_7_49
  | 1, _ => exact tw_7_51
  | 2, _ => exact tw_7_53
  | 3, _ => exact tw_7_55
theorem inJx4a65c : ∀ w ∈ u_ws RJx4a65c TJx4a65c 3, w ∈ GW := by
  intro w hw
  simp only [u_ws, List.mem_map, List.mem_range] at hw
  obtain ⟨k, hk, rfl⟩ := hw
  match k, hk with
  | 0, _ => exact tw_4_169
  | 1, _ => exact tw_4_165
  | 2, _ => exact tw_4_167
theorem inX1 : ∀ w ∈ u_ws RX1 TX1 3, w ∈ GW := by
  intro w hw
  simp only [u_ws, List.mem_map, List.mem_range] at hw
  obtain ⟨k, hk, rfl⟩ := hw
  match k, hk with
  | 0, _ => exact tw_1_63
  | 1, _ => exact tw_1_65
  | 2, _ => exact tw_1_67
theorem inX2 : ∀ w ∈ u_ws RX2 TX2 8, w ∈ GW := by
  intro w hw
  simp only [u_ws, List.mem_map, List.mem_range] at hw
  obtain ⟨k, hk, rfl⟩ := hw
  match k, hk with
  | 0, _ => exact tw_1_145
  | 1, _ => exact tw_1_147
  | 2, _ => exact tw_1_149
  | 3, _ => exact tw_1_151
  | 4, _ => exact tw_1_153
  | 5, _ => exact tw_1_155
  | 6, _ => exact tw_1_157
  | 7, _ => exact tw_1_159
theorem inX3 : ∀ w ∈ u_ws RX3 TX3 2, w ∈ GW := by
  intro w hw
  simp only [u_ws, List.mem_map, List.mem_range] at hw
  obtain ⟨k, hk, rfl⟩ := hw
  match k, hk with
  | 0, _ => exact tw_2_229
  | 1, _ => exact tw_2_231
theorem inX4 : ∀ w ∈ u_ws RX4 TX4 5, w ∈ GW := by
  intro w hw
  simp only [u_ws, List.mem_map, List.mem_range] at hw
  obtain ⟨k, hk, rfl⟩ := hw
  match k, hk with
  | 0, _ => exact tw_4_177
  | 1, _ => exact tw_4_179
  | 2, _ => exact tw_4_181
  | 3, _ => exact tw_4_183
  | 4, _ => exact tw_4_185
theorem ush0 (n : Nat) : ((nI n - nI n).toUInt32 >>> ((nI 31).toUInt32 &&& Int32.toUInt32 31)).toInt32 = 0 := by
  rw [Int32.sub_self]; decide
theorem dJ0_init_905df_0 : decode cJ0_init_905df 0 = .ok (.aload_n 0, 1) := by decide +kernel
theorem dJ0_init_905df_1 : decode cJ0_init_905df 1 = .ok (.aload_n 1, 1) := by decide +kernel
theorem dJ0_init_905df_2 : decode cJ0_init_905df 2 = .ok (.iconst 0, 1) := by decide +kernel
theorem dJ0_init_905df_3 : decode cJ0_init_905df 3 = .ok (.aload_n 1, 1) := by decide +kernel
theorem dJ0_init_905df_4 : decode cJ0_init_905df 4 = .ok (.arraylength, 1) := by decide +kernel
theorem dJ0_init_905df_5 : decode cJ0_init_905df 5 = .ok (.aconst_null, 1) := by decide +kernel
theorem dJ0_init_905df_6 : decode cJ0_init_905df 6 = .ok (.invokespecial 27, 3) := by decide +kernel
theorem dJ0_init_905df_9 : decode cJ0_init_905df 9 = .ok (.return_, 1) := by decide +kernel
theorem dJ0_init_bb550_0 : decode cJ0_init_bb550 0 = .ok (.aload_n 0, 1) := by decide +kernel
theorem dJ0_init_bb550_1 : decode cJ0_init_bb550 1 = .ok (.invokespecial 1, 3) := by decide +kernel
theorem dJ0_init_bb550_4 : decode cJ0_init_bb550 4 = .ok (.iload_n 3, 1) := by decide +kernel
theorem dJ0_init_bb550_5 : decode cJ0_init_bb550 5 = .ok (.ifCond .ne 22, 3) := by decide +kernel
theorem dJ0_init_bb550_8 : decode cJ0_init_bb550 8 = .ok (.aload_n 0, 1) := by decide +kernel
theorem dJ0_init_bb550_9 : decode cJ0_init_bb550 9 = .ok (.ldc 7, 2) := by decide +kernel
theorem dJ0_init_bb550_11 : decode cJ0_init_bb550 11 = .ok (.getfield 9, 3) := by decide +kernel
theorem dJ0_init_bb550_14 : decode cJ0_init_bb550 14 = .ok (.putfield 9, 3) := by decide +kernel
theorem dJ0_init_bb550_17 : decode cJ0_init_bb550 17 = .ok (.aload_n 0, 1) := by decide +kernel
theorem dJ0_init_bb550_18 : decode cJ0_init_bb550 18 = .ok (.ldc 7, 2) := by decide +kernel
theorem dJ0_init_bb550_20 : decode cJ0_init_bb550 20 = .ok (.getfield 15, 3) := by decide +kernel
theorem dJ0_init_bb550_23 : decode cJ0_init_bb550 23 = .ok (.putfield 15, 3) := by decide +kernel
theorem dJ0_init_bb550_26 : decode cJ0_init_bb550 26 = .ok (.return_, 1) := by decide +kernel
theorem dJ0_init_bb550_27 : decode cJ0_init_bb550 27 = .ok (.getstatic 38, 3) := by decide +kernel
theorem dJ0_init_bb550_30 : decode cJ0_init_bb550 30 = .ok (.ifCond .eq 28, 3) := by decide +kernel
theorem dJ0_init_bb550_33 : decode cJ0_init_bb550 33 = .ok (.aload_n 1, 1) := by decide +kernel
theorem dJ0_init_bb550_34 : decode cJ0_init_bb550 34 = .ok (.iload_n 2, 1) := by decide +kernel
theorem dJ0_init_bb550_35 : decode cJ0_init_bb550 35 = .ok (.iload_n 3, 1) := by decide +kernel
theorem dJ0_init_bb550_36 : decode cJ0_init_bb550 36 = .ok (.invokestatic 177, 3) := by decide +kernel
theorem dJ0_init_bb550_39 : decode cJ0_init_bb550 39 = .ok (.astore 5, 2) := by decide +kernel
theorem dJ0_init_bb550_41 : decode cJ0_init_bb550 41 = .ok (.aload_n 0, 1) := by decide +kernel
theorem dJ0_init_bb550_42 : decode cJ0_init_bb550 42 = .ok (.aload 5, 2) := by decide +kernel
theorem dJ0_init_bb550_44 : decode cJ0_init_bb550 44 = .ok (.iload_n 3, 1) := by decide +kernel
theorem dJ0_init_bb550_45 : decode cJ0_init_bb550 45 = .ok (.invokestatic 47, 3) := by decide +kernel
theorem dJ0_init_bb550_48 : decode cJ0_init_bb550 48 = .ok (.putfield 15, 3) := by decide +kernel
theorem dJ0_init_bb550_51 : decode cJ0_init_bb550 51 = .ok (.aload_n 0, 1) := by decide +kernel
theorem dJ0_init_bb550_52 : decode cJ0_init_bb550 52 = .ok (.aload 5, 2) := by decide +kernel
theorem dJ0_init_bb550_54 : decode cJ0_init_bb550 54 = .ok (.putfield 9, 3) := by decide +kernel
theorem dJ0_init_bb550_57 : decode cJ0_init_bb550 57 = .ok (.return_, 1) := by decide +kernel
theorem dJ0_init_bb550_58 : decode cJ0_init_bb550 58 = .ok (.aload_n 0, 1) := by decide +kernel
theorem dJ0_init_bb550_59 : decode cJ0_init_bb550 59 = .ok (.iconst 1, 1) := by decide +kernel
theorem dJ0_init_bb550_60 : decode cJ0_init_bb550 60 = .ok (.putfield 15, 3) := by decide +kernel
theorem dJ0_init_bb550_63 : decode cJ0_init_bb550 63 = .ok (.aload_n 0, 1) := by decide +kernel
theorem dJ0_init_bb550_64 : decode cJ0_init_bb550 64 = .ok (.aload_n 1, 1) := by decide +kernel
theorem dJ0_init_bb550_65 : decode cJ0_init_bb550 65 = .ok (.iload_n 2, 1) := by decide +kernel
theorem dJ0_init_bb550_66 : decode cJ0_init_bb550 66 = .ok (.iload_n 3, 1) := by decide +kernel
theorem dJ0_init_bb550_67 : decode cJ0_init_bb550 67 = .ok (.invokestatic 180, 3) := by decide +kernel
theorem dJ0_init_bb550_70 : decode cJ0_init_bb550 70 = .ok (.putfield 9, 3) := by decide +kernel
theorem dJ0_init_bb550_73 : decode cJ0_init_bb550 73 = .ok (.return_, 1) := by decide +kernel
theorem dJ2_coderFromArrayLen_85cad_0 : decode cJ2_coderFromArrayLen_85cad 0 = .ok (.iload_n 1, 1) := by decide +kernel
theorem dJ2_coderFromArrayLen_85cad_1 : decode cJ2_coderFromArrayLen_85cad 1 = .ok (.aload_n 0, 1) := by decide +kernel
theorem dJ2_coderFromArrayLen_85cad_2 : decode cJ2_coderFromArrayLen_85cad 2 = .ok (.arraylength, 1) := by decide +kernel
theorem dJ2_coderFromArrayLen_85cad_3 : decode cJ2_coderFromArrayLen_85cad 3 = .ok (.isub, 1) := by decide +kernel
theorem dJ2_coderFromArrayLen_85cad_4 : decode cJ2_coderFromArrayLen_85cad 4 = .ok (.bipush 31, 2) := by decide +kernel
theorem dJ2_coderFromArrayLen_85cad_6 : decode cJ2_coderFromArrayLen_85cad 6 = .ok (.iushr, 1) := by decide +kernel
theorem dJ2_coderFromArrayLen_85cad_7 : decode cJ2_coderFromArrayLen_85cad 7 = .ok (.i2b, 1) := by decide +kernel
theorem dJ2_coderFromArrayLen_85cad_8 : decode cJ2_coderFromArrayLen_85cad 8 = .ok (.ireturn, 1) := by decide +kernel
theorem dJ2_compress_dfd3c_0 : decode cJ2_compress_dfd3c 0 = .ok (.iload_n 2, 1) := by decide +kernel
theorem dJ2_compress_dfd3c_1 : decode cJ2_compress_dfd3c 1 = .ok (.newarray .byte, 2) := by decide +kernel
theorem dJ2_compress_dfd3c_3 : decode cJ2_compress_dfd3c 3 = .ok (.astore_n 3, 1) := by decide +kernel
theorem dJ2_compress_dfd3c_4 : decode cJ2_compress_dfd3c 4 = .ok (.aload_n 0, 1) := by decide +kernel
theorem dJ2_compress_dfd3c_5 : decode cJ2_compress_dfd3c 5 = .ok (.iload_n 1, 1) := by decide +kernel
theorem dJ2_compress_dfd3c_6 : decode cJ2_compress_dfd3c 6 = .ok (.aload_n 3, 1) := by decide +kernel
theorem dJ2_compress_dfd3c_7 : decode cJ2_compress_dfd3c 7 = .ok (.iconst 0, 1) := by decide +kernel
theorem dJ2_compress_dfd3c_8 : decode cJ2_compress_dfd3c 8 = .ok (.iload_n 2, 1) := by decide +kernel
theorem dJ2_compress_dfd3c_9 : decode cJ2_compress_dfd3c 9 = .ok (.invokestatic 115, 3) := by decide +kernel
theorem dJ2_compress_dfd3c_12 : decode cJ2_compress_dfd3c 12 = .ok (.istore 4, 2) := by decide +kernel
theorem dJ2_compress_dfd3c_14 : decode cJ2_compress_dfd3c 14 = .ok (.iload 4, 2) := by decide +kernel
theorem dJ2_compress_dfd3c_16 : decode cJ2_compress_dfd3c 16 = .ok (.iload_n 2, 1) := by decide +kernel
theorem dJ2_compress_dfd3c_17 : decode cJ2_compress_dfd3c 17 = .ok (.if_icmp .eq 40, 3) := by decide +kernel
theorem dJ2_compress_dfd3c_20 : decode cJ2_compress_dfd3c 20 = .ok (.aload_n 0, 1) := by decide +kernel
theorem dJ2_compress_dfd3c_21 : decode cJ2_compress_dfd3c 21 = .ok (.iload_n 1, 1) := by decide +kernel
theorem dJ2_compress_dfd3c_22 : decode cJ2_compress_dfd3c 22 = .ok (.iload_n 2, 1) := by decide +kernel
theorem dJ2_compress_dfd3c_23 : decode cJ2_compress_dfd3c 23 = .ok (.invokestatic 119, 3) := by decide +kernel
theorem dJ2_compress_dfd3c_26 : decode cJ2_compress_dfd3c 26 = .ok (.astore 5, 2) := by decide +kernel
theorem dJ2_compress_dfd3c_28 : decode cJ2_compress_dfd3c 28 = .ok (.aload 5, 2) := by decide +kernel
theorem dJ2_compress_dfd3c_30 : decode cJ2_compress_dfd3c 30 = .ok (.iload 4, 2) := by decide +kernel
theorem dJ2_compress_dfd3c_32 : decode cJ2_compress_dfd3c 32 = .ok (.invokestatic 71, 3) := by decide +kernel
theorem dJ2_compress_dfd3c_35 : decode cJ2_compress_dfd3c 35 = .ok (.sipush 255, 3) := by decide +kernel
theorem dJ2_compress_dfd3c_38 : decode cJ2_compress_dfd3c 38 = .ok (.if_icmp .gt 16, 3) := by decide +kernel
theorem dJ2_compress_dfd3c_41 : decode cJ2_compress_dfd3c 41 = .ok (.aload 5, 2) := by decide +kernel
theorem dJ2_compress_dfd3c_43 : decode cJ2_compress_dfd3c 43 = .ok (.iconst 0, 1) := by decide +kernel
theorem dJ2_compress_dfd3c_44 : decode cJ2_compress_dfd3c 44 = .ok (.aload_n 3, 1) := by decide +kernel
theorem dJ2_compress_dfd3c_45 : decode cJ2_compress_dfd3c 45 = .ok (.iconst 0, 1) := by decide +kernel
theorem dJ2_compress_dfd3c_46 : decode cJ2_compress_dfd3c 46 = .ok (.iload_n 2, 1) := by decide +kernel
theorem dJ2_compress_dfd3c_47 : decode cJ2_compress_dfd3c 47 = .ok (.invokestatic 123, 3) := by decide +kernel
theorem dJ2_compress_dfd3c_50 : decode cJ2_compress_dfd3c 50 = .ok (.iload_n 2, 1) := by decide +kernel
theorem dJ2_compress_dfd3c_51 : decode cJ2_compress_dfd3c 51 = .ok (.if_icmp .eq 6, 3) := by decide +kernel
theorem dJ2_compress_dfd3c_54 : decode cJ2_compress_dfd3c 54 = .ok (.aload 5, 2) := by decide +kernel
theorem dJ2_compress_dfd3c_56 : decode cJ2_compress_dfd3c 56 = .ok (.areturn, 1) := by decide +kernel
theorem dJ2_compress_dfd3c_57 : decode cJ2_compress_dfd3c 57 = .ok (.aload_n 3, 1) := by decide +kernel
theorem dJ2_compress_dfd3c_58 : decode cJ2_compress_dfd3c 58 = .ok (.areturn, 1) := by decide +kernel
theorem dJ2_compress_fe38e_0 : decode cJ2_compress_fe38e 0 = .ok (.iconst 0, 1) := by decide +kernel
theorem dJ2_compress_fe38e_1 : decode cJ2_compress_fe38e 1 = .ok (.istore 5, 2) := by decide +kernel
theorem dJ2_compress_fe38e_3 : decode cJ2_compress_fe38e 3 = .ok (.iload 5, 2) := by decide +kernel
theorem dJ2_compress_fe38e_5 : decode cJ2_compress_fe38e 5 = .ok (.iload 4, 2) := by decide +kernel
theorem dJ2_compress_fe38e_7 : decode cJ2_compress_fe38e 7 = .ok (.if_icmp .ge 37, 3) := by decide +kernel
theorem dJ2_compress_fe38e_10 : decode cJ2_compress_fe38e 10 = .ok (.aload_n 0, 1) := by decide +kernel
theorem dJ2_compress_fe38e_11 : decode cJ2_compress_fe38e 11 = .ok (.iload_n 1, 1) := by decide +kernel
theorem dJ2_compress_fe38e_12 : decode cJ2_compress_fe38e 12 = .ok (.caload, 1) := by decide +kernel
theorem dJ2_compress_fe38e_13 : decode cJ2_compress_fe38e 13 = .ok (.istore 6, 2) := by decide +kernel
theorem dJ2_compress_fe38e_15 : decode cJ2_compress_fe38e 15 = .ok (.iload 6, 2) := by decide +kernel
theorem dJ2_compress_fe38e_17 : decode cJ2_compress_fe38e 17 = .ok (.sipush 255, 3) := by decide +kernel
theorem dJ2_compress_fe38e_20 : decode cJ2_compress_fe38e 20 = .ok (.if_icmp .le 6, 3) := by decide +kernel
theorem dJ2_compress_fe38e_23 : decode cJ2_compress_fe38e 23 = .ok (.iload 5, 2) := by decide +kernel
theorem dJ2_compress_fe38e_25 : decode cJ2_compress_fe38e 25 = .ok (.ireturn, 1) := by decide +kernel
theorem dJ2_compress_fe38e_26 : decode cJ2_compress_fe38e 26 = .ok (.aload_n 2, 1) := by decide +kernel
theorem dJ2_compress_fe38e_27 : decode cJ2_compress_fe38e 27 = .ok (.iload_n 3, 1) := by decide +kernel
theorem dJ2_compress_fe38e_28 : decode cJ2_compress_fe38e 28 = .ok (.iload 6, 2) := by decide +kernel
theorem dJ2_compress_fe38e_30 : decode cJ2_compress_fe38e 30 = .ok (.i2b, 1) := by decide +kernel
theorem dJ2_compress_fe38e_31 : decode cJ2_compress_fe38e 31 = .ok (.bastore, 1) := by decide +kernel
theorem dJ2_compress_fe38e_32 : decode cJ2_compress_fe38e 32 = .ok (.iinc 1 1, 3) := by decide +kernel
theorem dJ2_compress_fe38e_35 : decode cJ2_compress_fe38e 35 = .ok (.iinc 3 1, 3) := by decide +kernel
theorem dJ2_compress_fe38e_38 : decode cJ2_compress_fe38e 38 = .ok (.iinc 5 1, 3) := by decide +kernel
theorem dJ2_compress_fe38e_41 : decode cJ2_compress_fe38e 41 = .ok (.goto (-38), 3) := by decide +kernel
theorem dJ2_compress_fe38e_44 : decode cJ2_compress_fe38e 44 = .ok (.iload 4, 2) := by decide +kernel
theorem dJ2_compress_fe38e_46 : decode cJ2_compress_fe38e 46 = .ok (.ireturn, 1) := by decide +kernel
abbrev rmJ2_compress_fe38e : Room := { frames := 1, cells := 0, slots := 0, locals := 20 }
theorem mJ2_compress_fe38e {l : Launch} {G : Cx} {A : Nat → Prop} {na nb n : Nat} {f g : Nat → Int32} (hn : n ≤ 60) (hAb : A nb) (hne : na ≠ nb) (hf : ∀ j : Nat, j < n → ∃ k0 : Nat, k0 < 256 ∧ f j = nI k0) : Met l yJ2_compress_fe38e (.code yJ2_compress_fe38e cJ2_compress_fe38e 7 (some .int) :: GW) rmJ2_compress_fe38e (PC G A [.ref na, .int (nI 0), .ref nb, .int (nI 0), .int (nI n)] (fun H => va_at G.1 vwCl (na, .inl (G.2.1 1, n, .inl f)) H ∧ va_at G.1 vwCl (nb, .inl (G.2.1 2, n, .inl g)) H)) (qI A (fun r H => r = nI n ∧ ∃ g : Nat → Int32, va_at G.1 vwCl (nb, .inl (G.2.1 2, n, .inl g)) H)) 0 0 (A) := by
  refine mstart "java/lang/StringUTF16" (by decide +kernel) rfl (Nat.le_of_ble_eq_true rfl) ?_
  intro p e s m below meth c ls hx hb hr hts hown hml hlocks hname hC hA hW hl
  have hl : lv_has ls 7 [(0, .ref na), (1, .int (nI 0)), (2, .ref nb), (3, .int (nI 0)), (4, .int (nI n))] := hl
  have hK := hC.1
  have hS : va_S A s.heap s.heap [] := va_S.rf
  obtain ⟨hF, hB⟩ := hW
  refine lv_iconst (v := nI 0) hx hb dJ2_compress_fe38e_0 (by decide) ?_
  refine lv_istore (lv' := [(5, .int (nI 0)), (0, .ref na), (1, .int (nI 0)), (2, .ref nb), (3, .int (nI 0)), (4, .int (nI n))]) hx hb dJ2_compress_fe38e_1 hl (by decide) rfl (fun ls hl => ?_)
  refine nloop (P := fun j => ∀ (ls : Array Slot) (H : Heap) (L : List Loc) (g : Nat → Int32), lv_has ls 7 [(5, .int (nI j)), (0, .ref na), (1, .int (nI j)), (2, .ref nb), (3, .int (nI j)), (4, .int (nI n))] → va_S A s.heap H L → va_at G.1 vwCl (na, .inl (G.2.1 1, n, .inl f)) H → va_at G.1 vwCl (nb, .inl (G.2.1 2, n, .inl g)) H → W p l e rmJ2_compress_fe38e s m [.ref na, .int (nI 0), .ref nb, .int (nI 0), .int (nI n)].toArray below meth c H L 0 0 (MQ below (qI A (fun r H => r = nI n ∧ ∃ g : Nat → Int32, va_at G.1 vwCl (nb, .inl (G.2.1 2, n, .inl g)) H)) [.ref na, .int (nI 0), .ref nb, .int (nI 0), .int (nI n)].toArray s 0 0 (A)) (F0 m 3 ls [])) n ?_ 0 (Nat.zero_le _) ls s.heap [] g hl hS hF hB
  clear hl
  intro j hj ih ls H L g hl
  clear hS hF hB
  intro hS hF hB
  refine lv_iload hx hb dJ2_compress_fe38e_3 (lv_at hl 0 rfl) ?_
  refine lv_iload hx hb dJ2_compress_fe38e_5 (lv_at hl 5 rfl) ?_
  refine b_ge (tgt := 44) hx hb dJ2_compress_fe38e_7 (by decide) (by omega) (by omega) (fun c_1 => ?_) (fun c_1 => ?_)
  · refine lv_iload hx hb dJ2_compress_fe38e_44 (lv_at hl 5 rfl) ?_
    exact q_i hx hb hr hlocks dJ2_compress_fe38e_46 hS (Nat.le_refl _) (Nat.le_refl _) ⟨rfl, _, hB⟩
  · obtain ⟨k0, hk0, hfk⟩ := hf j (by omega)
    refine lv_aload_n hx hb dJ2_compress_fe38e_10 rfl (lv_at hl 1 rfl) ?_
    refine lv_iload_n hx hb dJ2_compress_fe38e_11 rfl (lv_at hl 2 rfl) ?_
    refine va_cald hx hb hK (at_P hF) 0 1 rfl rfl (vp_in_nI (n := j) (N := n) (by omega) (by omega)) dJ2_compress_fe38e_12 ?_
    refine lv_cv (show _ = f j from by rw [nI_clamp (by omega)]) ?_
    refine lv_cv hfk ?_
    refine lv_istore (lv' := [(6, .int (nI k0)), (5, .int (nI j)), (0, .ref na), (1, .int (nI j)), (2, .ref nb), (3, .int (nI j)), (4, .int (nI n))]) hx hb dJ2_compress_fe38e_13 hl (by decide) rfl (fun ls hl => ?_)
    refine lv_iload hx hb dJ2_compress_fe38e_15 (lv_at hl 0 rfl) ?_
    refine lv_sipush (v := nI 255) hx hb dJ2_compress_fe38e_17 (by decide) ?_
    refine b_le (tgt := 26) hx hb dJ2_compress_fe38e_20 (by decide) (by omega) (by omega) (fun c_2 => ?_) (fun c_2 => ?_)
    · refine lv_aload_n hx hb dJ2_compress_fe38e_26 rfl (lv_at hl 4 rfl) ?_
      refine lv_iload_n hx hb dJ2_compress_fe38e_27 rfl (lv_at hl 5 rfl) ?_
      refine lv_iload hx hb dJ2_compress_fe38e_28 (lv_at hl 0 rfl) ?_
      refine lv_i2b hx hb dJ2_compress_fe38e_30 rfl ?_
      refine h_bst (D := G.1) hx hb hK 2 hB rfl hS hAb (vp_in_nI (n := j) (N := n) (by omega) (by omega)) dJ2_compress_fe38e_31 (fun H3 L3 hB z3 o3 hS => ?_)
      rw [nI_clamp (n := j) (by omega)] at hB
      have hF := at_o hF o3 hne
      have hZ3 := hS.1
      refine lv_iinc (v := nI (j + 1)) (lv' := [(1, .int (nI (j + 1))), (6, .int (nI k0)), (5, .int (nI j)), (0, .ref na), (2, .ref nb), (3, .int (nI j)), (4, .int (nI n))]) hx hb dJ2_compress_fe38e_32 hl (k := 3) rfl (nI_add j 1) (by decide) rfl (fun ls hl => ?_)
      refine lv_iinc (v := nI (j + 1)) (lv' := [(3, .int (nI (j + 1))), (1, .int (nI (j + 1))), (6, .int (nI k0)), (5, .int (nI j)), (0, .ref na), (2, .ref nb), (4, .int (nI n))]) hx hb dJ2_compress_fe38e_35 hl (k := 5) rfl (nI_add j 1) (by decide) rfl (fun ls hl => ?_)
      refine lv_iinc (v := nI (j + 1)) (lv' := [(5, .int (nI (j + 1))), (3, .int (nI (j + 1))), (1, .int (nI (j + 1))), (6, .int (nI k0)), (0, .ref na), (2, .ref nb), (4, .int (nI n))]) hx hb dJ2_compress_fe38e_38 hl (k := 3) rfl (nI_add j 1) (by decide) rfl (fun ls hl => ?_)
      refine lv_goto (tgt := 3) hx hb dJ2_compress_fe38e_41 (by decide) ?_
      exact ih (j + 1) (by omega) (by omega) ls H3 L3 _ (lv_sub hl [0, 4, 2, 5, 1, 6] rfl) hS hF hB
    · exact absurd c_2 (by omega)

abbrev rmJ2_compress_dfd3c : Room := { frames := 2, cells := 1, slots := 60, locals := 46 }
theorem mJ2_compress_dfd3c {l : Launch} {G : Cx} {A : Nat → Prop} {na n sz : Nat} {f : Nat → Int32} (hn : n ≤ 60) (hf : ∀ j : Nat, j < n → ∃ k0 : Nat, k0 < 256 ∧ f j = nI k0) : Met l yJ2_compress_dfd3c (.code yJ2_compress_dfd3c cJ2_compress_dfd3c 6 (some (.array .byte)) :: GW) rmJ2_compress_dfd3c (PC G A [.ref na, .int (nI 0), .int (nI n)] (fun H => H.size = sz ∧ va_at G.1 vwCl (na, .inl (G.2.1 1, n, .inl f)) H)) (qR A (fun b H => sz ≤ b ∧ ∃ g : Nat → Int32, va_at G.1 vwCl (b, .inl (G.2.1 2, n, .inl g)) H)) 1 60 (A) := by
  refine mstart "java/lang/StringUTF16" (by decide +kernel) rfl (Nat.le_of_ble_eq_true rfl) ?_
  intro p e s m below meth c ls hx hb hr hts hown hml hlocks hname hC hA hW hl
  have hl : lv_has ls 6 [(0, .ref na), (1, .int (nI 0)), (2, .int (nI n))] := hl
  have hK := hC.1
  have hS : va_S A s.heap s.heap [] := va_S.rf
  obtain ⟨hsz, hF⟩ := hW
  refine lv_iload_n hx hb dJ2_compress_dfd3c_0 rfl (lv_at hl 2 rfl) ?_
  refine h_newa (D := G.1) (atype := .byte) (N := n) (z := (n, .inl (fun _ => 0))) hx hb (hts _ tw_1_162) rfl (fun h => h) hK 2 rfl hS rfl (nI_pos (by omega)) (nI_clamp (by omega)) (show n * _ ≤ _ from by show n * 1 ≤ 536870912; omega) (Nat.le_trans (show 0 + 1 ≤ 1 by omega) (Nat.le_of_ble_eq_true rfl)) (Nat.le_trans (show 0 + n ≤ 60 by omega) (Nat.le_of_ble_eq_true rfl)) dJ2_compress_dfd3c_1 (fun nb H4 hnb hFnb z4 o4 hS => ?_)
  have n4hF : na ≠ nb := fun q => absurd hF.lt (by rw [q, hnb]; exact Nat.lt_irrefl _)
  have hF := at_n hF o4
  have hZ4 := hS.1
  have hMnb : A nb := hA nb (by omega)
  refine lv_astore_n (lv' := [(3, .ref nb), (0, .ref na), (1, .int (nI 0)), (2, .int (nI n))]) hx hb dJ2_compress_dfd3c_3 rfl hl (by decide) rfl (fun ls hl => ?_)
  refine lv_aload_n hx hb dJ2_compress_dfd3c_4 rfl (lv_at hl 1 rfl) ?_
  refine lv_iload_n hx hb dJ2_compress_dfd3c_5 rfl (lv_at hl 2 rfl) ?_
  refine lv_aload_n hx hb dJ2_compress_dfd3c_6 rfl (lv_at hl 0 rfl) ?_
  refine lv_iconst (v := nI 0) hx hb dJ2_compress_dfd3c_7 (by decide) ?_
  refine lv_iload_n hx hb dJ2_compress_dfd3c_8 rfl (lv_at hl 3 rfl) ?_
  refine qI_S (A := A) (A1 := ow nb nb H4.size)  (As := [.ref na, .int (nI 0), .ref nb, .int (nI 0), .int (nI n)]) (rest := []) ⟨hx, hb, hml, hown, hts⟩ (mJ2_compress_fe38e (A := ow nb nb H4.size) (na := na) (nb := nb) (n := n) hn (Or.inl rfl) n4hF hf) (va_cwS 5 hts (gS tw_1_188 tw_1_189 tw_1_7 tw_1_190) rfl rfl rfl (by decide +kernel) ⟨Nat.le_of_ble_eq_true rfl, Nat.le_of_ble_eq_true rfl⟩) hC hS (ow_in hMnb hMnb hA hZ4) ow_n  ⟨hF, hFnb⟩ rfl rfl hl.1 (Nat.le_of_ble_eq_true rfl) ⟨Nat.le_trans (show (0 + 1) ≤ 1 by omega) (Nat.le_of_ble_eq_true rfl), Nat.le_trans (show (0 + n) ≤ 60 by omega) (Nat.le_of_ble_eq_true rfl)⟩ dJ2_compress_dfd3c_9 (fun rv5 H5 L5 hP5 hk5 hS => ?_)
  have hZ5 := hS.1
  obtain ⟨hr9, g, hB⟩ := hP5
  subst hr9
  refine lv_istore (lv' := [(4, .int (nI n)), (3, .ref nb), (0, .ref na), (1, .int (nI 0)), (2, .int (nI n))]) hx hb dJ2_compress_dfd3c_12 hl (by decide) rfl (fun ls hl => ?_)
  refine lv_iload hx hb dJ2_compress_dfd3c_14 (lv_at hl 0 rfl) ?_
  refine lv_iload_n hx hb dJ2_compress_dfd3c_16 rfl (lv_at hl 4 rfl) ?_
  refine b_eq (tgt := 57) hx hb dJ2_compress_dfd3c_17 (by decide) (by omega) (by omega) (fun c_6 => ?_) (fun c_6 => ?_)
  · refine lv_aload_n hx hb dJ2_compress_dfd3c_57 rfl (lv_at hl 1 rfl) ?_
    exact q_a hx hb hr (Or.inr ⟨_, rfl⟩) hlocks dJ2_compress_dfd3c_58 hS (by omega) (by omega) ⟨by rw [hnb, hsz]; exact Nat.le_refl _, g, hB⟩
  · exact absurd rfl c_6

abbrev rmJ2_coderFromArrayLen_85cad : Room := { frames := 1, cells := 0, slots := 0, locals := 20 }
theorem mJ2_coderFromArrayLen_85cad {l : Launch} {G : Cx} {A : Nat → Prop} {b n : Nat} {g : Nat → Int32} : Met l yJ2_coderFromArrayLen_85cad (.code yJ2_coderFromArrayLen_85cad cJ2_coderFromArrayLen_85cad 2 (some .byte) :: GW) rmJ2_coderFromArrayLen_85cad (PC G A [.ref b, .int (nI n)] (fun H => va_at G.1 vwCl (b, .inl (G.2.1 2, n, .inl g)) H)) (vp_Si (fun r => r = 0)) 0 0 (fun _ => False) := by
  refine mstart "java/lang/StringUTF16" (by decide +kernel) rfl (Nat.le_of_ble_eq_true rfl) ?_
  intro p e s m below meth c ls hx hb hr hts hown hml hlocks hname hC hA hW hl
  have hl : lv_has ls 2 [(0, .ref b), (1, .int (nI n))] := hl
  have hK := hC.1
  have hS : va_S A s.heap s.heap [] := va_S.rf
  refine lv_iload_n hx hb dJ2_coderFromArrayLen_85cad_0 rfl (lv_at hl 1 rfl) ?_
  refine lv_aload_n hx hb dJ2_coderFromArrayLen_85cad_1 rfl (lv_at hl 0 rfl) ?_
  refine va_alen hx hb hK (at_P hW) 0 2 (v := nI n) rfl rfl rfl dJ2_coderFromArrayLen_85cad_2 ?_
  refine lv_isub hx hb dJ2_coderFromArrayLen_85cad_3 ?_
  refine lv_bipush (v := nI 31) hx hb dJ2_coderFromArrayLen_85cad_4 (by decide) ?_
  refine lv_iushr (v := 0) hx hb dJ2_coderFromArrayLen_85cad_6 (ush0 n) ?_
  refine lv_i2b (v := 0) hx hb dJ2_coderFromArrayLen_85cad_7 rfl ?_
  exact p_g hx hb hr rfl hlocks dJ2_coderFromArrayLen_85cad_8 rfl

abbrev rmJ0_init_bb550 : Room := { frames := 3, cells := 1, slots := 60, locals := 71 }
theorem mJ0_init_bb550 {l : Launch} {G : Cx} {A : Nat → Prop} {a na n : Nat} {f : Nat → Int32} (hAa : A a) (hne : a ≠ na) (hn : n ≤ 60) (hf : ∀ j : Nat, j < n → ∃ k0 : Nat, k0 < 256 ∧ f j = nI k0) : Met l yJ0_init_bb550 (.code yJ0_init_bb550 cJ0_init_bb550 6 (none : Option Jvm.ClassFile.FieldType) :: GW) rmJ0_init_bb550 (PC G A [.ref a, .ref na, .int (nI 0), .int (nI n), .null] (fun H => va_at G.1 vwCl (a, .inr (0, [.null, .int 0, .int 0, .int 0])) H ∧ va_at G.1 vwCl (na, .inl (G.2.1 1, n, .inl f)) H)) (qV A (fun _ => True)) 1 60 (A) := by
  refine mstart "java/lang/String" (by decide +kernel) rfl (Nat.le_of_ble_eq_true rfl) ?_
  intro p e s m below meth c ls hx hb hr hts hown hml hlocks hname hC hA hW hl
  have hl : lv_has ls 6 [(0, .ref a), (1, .ref na), (2, .int (nI 0)), (3, .int (nI n)), (4, .null)] := hl
  have hK := hC.1
  have hS : va_S A s.heap s.heap [] := va_S.rf
  obtain ⟨hO, hF⟩ := hW
  have hi : 6 < 9 := by decide
  obtain ⟨z1, z2, z3, z4, z5, z6, z7, z8, z9, z10, z11, z12, z13⟩ := hC.2.2.1
  obtain ⟨c1, c2, c3, c4⟩ := hC.2.2.2.1 6 hi
  refine lv_aload_n hx hb dJ0_init_bb550_0 rfl (lv_at hl 0 rfl) ?_
  refine W.objInit hx hb hown (hts _ tw_1_183) (hts _ tw_1_35) (hts _ tw_1_36) rfl (by rw [hml]; exact hl.1) rfl dJ0_init_bb550_1 (Nat.le_of_ble_eq_true rfl) (Nat.le_of_ble_eq_true rfl) ?_
  refine W.eq (g2 := F0 m 4 ls []) rfl ?_
  refine lv_iload_n hx hb dJ0_init_bb550_4 rfl (lv_at hl 3 rfl) ?_
  refine z_ne (tgt := 27) hx hb dJ0_init_bb550_5 (by decide) (by omega) (fun c_7 => ?_) (fun c_7 => ?_)
  · refine va_gets (v := .int 1) hx hb z8 hS hown (hts _ tw_1_93) (fun _ h9 => h9) dJ0_init_bb550_27 ?_
    refine lv_if_eq (tgt := 58) hx hb dJ0_init_bb550_30 (by decide) (fun c_8 => ?_) (fun c_8 => ?_)
    · exact absurd c_8 (by decide)
    · refine lv_aload_n hx hb dJ0_init_bb550_33 rfl (lv_at hl 1 rfl) ?_
      refine lv_iload_n hx hb dJ0_init_bb550_34 rfl (lv_at hl 2 rfl) ?_
      refine lv_iload_n hx hb dJ0_init_bb550_35 rfl (lv_at hl 3 rfl) ?_
      refine qR_S (A := A) (A1 := nw s.heap.size)  (As := [.ref na, .int (nI 0), .int (nI n)]) (rest := []) ⟨hx, hb, hml, hown, hts⟩ (mJ2_compress_dfd3c (A := nw s.heap.size) (na := na) (n := n) (sz := s.heap.size) hn hf) (va_cwS 3 hts (gS tw_1_185 tw_1_186 tw_1_7 tw_1_187) rfl rfl rfl (by decide +kernel) ⟨Nat.le_of_ble_eq_true rfl, Nat.le_of_ble_eq_true rfl⟩) hC hS (nw_in hA (Nat.le_refl _)) nw_n  ⟨rfl, hF⟩ rfl rfl hl.1 (Nat.le_of_ble_eq_true rfl) ⟨Nat.le_trans (show 0 + 1 ≤ 1 by omega) (Nat.le_of_ble_eq_true rfl), Nat.le_trans (show 0 + 60 ≤ 60 by omega) (Nat.le_of_ble_eq_true rfl)⟩ dJ0_init_bb550_36 (fun rv9 H9 L9 hP9 hk9 hS => ?_)
      have hZ9 := hS.1
      obtain ⟨hq1, g, hB⟩ := hP9
      have haz := hO.lt
      have hO := at_kp hO hk9 (Nat.not_le_of_lt hO.lt)
      have nab : a ≠ rv9 := fun q => by rw [← q] at hq1; exact absurd haz (Nat.not_lt_of_le hq1)
      refine lv_astore (lv' := [(5, .ref rv9), (0, .ref a), (1, .ref na), (2, .int (nI 0)), (3, .int (nI n)), (4, .null)]) hx hb dJ0_init_bb550_39 hl (by decide) rfl (fun ls hl => ?_)
      refine lv_aload_n hx hb dJ0_init_bb550_41 rfl (lv_at hl 1 rfl) ?_
      refine lv_aload hx hb dJ0_init_bb550_42 (lv_at hl 0 rfl) ?_
      refine lv_iload_n hx hb dJ0_init_bb550_44 rfl (lv_at hl 4 rfl) ?_
      refine kS_i (A := A) (As := [.ref rv9, .int (nI n)]) (rest := .ref a :: []) ⟨hx, hb, hml, hown, hts⟩ (mJ2_coderFromArrayLen_85cad (A := A) ) (va_cwS 2 hts (gS tw_1_216 tw_1_217 tw_1_7 tw_1_218) rfl rfl rfl (by decide +kernel) ⟨Nat.le_of_ble_eq_true rfl, Nat.le_of_ble_eq_true rfl⟩) hC hS hA  hB rfl rfl hl.1 (Nat.le_of_ble_eq_true rfl) ⟨Nat.le_trans (show (0 + 1) ≤ 1 by omega) (Nat.le_of_ble_eq_true rfl), Nat.le_trans (show (0 + 60) ≤ 60 by omega) (Nat.le_of_ble_eq_true rfl)⟩ dJ0_init_bb550_45 (fun r9 h9 => lv_cv h9 ?_)
      refine h_putF (D := G.1) (ci := 0) (C := RJ0) (T := TJ0) (N := 4) hx hb hts inJ0 tyJ0 tyJ0_ok nmJ0 hown hK hO hS hAa rfl 1 (by decide) (hts _ tw_1_221) (fun _ h9 => h9) rfl hname rfl (tyJ0_ok 1 (by decide)) rfl rfl (Nat.le_of_ble_eq_true rfl) dJ0_init_bb550_48 (fun H10 L10 hO z10 o10 hS => ?_)
      have hO : va_at G.1 vwCl (a, .inr (0, [.null, .int 0, .int 0, .int 0])) H10 := hO
      have hB := at_o hB o10 (Ne.symm nab)
      have hZ10 := hS.1
      refine lv_aload_n hx hb dJ0_init_bb550_51 rfl (lv_at hl 1 rfl) ?_
      refine lv_aload hx hb dJ0_init_bb550_52 (lv_at hl 0 rfl) ?_
      refine h_putF (D := G.1) (ci := 0) (C := RJ0) (T := TJ0) (N := 4) hx hb hts inJ0 tyJ0 tyJ0_ok nmJ0 hown hK hO hS hAa rfl 0 (by decide) (hts _ tw_1_220) (fun _ h9 => h9) rfl hname rfl (tyJ0_ok 0 (by decide)) rfl rfl (Nat.le_of_ble_eq_true rfl) dJ0_init_bb550_54 (fun H11 L11 hO z11 o11 hS => ?_)
      have hO : va_at G.1 vwCl (a, .inr (0, [.ref rv9, .int 0, .int 0, .int 0])) H11 := hO
      have hB := at_o hB o11 (Ne.symm nab)
      have hZ11 := hS.1
      exact q_v hx hb hr hlocks dJ0_init_bb550_57 hS (by omega) (by omega) trivial
  · refine lv_aload_n hx hb dJ0_init_bb550_8 rfl (lv_at hl 0 rfl) ?_
    refine va_ldcS hx hb hown (hC.2.2.2.2.1 ("java/lang/String", 7, "", 6) (by unfold sRl; simp)) dJ0_init_bb550_9 ?_
    refine vk_getf hx hb c3 hS hown (hts _ tw_1_220) (fun _ h9 => h9) dJ0_init_bb550_11 ?_
    refine h_putF (D := G.1) (ci := 0) (C := RJ0) (T := TJ0) (N := 4) hx hb hts inJ0 tyJ0 tyJ0_ok nmJ0 hown hK hO hS hAa rfl 0 (by decide) (hts _ tw_1_220) (fun _ h9 => h9) rfl hname rfl (tyJ0_ok 0 (by decide)) rfl rfl (Nat.le_of_ble_eq_true rfl) dJ0_init_bb550_14 (fun H12 L12 hO z12 o12 hS => ?_)
    have hO : va_at G.1 vwCl (a, .inr (0, [.ref (G.2.2 (40 + 6)), .int 0, .int 0, .int 0])) H12 := hO
    have hF := at_o hF o12 (Ne.symm hne)
    have hZ12 := hS.1
    refine lv_aload_n hx hb dJ0_init_bb550_17 rfl (lv_at hl 0 rfl) ?_
    refine va_ldcS hx hb hown (hC.2.2.2.2.1 ("java/lang/String", 7, "", 6) (by unfold sRl; simp)) dJ0_init_bb550_18 ?_
    refine vk_getf hx hb c2 hS hown (hts _ tw_1_221) (fun _ h9 => h9) dJ0_init_bb550_20 ?_
    refine h_putF (D := G.1) (ci := 0) (C := RJ0) (T := TJ0) (N := 4) hx hb hts inJ0 tyJ0 tyJ0_ok nmJ0 hown hK hO hS hAa rfl 1 (by decide) (hts _ tw_1_221) (fun _ h9 => h9) rfl hname rfl (tyJ0_ok 1 (by decide)) rfl rfl (Nat.le_of_ble_eq_true rfl) dJ0_init_bb550_23 (fun H13 L13 hO z13 o13 hS => ?_)
    have hO : va_at G.1 vwCl (a, .inr (0, [.ref (G.2.2 (40 + 6)), .int 0, .int 0, .int 0])) H13 := hO
    have hF := at_o hF o13 (Ne.symm hne)
    have hZ13 := hS.1
    exact q_v hx hb hr hlocks dJ0_init_bb550_26 hS (by omega) (by omega) trivial

abbrev rmJ0_init_905df : Room := { frames := 4, cells := 1, slots := 60, locals := 96 }
theorem mJ0_init_905df {l : Launch} {G : Cx} {A : Nat → Prop} {a na n : Nat} {f : Nat → Int32} (hAa : A a) (hne : a ≠ na) (hn : n ≤ 60) (hf : ∀ j : Nat, j < n → ∃ k0 : Nat, k0 < 256 ∧ f j = nI k0) : Met l yJ0_init_905df (.code yJ0_init_905df cJ0_init_905df 2 (none : Option Jvm.ClassFile.FieldType) :: GW) rmJ0_init_905df (PC G A [.ref a, .ref na] (fun H => va_at G.1 vwCl (a, .inr (0, [.null, .int 0, .int 0, .int 0])) H ∧ va_at G.1 vwCl (na, .inl (G.2.1 1, n, .inl f)) H)) (qV A (fun _ => True)) 1 60 (A) := by
  refine mstart "java/lang/String" (by decide +kernel) rfl (Nat.le_of_ble_eq_true rfl) ?_
  intro p e s m below meth c ls hx hb hr hts hown hml hlocks hname hC hA hW hl
  have hl : lv_has ls 2 [(0, .ref a), (1, .ref na)] := hl
  have hK := hC.1
  have hS : va_S A s.heap s.heap [] := va_S.rf
  obtain ⟨hO, hF⟩ := hW
  refine lv_aload_n hx hb dJ0_init_905df_0 rfl (lv_at hl 0 rfl) ?_
  refine lv_aload_n hx hb dJ0_init_905df_1 rfl (lv_at hl 1 rfl) ?_
  refine lv_iconst (v := nI 0) hx hb dJ0_init_905df_2 (by decide) ?_
  refine lv_aload_n hx hb dJ0_init_905df_3 rfl (lv_at hl 1 rfl) ?_
  refine va_alen hx hb hK (at_P hF) 0 1 (v := nI n) rfl rfl rfl dJ0_init_905df_4 ?_
  refine lv_null hx hb dJ0_init_905df_5 ?_
  refine qV_I (A := A) (A1 := A) (b := a) (As := [.ref na, .int (nI 0), .int (nI n), .null]) (rest := []) ⟨hx, hb, hml, hown, hts⟩ (mJ0_init_bb550 (A := A) (a := a) (na := na) (n := n) hAa hne hn hf) (cwI 4 hts (gI tw_1_182) rfl rfl rfl (hts _ tw_1_4) (hts _ tw_1_180) (hts _ tw_1_181) rfl (by decide +kernel) ⟨Nat.le_of_ble_eq_true rfl, Nat.le_of_ble_eq_true rfl⟩) hC hS (fun _ h => h) hA  ⟨hO, hF⟩ rfl rfl hl.1 (Nat.le_of_ble_eq_true rfl) ⟨Nat.le_trans (show 0 + 1 ≤ 1 by omega) (Nat.le_of_ble_eq_true rfl), Nat.le_trans (show 0 + 60 ≤ 60 by omega) (Nat.le_of_ble_eq_true rfl)⟩ dJ0_init_905df_6 (fun H14 L14 hP14 hk14 hS => ?_)
  have hZ14 := hS.1
  exact q_v hx hb hr hlocks dJ0_init_905df_9 hS (by omega) (by omega) trivial
end
section
/-! Line, 5: words and strings -/
theorem take_succ_getD {t : List Nat} {j : Nat} (h : j < t.length) : t.take (j + 1) = t.take j ++ [t.getD j 0] := by
  rw [List.take_add_one, List.getElem?_eq_getElem h, List.getD_eq_getElem?_getD, List.getElem?_eq_getElem h]; rfl
theorem dX0_addWord_0 : decode cX0_addWord 0 = .ok (.iconst 0, 1) := by decide +kernel
theorem dX0_addWord_1 : decode cX0_addWord 1 = .ok (.istore_n 2, 1) := by decide +kernel
theorem dX0_addWord_2 : decode cX0_addWord 2 = .ok (.iload_n 2, 1) := by decide +kernel
theorem dX0_addWord_3 : decode cX0_addWord 3 = .ok (.aload_n 1, 1) := by decide +kernel
theorem dX0_addWord_4 : decode cX0_addWord 4 = .ok (.invokevirtual 35, 3) := by decide +kernel
theorem dX0_addWord_7 : decode cX0_addWord 7 = .ok (.if_icmp .ge 18, 3) := by decide +kernel
theorem dX0_addWord_10 : decode cX0_addWord 10 = .ok (.aload_n 0, 1) := by decide +kernel
theorem dX0_addWord_11 : decode cX0_addWord 11 = .ok (.aload_n 1, 1) := by decide +kernel
theorem dX0_addWord_12 : decode cX0_addWord 12 = .ok (.iload_n 2, 1) := by decide +kernel
theorem dX0_addWord_13 : decode cX0_addWord 13 = .ok (.invokevirtual 40, 3) := by decide +kernel
theorem dX0_addWord_16 : decode cX0_addWord 16 = .ok (.invokevirtual 23, 3) := by decide +kernel
theorem dX0_addWord_19 : decode cX0_addWord 19 = .ok (.iinc 2 1, 3) := by decide +kernel
theorem dX0_addWord_22 : decode cX0_addWord 22 = .ok (.goto (-20), 3) := by decide +kernel
theorem dX0_addWord_25 : decode cX0_addWord 25 = .ok (.return_, 1) := by decide +kernel
theorem dX0_asString_0 : decode cX0_asString 0 = .ok (.aload_n 0, 1) := by decide +kernel
theorem dX0_asString_1 : decode cX0_asString 1 = .ok (.getfield 15, 3) := by decide +kernel
theorem dX0_asString_4 : decode cX0_asString 4 = .ok (.newarray .char, 2) := by decide +kernel
theorem dX0_asString_6 : decode cX0_asString 6 = .ok (.astore_n 1, 1) := by decide +kernel
theorem dX0_asString_7 : decode cX0_asString 7 = .ok (.iconst 0, 1) := by decide +kernel
theorem dX0_asString_8 : decode cX0_asString 8 = .ok (.istore_n 2, 1) := by decide +kernel
theorem dX0_asString_9 : decode cX0_asString 9 = .ok (.iload_n 2, 1) := by decide +kernel
theorem dX0_asString_10 : decode cX0_asString 10 = .ok (.aload_n 0, 1) := by decide +kernel
theorem dX0_asString_11 : decode cX0_asString 11 = .ok (.getfield 15, 3) := by decide +kernel
theorem dX0_asString_14 : decode cX0_asString 14 = .ok (.if_icmp .ge 18, 3) := by decide +kernel
theorem dX0_asString_17 : decode cX0_asString 17 = .ok (.aload_n 1, 1) := by decide +kernel
theorem dX0_asString_18 : decode cX0_asString 18 = .ok (.iload_n 2, 1) := by decide +kernel
theorem dX0_asString_19 : decode cX0_asString 19 = .ok (.aload_n 0, 1) := by decide +kernel
theorem dX0_asString_20 : decode cX0_asString 20 = .ok (.getfield 9, 3) := by decide +kernel
theorem dX0_asString_23 : decode cX0_asString 23 = .ok (.iload_n 2, 1) := by decide +kernel
theorem dX0_asString_24 : decode cX0_asString 24 = .ok (.caload, 1) := by decide +kernel
theorem dX0_asString_25 : decode cX0_asString 25 = .ok (.castore, 1) := by decide +kernel
theorem dX0_asString_26 : decode cX0_asString 26 = .ok (.iinc 2 1, 3) := by decide +kernel
theorem dX0_asString_29 : decode cX0_asString 29 = .ok (.goto (-20), 3) := by decide +kernel
theorem dX0_asString_32 : decode cX0_asString 32 = .ok (.new 36, 3) := by decide +kernel
theorem dX0_asString_35 : decode cX0_asString 35 = .ok (.dup, 1) := by decide +kernel
theorem dX0_asString_36 : decode cX0_asString 36 = .ok (.aload_n 1, 1) := by decide +kernel
theorem dX0_asString_37 : decode cX0_asString 37 = .ok (.invokespecial 53, 3) := by decide +kernel
theorem dX0_asString_40 : decode cX0_asString 40 = .ok (.areturn, 1) := by decide +kernel
abbrev rmX0_addWord : Room := { frames := 4, cells := 0, slots := 0, locals := 85 }
theorem mX0_addWord {l : Launch} {G : Cx} {A : Nat → Prop} {a ca i : Nat} {t : List Nat} (hi : i < 9) (hAa : A a) (hAca : A ca) : Met l yX0_addWord (.code yX0_addWord cX0_addWord 3 (none : Option Jvm.ClassFile.FieldType) :: GW) rmX0_addWord (PC G A [.ref a, .ref (G.2.2 (20 + i))] (LA G a ca t)) (qV A (LA G a ca ((t ++ stx i).take 60))) 0 0 (A) := by
  refine mstart "Signtext$Line" (by decide +kernel) rfl (Nat.le_of_ble_eq_true rfl) ?_
  intro p e s m below meth c ls hx hb hr hts hown hml hlocks hname hC hA hW hl
  have hl : lv_has ls 3 [(0, .ref a), (1, .ref (G.2.2 (20 + i)))] := hl
  have hK := hC.1
  have hS : va_S A s.heap s.heap [] := va_S.rf
  obtain ⟨c1, c2, c3, c4⟩ := hC.2.2.2.1 i hi
  have t60 := hW.1
  have hi5 := stx_len hi
  refine lv_iconst (v := nI 0) hx hb dX0_addWord_0 (by decide) ?_
  refine lv_istore_n (lv' := [(2, .int (nI 0)), (0, .ref a), (1, .ref (G.2.2 (20 + i)))]) hx hb dX0_addWord_1 rfl hl (by decide) rfl (fun ls hl => ?_)
  refine nloop (P := fun j => ∀ (ls : Array Slot) (H : Heap) (L : List Loc), lv_has ls 3 [(2, .int (nI j)), (0, .ref a), (1, .ref (G.2.2 (20 + i)))] → va_S A s.heap H L → LA G a ca ((t ++ (stx i).take j).take 60) H → W p l e rmX0_addWord s m [.ref a, .ref (G.2.2 (20 + i))].toArray below meth c H L 0 0 (MQ below (qV A (LA G a ca ((t ++ stx i).take 60))) [.ref a, .ref (G.2.2 (20 + i))].toArray s 0 0 (A)) (F0 m 2 ls [])) ((stx i).length) ?_ 0 (Nat.zero_le _) ls s.heap [] hl hS (by rw [List.take_zero, List.append_nil, List.take_of_length_le t60]; exact hW)
  clear hl
  intro j hj ih ls H L hl
  clear hS hW
  intro hS hW
  have hZ0 := hS.1
  refine lv_iload_n hx hb dX0_addWord_2 rfl (lv_at hl 0 rfl) ?_
  refine lv_aload_n hx hb dX0_addWord_3 rfl (lv_at hl 2 rfl) ?_
  refine kV_i (A := A) (b := (G.2.2 (20 + i))) (As := []) (rest := .int (nI j) :: []) ⟨hx, hb, hml, hown, hts⟩ (mJ0_length_8abf5 (A := A) hi) (cwV 0 hts (gV tw_1_85 tw_1_86 tw_1_87 tw_1_4 tw_1_88) rfl rfl rfl (by decide +kernel) ⟨Nat.le_of_ble_eq_true rfl, Nat.le_of_ble_eq_true rfl⟩) hC hS hA (va_Orecv c1 hS) trivial rfl rfl hl.1 (Nat.le_of_ble_eq_true rfl) ⟨Nat.zero_le _, Nat.zero_le _⟩ dX0_addWord_4 (fun r9 h9 => lv_cv h9 ?_)
  refine b_ge (tgt := 25) hx hb dX0_addWord_7 (by decide) (by omega) (by omega) (fun c_1 => ?_) (fun c_1 => ?_)
  · obtain rfl : j = (stx i).length := by omega
    rw [List.take_length] at hW
    exact q_v hx hb hr hlocks dX0_addWord_25 hS (Nat.le_refl _) (Nat.le_refl _) hW
  · refine lv_aload_n hx hb dX0_addWord_10 rfl (lv_at hl 1 rfl) ?_
    refine lv_aload_n hx hb dX0_addWord_11 rfl (lv_at hl 2 rfl) ?_
    refine lv_iload_n hx hb dX0_addWord_12 rfl (lv_at hl 0 rfl) ?_
    refine kV_i (A := A) (b := (G.2.2 (20 + i))) (As := [.int (nI j)]) (rest := .ref a :: []) ⟨hx, hb, hml, hown, hts⟩ (mJ0_charAt_5068e (A := A) hi (j := j) (by omega)) (cwV 1 hts (gV tw_1_95 tw_1_96 tw_1_97 tw_1_4 tw_1_98) rfl rfl rfl (by decide +kernel) ⟨Nat.le_of_ble_eq_true rfl, Nat.le_of_ble_eq_true rfl⟩) hC hS hA (va_Orecv c1 hS) trivial rfl rfl hl.1 (Nat.le_of_ble_eq_true rfl) ⟨Nat.zero_le _, Nat.zero_le _⟩ dX0_addWord_13 (fun r9 h9 => lv_cv h9 ?_)
    refine qV_V (A := A) (A1 := ow a ca H.size) (b := a) (As := [.int (nI ((stx i).getD j 0))]) (rest := []) ⟨hx, hb, hml, hown, hts⟩ (mX0_addCode (A := ow a ca H.size) (ca := ca) (k0 := (stx i).getD j 0) (Or.inl rfl) (Or.inr (Or.inl rfl)) (stx_lt hi j)) (cwV 1 hts (gV tw_1_133 tw_1_134 tw_1_135 tw_1_2 tw_1_136) rfl rfl rfl (by decide +kernel) ⟨Nat.le_of_ble_eq_true rfl, Nat.le_of_ble_eq_true rfl⟩) hC hS (ow_in hAa hAca hA hZ0) ow_n (hW.recv hK) hW rfl rfl hl.1 (Nat.le_of_ble_eq_true rfl) ⟨Nat.zero_le _, Nat.zero_le _⟩ dX0_addWord_16 (fun H2 L2 hP2 hk2 hS => ?_)
    have hZ2 := hS.1
    refine lv_iinc (v := nI (j + 1)) (lv' := [(2, .int (nI (j + 1))), (0, .ref a), (1, .ref (G.2.2 (20 + i)))]) hx hb dX0_addWord_19 hl (k := 0) rfl (nI_add j 1) (by decide) rfl (fun ls hl => ?_)
    refine lv_goto (tgt := 2) hx hb dX0_addWord_22 (by decide) ?_
    exact ih (j + 1) (by omega) (by omega) ls H2 L2 (lv_sub hl [0, 1, 2] rfl) hS (by rw [take_succ_getD (t := stx i) (j := j) (by omega), ← List.append_assoc, ← take_take60]; exact hP2)

abbrev rmX0_asString : Room := { frames := 5, cells := 3, slots := 124, locals := 117 }
theorem mX0_asString {l : Launch} {G : Cx} {A : Nat → Prop} {a ca : Nat} {t : List Nat} : Met l yX0_asString (.code yX0_asString cX0_asString 3 (some (.object "java/lang/String")) :: GW) rmX0_asString (PC G A [.ref a] (LA G a ca t)) (qR A (fun _ _ => True)) 3 124 (A) := by
  refine mstart "Signtext$Line" (by decide +kernel) rfl (Nat.le_of_ble_eq_true rfl) ?_
  intro p e s m below meth c ls hx hb hr hts hown hml hlocks hname hC hA hW hl
  have hl : lv_has ls 3 [(0, .ref a)] := hl
  have hK := hC.1
  have hS : va_S A s.heap s.heap [] := va_S.rf
  have hq9 := hW
  obtain ⟨t60, tok, tne, hO, f, hF, hf⟩ := hq9
  refine lv_aload_n hx hb dX0_asString_0 rfl (lv_at hl 0 rfl) ?_
  refine va_get (D := G.1) (ci := 4) (C := RX0) (T := TX0) (N := 2) hx hb hts inX0 hown hK (at_P hO) 0 rfl rfl 1 (by decide) (hts _ tw_1_45) (fun _ h9 => h9) rfl dX0_asString_1 ?_
  refine h_newa (D := G.1) (atype := .char) (N := t.length) (z := (t.length, .inl (fun _ => 0))) hx hb (hts _ tw_1_51) rfl (fun h => h) hK 1 rfl hS rfl (nI_pos (by omega)) (nI_clamp (by omega)) (show t.length * _ ≤ _ from by show t.length * 2 ≤ 536870912; omega) (Nat.le_trans (show 0 + 1 ≤ 3 by omega) (Nat.le_of_ble_eq_true rfl)) (Nat.le_trans (show 0 + t.length ≤ 124 by omega) (Nat.le_of_ble_eq_true rfl)) dX0_asString_4 (fun na H3 hna hFna z3 o3 hS => ?_)
  have n3hO : a ≠ na := fun q => absurd hO.lt (by rw [q, hna]; exact Nat.lt_irrefl _)
  have n3hF : ca ≠ na := fun q => absurd hF.lt (by rw [q, hna]; exact Nat.lt_irrefl _)
  have hO := at_n hO o3
  have hF := at_n hF o3
  have hZ3 := hS.1
  have hMna : A na := hA na (by omega)
  refine lv_astore_n (lv' := [(1, .ref na), (0, .ref a)]) hx hb dX0_asString_6 rfl hl (by decide) rfl (fun ls hl => ?_)
  refine lv_iconst (v := nI 0) hx hb dX0_asString_7 (by decide) ?_
  refine lv_istore_n (lv' := [(2, .int (nI 0)), (1, .ref na), (0, .ref a)]) hx hb dX0_asString_8 rfl hl (by decide) rfl (fun ls hl => ?_)
  refine nloop (P := fun j => ∀ (ls : Array Slot) (H : Heap) (L : List Loc) (g : Nat → Int32), lv_has ls 3 [(2, .int (nI j)), (1, .ref na), (0, .ref a)] → va_S A s.heap H L → va_at G.1 vwCl (a, .inr (4, [.ref ca, .int (nI t.length)])) H → va_at G.1 vwCl (ca, .inl (G.2.1 1, 60, .inl f)) H → va_at G.1 vwCl (na, .inl (G.2.1 1, t.length, .inl g)) H → (∀ k : Nat, k < j → g k = nI (t.getD k 0)) → W p l e rmX0_asString s m [.ref a].toArray below meth c H L (0 + 1) (0 + t.length) (MQ below (qR A (fun _ _ => True)) [.ref a].toArray s 3 124 (A)) (F0 m 9 ls [])) t.length ?_ 0 (Nat.zero_le _) ls H3 [] (fun _ => 0) hl hS hO hF hFna (fun k hk => absurd hk (Nat.not_lt_zero k))
  clear hl
  intro j hj ih ls H L g hl
  clear hS hO hF hFna
  intro hS hO hF hFna hg
  have hZ0 := hS.1
  refine lv_iload_n hx hb dX0_asString_9 rfl (lv_at hl 0 rfl) ?_
  refine lv_aload_n hx hb dX0_asString_10 rfl (lv_at hl 2 rfl) ?_
  refine va_get (D := G.1) (ci := 4) (C := RX0) (T := TX0) (N := 2) hx hb hts inX0 hown hK (at_P hO) 0 rfl rfl 1 (by decide) (hts _ tw_1_45) (fun _ h9 => h9) rfl dX0_asString_11 ?_
  refine b_ge (tgt := 32) hx hb dX0_asString_14 (by decide) (by omega) (by omega) (fun c_4 => ?_) (fun c_4 => ?_)
  · refine h_new (D := G.1) (C := RJ0) (T := TJ0) (N := 4) (ci := 0) (fs := [.null, .int 0, .int 0, .int 0]) hx hb hts inJ0 tyJ0 tyJ0_ok hown (hts _ tw_1_175) (hts _ tw_1_176) (hts _ tw_1_4) hK hS rfl (fun j hj => match j, hj with | 0, _ => rfl | 1, _ => rfl | 2, _ => rfl | 3, _ => rfl) (Nat.le_trans (show (0 + 1) + 1 ≤ 3 by omega) (Nat.le_of_ble_eq_true rfl)) (Nat.le_trans (show (0 + t.length) + 4 ≤ 124 by omega) (Nat.le_of_ble_eq_true rfl)) dX0_asString_32 (fun sa H5 hsa hOsa z5 o5 hS => ?_)
    have n5hO : a ≠ sa := fun q => absurd hO.lt (by rw [q, hsa]; exact Nat.lt_irrefl _)
    have n5hF : ca ≠ sa := fun q => absurd hF.lt (by rw [q, hsa]; exact Nat.lt_irrefl _)
    have n5hFna : na ≠ sa := fun q => absurd hFna.lt (by rw [q, hsa]; exact Nat.lt_irrefl _)
    have hO := at_n hO o5
    have hF := at_n hF o5
    have hFna := at_n hFna o5
    have hZ5 := hS.1
    have hMsa : A sa := hA sa (by omega)
    refine lv_dup hx hb dX0_asString_35 rfl ?_
    refine lv_aload_n hx hb dX0_asString_36 rfl (lv_at hl 1 rfl) ?_
    refine qV_I (A := A) (A1 := A) (b := sa) (As := [.ref na]) (rest := .ref sa :: []) ⟨hx, hb, hml, hown, hts⟩ (mJ0_init_905df (A := A) (a := sa) (na := na) (n := t.length) hMsa (Ne.symm n5hFna) t60 (fun k hk => ⟨t.getD k 0, tok k, hg k (by omega)⟩)) (cwI 1 hts (gI tw_1_179) rfl rfl rfl (hts _ tw_1_4) (hts _ tw_1_177) (hts _ tw_1_178) rfl (by decide +kernel) ⟨Nat.le_of_ble_eq_true rfl, Nat.le_of_ble_eq_true rfl⟩) hC hS (fun _ h => h) (fun q h => hA q (by omega))  ⟨hOsa, hFna⟩ rfl rfl hl.1 (Nat.le_of_ble_eq_true rfl) ⟨Nat.le_trans (show ((0 + 1) + 1) + 1 ≤ 3 by omega) (Nat.le_of_ble_eq_true rfl), Nat.le_trans (show ((0 + t.length) + 4) + 60 ≤ 124 by omega) (Nat.le_of_ble_eq_true rfl)⟩ dX0_asString_37 (fun H6 L6 hP6 hk6 hS => ?_)
    have hZ6 := hS.1
    exact q_a hx hb hr (Or.inl ⟨_, rfl⟩) hlocks dX0_asString_40 hS (by omega) (by omega) trivial
  · refine lv_aload_n hx hb dX0_asString_17 rfl (lv_at hl 1 rfl) ?_
    refine lv_iload_n hx hb dX0_asString_18 rfl (lv_at hl 0 rfl) ?_
    refine lv_aload_n hx hb dX0_asString_19 rfl (lv_at hl 2 rfl) ?_
    refine va_get (D := G.1) (ci := 4) (C := RX0) (T := TX0) (N := 2) hx hb hts inX0 hown hK (at_P hO) 0 rfl rfl 0 (by decide) (hts _ tw_1_44) (fun _ h9 => h9) rfl dX0_asString_20 ?_
    refine lv_iload_n hx hb dX0_asString_23 rfl (lv_at hl 0 rfl) ?_
    refine va_cald hx hb hK (at_P hF) 0 1 rfl rfl (vp_in_nI (n := j) (N := 60) (by omega) (by omega)) dX0_asString_24 ?_
    refine lv_cv (show _ = nI (t.getD j 0) from by rw [nI_clamp (by omega)]; exact hf _ (by omega)) ?_
    have tokj := tok j
    refine h_cst (D := G.1) hx hb hK 1 hFna rfl hS hMna (vp_in_nI (n := j) (N := t.length) (by omega) (by omega)) dX0_asString_25 (fun H7 L7 hFna z7 o7 hS => ?_)
    rw [nI_clamp (n := j) (by omega)] at hFna
    have hO := at_o hO o7 n3hO
    have hF := at_o hF o7 n3hF
    have hZ7 := hS.1
    refine lv_iinc (v := nI (j + 1)) (lv' := [(2, .int (nI (j + 1))), (1, .ref na), (0, .ref a)]) hx hb dX0_asString_26 hl (k := 0) rfl (nI_add j 1) (by decide) rfl (fun ls hl => ?_)
    refine lv_goto (tgt := 9) hx hb dX0_asString_29 (by decide) ?_
    exact ih (j + 1) (by omega) (by omega) ls H7 L7 _ (lv_sub hl [0, 1, 2] rfl) hS hO hF hFna (fun k hk => by rcases Nat.lt_succ_iff_lt_or_eq.mp hk with q | q; rw [pk_un (by omega)]; exact hg k q; rw [q, pk_us, nar_char (by omega)])
end
section
/-! numbers as texts -/
def digs : Nat → Nat → Bool → List Nat
  | 0, _, _ => []
  | k + 1, v, b => (if (b || decide (v / 10 ^ k % 10 ≠ 0) || decide (k = 0)) = true then [48 + v / 10 ^ k % 10] else []) ++ digs k v (b || decide (v / 10 ^ k % 10 ≠ 0) || decide (k = 0))
def numL (x : Int64) : List Nat := (if x < 0 then [45] else []) ++ digs 19 x.toInt.natAbs false
def tnL (k : Nat) : Int64 := if k = 0 then 0 else lN (10 ^ (k - 1))
theorem digs_t {k v d : Nat} {b : Bool} (hd : v / 10 ^ k % 10 = d) (h : (b || decide (d ≠ 0) || decide (k = 0)) = true) : digs (k + 1) v b = [48 + d] ++ digs k v true := by
  subst hd
  show (if (b || decide (v / 10 ^ k % 10 ≠ 0) || decide (k = 0)) = true then [48 + v / 10 ^ k % 10] else []) ++ digs k v (b || decide (v / 10 ^ k % 10 ≠ 0) || decide (k = 0)) = _
  rw [h, if_pos rfl]
theorem digs_f {k v d : Nat} {b : Bool} (hd : v / 10 ^ k % 10 = d) (h : (b || decide (d ≠ 0) || decide (k = 0)) = false) : digs (k + 1) v b = digs k v false := by
  subst hd
  show (if (b || decide (v / 10 ^ k % 10 ≠ 0) || decide (k = 0)) = true then [48 + v / 10 ^ k % 10] else []) ++ digs k v (b || decide (v / 10 ^ k % 10 ≠ 0) || decide (k = 0)) = _
  rw [h, if_neg (by decide)]; rfl
theorem tnL_div {k : Nat} (h : k < 19) : tnL (k + 1) / 10 = tnL k := by
  have q : ∀ x : Fin 19, tnL (x.1 + 1) / 10 = tnL x.1 := by decide +kernel
  exact q ⟨k, h⟩
theorem tnL_cmp0 {k : Nat} (h : k < 19) : lg_cmp (tnL (k + 1)) 0 = 1 := by
  have q : ∀ x : Fin 19, lg_cmp (tnL (x.1 + 1)) 0 = 1 := by decide +kernel
  exact q ⟨k, h⟩
theorem tnL_cmp1 {k : Nat} (h : k < 19) : lg_cmp (tnL (k + 1)) 1 = if k = 0 then 0 else 1 := by
  have q : ∀ x : Fin 19, lg_cmp (tnL (x.1 + 1)) 1 = if x.1 = 0 then 0 else 1 := by decide +kernel
  exact q ⟨k, h⟩
theorem tnL_ne {k : Nat} (h : k < 19) : ¬ tnL (k + 1) = 0 := by
  have q : ∀ x : Fin 19, ¬ tnL (x.1 + 1) = 0 := by decide +kernel
  exact q ⟨k, h⟩
theorem tnL_int {k : Nat} (h : k < 19) : (tnL (k + 1)).toInt = (10 ^ k : Nat) := by
  have q : ∀ x : Fin 19, (tnL (x.1 + 1)).toInt = (10 ^ x.1 : Nat) := by decide +kernel
  exact q ⟨k, h⟩
theorem tdiv_abs (X : Int) (T : Nat) : (X.tdiv T).natAbs ≤ X.natAbs := by
  rw [Int.natAbs_tdiv]; exact Nat.div_le_self _ _
theorem bmod_id {z : Int} (h1 : -9223372036854775808 ≤ z) (h2 : z < 9223372036854775808) : z.bmod (2 ^ 64) = z := by
  apply Int.bmod_eq_of_le <;> omega
theorem bmod_id32 {z : Int} (h1 : -2147483648 ≤ z) (h2 : z < 2147483648) : z.bmod (2 ^ 32) = z := by
  apply Int.bmod_eq_of_le <;> omega
theorem div_int (x y : Int64) (hy : 0 < y.toInt) : (x / y).toInt = x.toInt.tdiv y.toInt :=
  Int64.toInt_div_of_ne_right x y (by rintro rfl; revert hy; decide)
theorem rem_int (x y : Int64) (hy : 0 < y.toInt) : (x - x / y * y).toInt = x.toInt.tmod y.toInt := by
  have hq := div_int x y hy
  have h1 := Int64.le_toInt x
  have h2 := Int64.toInt_lt x
  have e : y.toInt * x.toInt.tdiv y.toInt = x.toInt - x.toInt.tmod y.toInt := by
    have := Int.mul_tdiv_add_tmod x.toInt y.toInt; omega
  have a1 : (x.toInt.tmod y.toInt).natAbs ≤ x.toInt.natAbs := by rw [Int.natAbs_tmod]; exact Nat.mod_le _ _
  have a2 : (y.toInt * x.toInt.tdiv y.toInt).natAbs ≤ x.toInt.natAbs := by
    rw [Int.natAbs_mul, Int.natAbs_tdiv]; exact Nat.mul_div_le _ _
  have e2 : (x / y * y).toInt = y.toInt * x.toInt.tdiv y.toInt := by
    rw [Int64.toInt_mul, hq, Int.mul_comm]
    rcases Int.lt_or_le x.toInt 0 with h | h
    · have h3 : x.toInt.tdiv y.toInt ≤ 0 := by
        have : x.toInt.tdiv y.toInt = -((-x.toInt).tdiv y.toInt) := by rw [Int.neg_tdiv, Int.neg_neg]
        have h5 : 0 ≤ (-x.toInt).tdiv y.toInt := Int.tdiv_nonneg (by omega) (by omega)
        omega
      have h4 : y.toInt * x.toInt.tdiv y.toInt ≤ 0 := Int.mul_nonpos_of_nonneg_of_nonpos (by omega) h3
      exact bmod_id (by omega) (by omega)
    · have h4 : 0 ≤ y.toInt * x.toInt.tdiv y.toInt := Int.mul_nonneg (by omega) (Int.tdiv_nonneg h (by omega))
      exact bmod_id (by omega) (by omega)
  rw [Int64.toInt_sub, e2, e]
  rcases Int.lt_or_le x.toInt 0 with h | h
  · have h3 : x.toInt.tmod y.toInt ≤ 0 := by
      have : x.toInt.tmod y.toInt = -((-x.toInt).tmod y.toInt) := by rw [Int.neg_tmod, Int.neg_neg]
      have h5 : 0 ≤ (-x.toInt).tmod y.toInt := Int.tmod_nonneg _ (by omega)
      omega
    rw [bmod_id (by omega) (by omega)]; omega
  · have h3 : 0 ≤ x.toInt.tmod y.toInt := Int.tmod_nonneg _ h
    rw [bmod_id (by omega) (by omega)]; omega
theorem dig_eq (x : Int64) {k : Nat} (hk : k < 19) : (if 0 ≤ (x / tnL (k + 1) - x / tnL (k + 1) / 10 * 10).toInt32 then (x / tnL (k + 1) - x / tnL (k + 1) / 10 * 10).toInt32 else 0 - (x / tnL (k + 1) - x / tnL (k + 1) / 10 * 10).toInt32) = nI (x.toInt.natAbs / 10 ^ k % 10) := by
  have h0 := tnL_int hk
  have hp : 0 < 10 ^ k := Nat.pow_pos (by decide)
  have h1 := div_int x (tnL (k + 1)) (by rw [h0]; exact_mod_cast hp)
  have h2 := rem_int (x / tnL (k + 1)) 10 (by decide)
  have h3 : (x / tnL (k + 1)).toInt.natAbs = x.toInt.natAbs / 10 ^ k := by rw [h1, h0, Int.natAbs_tdiv]; rfl
  have h4 : ((x / tnL (k + 1)).toInt.tmod 10).natAbs = x.toInt.natAbs / 10 ^ k % 10 := by rw [Int.natAbs_tmod, h3]; rfl
  generalize hr : x / tnL (k + 1) - x / tnL (k + 1) / 10 * 10 = r at *
  have h5 : r.toInt = (x / tnL (k + 1)).toInt.tmod 10 := h2
  rw [← h5] at h4
  have h6 : x.toInt.natAbs / 10 ^ k % 10 < 10 := Nat.mod_lt _ (by decide)
  have h7 : r.toInt32.toInt = r.toInt := by rw [Int64.toInt_toInt32]; exact bmod_id32 (by omega) (by omega)
  rw [← h4]
  split
  · next h =>
    rw [Int32.le_iff_toInt_le, h7] at h
    have h8 : (0 : Int) ≤ r.toInt := h
    rw [← Int32.toInt_inj, h7, nI_toInt (by omega)]; omega
  · next h =>
    rw [Int32.le_iff_toInt_le, h7] at h
    have h8 : ¬ (0 : Int) ≤ r.toInt := h
    rw [Int32.zero_sub, ← Int32.toInt_inj, Int32.toInt_neg, h7, nI_toInt (by omega)]
    rw [bmod_id32 (by omega) (by omega)]; omega
theorem lt0_cmp (x : Int64) : 0 ≤ lg_cmp x 0 ↔ ¬ x < 0 := by
  have z : (0 : Int64).toInt = 0 := rfl
  have e1 : x > 0 ↔ 0 < x.toInt := by rw [gt_iff_lt, Int64.lt_iff_toInt_lt, z]
  have e2 : x < 0 ↔ x.toInt < 0 := by rw [Int64.lt_iff_toInt_lt, z]
  have e3 : x = 0 ↔ x.toInt = 0 := by rw [← Int64.toInt_inj, z]
  unfold lg_cmp
  rw [e2]
  by_cases h : x > 0
  · rw [if_pos h]; rw [e1] at h; exact ⟨fun _ => by omega, fun _ => by decide⟩
  · rw [if_neg h]
    by_cases h2 : x = 0
    · rw [if_pos h2]; rw [e3] at h2; exact ⟨fun _ => by omega, fun _ => by decide⟩
    · rw [if_neg h2]; rw [e1] at h; rw [e3] at h2; exact ⟨fun q => absurd q (by decide), fun q => absurd (show x.toInt < 0 by omega) q⟩
theorem dX0_addNumber_0 : decode cX0_addNumber 0 = .ok (.lload_n 1, 1) := by decide +kernel
theorem dX0_addNumber_1 : decode cX0_addNumber 1 = .ok (.lconst 0, 1) := by decide +kernel
theorem dX0_addNumber_2 : decode cX0_addNumber 2 = .ok (.lcmp, 1) := by decide +kernel
theorem dX0_addNumber_3 : decode cX0_addNumber 3 = .ok (.ifCond .ge 9, 3) := by decide +kernel
theorem dX0_addNumber_6 : decode cX0_addNumber 6 = .ok (.aload_n 0, 1) := by decide +kernel
theorem dX0_addNumber_7 : decode cX0_addNumber 7 = .ok (.bipush 45, 2) := by decide +kernel
theorem dX0_addNumber_9 : decode cX0_addNumber 9 = .ok (.invokevirtual 23, 3) := by decide +kernel
theorem dX0_addNumber_12 : decode cX0_addNumber 12 = .ok (.iconst 0, 1) := by decide +kernel
theorem dX0_addNumber_13 : decode cX0_addNumber 13 = .ok (.istore_n 3, 1) := by decide +kernel
theorem dX0_addNumber_14 : decode cX0_addNumber 14 = .ok (.ldc2_w 44, 3) := by decide +kernel
theorem dX0_addNumber_17 : decode cX0_addNumber 17 = .ok (.lstore 4, 2) := by decide +kernel
theorem dX0_addNumber_19 : decode cX0_addNumber 19 = .ok (.lload 4, 2) := by decide +kernel
theorem dX0_addNumber_21 : decode cX0_addNumber 21 = .ok (.lconst 0, 1) := by decide +kernel
theorem dX0_addNumber_22 : decode cX0_addNumber 22 = .ok (.lcmp, 1) := by decide +kernel
theorem dX0_addNumber_23 : decode cX0_addNumber 23 = .ok (.ifCond .le 63, 3) := by decide +kernel
theorem dX0_addNumber_26 : decode cX0_addNumber 26 = .ok (.lload_n 1, 1) := by decide +kernel
theorem dX0_addNumber_27 : decode cX0_addNumber 27 = .ok (.lload 4, 2) := by decide +kernel
theorem dX0_addNumber_29 : decode cX0_addNumber 29 = .ok (.ldiv, 1) := by decide +kernel
theorem dX0_addNumber_30 : decode cX0_addNumber 30 = .ok (.ldc2_w 46, 3) := by decide +kernel
theorem dX0_addNumber_33 : decode cX0_addNumber 33 = .ok (.lrem, 1) := by decide +kernel
theorem dX0_addNumber_34 : decode cX0_addNumber 34 = .ok (.l2i, 1) := by decide +kernel
theorem dX0_addNumber_35 : decode cX0_addNumber 35 = .ok (.invokestatic 48, 3) := by decide +kernel
theorem dX0_addNumber_38 : decode cX0_addNumber 38 = .ok (.istore 6, 2) := by decide +kernel
theorem dX0_addNumber_40 : decode cX0_addNumber 40 = .ok (.iload_n 3, 1) := by decide +kernel
theorem dX0_addNumber_41 : decode cX0_addNumber 41 = .ok (.ifCond .ne 15, 3) := by decide +kernel
theorem dX0_addNumber_44 : decode cX0_addNumber 44 = .ok (.iload 6, 2) := by decide +kernel
theorem dX0_addNumber_46 : decode cX0_addNumber 46 = .ok (.ifCond .ne 10, 3) := by decide +kernel
theorem dX0_addNumber_49 : decode cX0_addNumber 49 = .ok (.lload 4, 2) := by decide +kernel
theorem dX0_addNumber_51 : decode cX0_addNumber 51 = .ok (.lconst 1, 1) := by decide +kernel
theorem dX0_addNumber_52 : decode cX0_addNumber 52 = .ok (.lcmp, 1) := by decide +kernel
theorem dX0_addNumber_53 : decode cX0_addNumber 53 = .ok (.ifCond .ne 7, 3) := by decide +kernel
theorem dX0_addNumber_56 : decode cX0_addNumber 56 = .ok (.iconst 1, 1) := by decide +kernel
theorem dX0_addNumber_57 : decode cX0_addNumber 57 = .ok (.goto 4, 3) := by decide +kernel
theorem dX0_addNumber_60 : decode cX0_addNumber 60 = .ok (.iconst 0, 1) := by decide +kernel
theorem dX0_addNumber_61 : decode cX0_addNumber 61 = .ok (.istore_n 3, 1) := by decide +kernel
theorem dX0_addNumber_62 : decode cX0_addNumber 62 = .ok (.iload_n 3, 1) := by decide +kernel
theorem dX0_addNumber_63 : decode cX0_addNumber 63 = .ok (.ifCond .eq 12, 3) := by decide +kernel
theorem dX0_addNumber_66 : decode cX0_addNumber 66 = .ok (.aload_n 0, 1) := by decide +kernel
theorem dX0_addNumber_67 : decode cX0_addNumber 67 = .ok (.bipush 48, 2) := by decide +kernel
theorem dX0_addNumber_69 : decode cX0_addNumber 69 = .ok (.iload 6, 2) := by decide +kernel
theorem dX0_addNumber_71 : decode cX0_addNumber 71 = .ok (.iadd, 1) := by decide +kernel
theorem dX0_addNumber_72 : decode cX0_addNumber 72 = .ok (.invokevirtual 23, 3) := by decide +kernel
theorem dX0_addNumber_75 : decode cX0_addNumber 75 = .ok (.lload 4, 2) := by decide +kernel
theorem dX0_addNumber_77 : decode cX0_addNumber 77 = .ok (.ldc2_w 46, 3) := by decide +kernel
theorem dX0_addNumber_80 : decode cX0_addNumber 80 = .ok (.ldiv, 1) := by decide +kernel
theorem dX0_addNumber_81 : decode cX0_addNumber 81 = .ok (.lstore 4, 2) := by decide +kernel
theorem dX0_addNumber_83 : decode cX0_addNumber 83 = .ok (.goto (-64), 3) := by decide +kernel
theorem dX0_addNumber_86 : decode cX0_addNumber 86 = .ok (.return_, 1) := by decide +kernel
abbrev rmX0_addNumber : Room := { frames := 2, cells := 0, slots := 0, locals := 41 }
theorem mX0_addNumber {l : Launch} {G : Cx} {A : Nat → Prop} {a ca : Nat} {t : List Nat} {x : Int64} (hAa : A a) (hAca : A ca) : Met l yX0_addNumber (.code yX0_addNumber cX0_addNumber 7 (none : Option Jvm.ClassFile.FieldType) :: GW) rmX0_addNumber (PC G A [.ref a, .long x] (LA G a ca t)) (qV A (LA G a ca ((t ++ numL x).take 60))) 0 0 (A) := by
  refine mstart "Signtext$Line" (by decide +kernel) rfl (Nat.le_of_ble_eq_true rfl) ?_
  intro p e s m below meth c ls hx hb hr hts hown hml hlocks hname hC hA hW hl
  have hl : lv_has ls 7 [(0, .ref a), (1, .long x)] := hl
  have hK := hC.1
  have hS : va_S A s.heap s.heap [] := va_S.rf
  have t60 := hW.1
  refine lv_lload_n hx hb dX0_addNumber_0 rfl (lv_at hl 1 rfl) ?_
  refine lv_lconst (v := 0) hx hb dX0_addNumber_1 (by decide) ?_
  refine W.lcmp hx hb dX0_addNumber_2 ?_
  have rest : ∀ j : Nat, ∀ (ls : Array Slot) (b : Bool) (w : List Nat) (H : Heap) (L : List Loc), lv_has ls 7 [(4, .long (tnL j)), (3, .int (bI b)), (0, .ref a), (1, .long x)] → j ≤ 19 → va_S A s.heap H L → LA G a ca w H → (w ++ digs j x.toInt.natAbs b).take 60 = ((t ++ (if x < 0 then [45] else [])).take 60 ++ digs 19 x.toInt.natAbs false).take 60 → W p l e rmX0_addNumber s m [.ref a, .long x].toArray below meth c H L 0 0 (MQ below (qV A (LA G a ca ((t ++ numL x).take 60))) [.ref a, .long x].toArray s 0 0 (A)) (F0 m 19 ls []) := by
    refine dloop ?_
    clear hS hl hW
    intro j ih ls b w H L hl hj hS hW hF
    have hZ0 := hS.1
    cases j with
    | zero =>
      have hl : lv_has ls 7 [(4, .long 0), (3, .int (bI b)), (0, .ref a), (1, .long x)] := hl
      refine lv_lload hx hb dX0_addNumber_19 (lv_at hl 0 rfl) ?_
      refine lv_lconst (v := 0) hx hb dX0_addNumber_21 (by decide) ?_
      refine W.lcmp hx hb dX0_addNumber_22 ?_
      refine lv_if_le (tgt := 86) hx hb dX0_addNumber_23 (by decide) (fun _ => ?_) (fun q => absurd (by decide) q)
      exact q_v hx hb hr hlocks dX0_addNumber_86 hS (Nat.le_refl _) (Nat.le_refl _) (by have h8 : (w ++ digs 0 x.toInt.natAbs b).take 60 = w := (show (w ++ []).take 60 = w by rw [List.append_nil, List.take_of_length_le hW.1]); rw [h8] at hF; rw [numL, ← List.append_assoc, ← take_take60, ← hF]; exact hW)
    | succ k =>
      refine lv_lload hx hb dX0_addNumber_19 (lv_at hl 0 rfl) ?_
      refine lv_lconst (v := 0) hx hb dX0_addNumber_21 (by decide) ?_
      refine W.lcmp hx hb dX0_addNumber_22 ?_
      rw [tnL_cmp0 (by omega)]
      refine lv_if_le (tgt := 86) hx hb dX0_addNumber_23 (by decide) (fun q => absurd q (by decide)) (fun _ => ?_)
      refine lv_lload_n hx hb dX0_addNumber_26 rfl (lv_at hl 3 rfl) ?_
      refine lv_lload hx hb dX0_addNumber_27 (lv_at hl 0 rfl) ?_
      refine lv_ldiv hx hb dX0_addNumber_29 (tnL_ne (by omega)) ?_
      refine lv_ldc2 (v := 10) hx hb hown (hts _ tw_3_123) dX0_addNumber_30 ?_
      refine lv_lrem hx hb dX0_addNumber_33 (by decide) ?_
      refine lv_l2i hx hb dX0_addNumber_34 rfl ?_
      refine va_mabs hx hb (hml.trans hl.1.symm) hown (hts _ tw_3_124) (hts _ tw_3_125) (hts _ tw_1_19) (hts _ tw_3_126) (Nat.le_of_ble_eq_true rfl) (Nat.le_of_ble_eq_true rfl) (Nat.zero_le _) (Nat.zero_le _) dX0_addNumber_35 ?_
      refine lv_cv (dig_eq x (by omega)) ?_
      have d10 : x.toInt.natAbs / 10 ^ k % 10 < 10 := Nat.mod_lt _ (by decide)
      generalize hd9 : x.toInt.natAbs / 10 ^ k % 10 = d9 at d10 ⊢
      refine lv_istore (lv' := [(6, .int (nI d9)), (4, .long (tnL (k + 1))), (3, .int (bI b)), (0, .ref a), (1, .long x)]) hx hb dX0_addNumber_38 hl (by decide) rfl (fun ls hl => ?_)
      refine lv_iload_n hx hb dX0_addNumber_40 rfl (lv_at hl 2 rfl) ?_
      refine f_ne (tgt := 56) hx hb dX0_addNumber_41 (by decide) (fun c_1 => ?_) (fun c_1 => ?_)
      · refine lv_iconst (v := nI 1) hx hb dX0_addNumber_56 (by decide) ?_
        refine lv_goto (tgt := 61) hx hb dX0_addNumber_57 (by decide) ?_
        refine lv_istore_n (lv' := [(3, .int (bI true)), (6, .int (nI d9)), (4, .long (tnL (k + 1))), (0, .ref a), (1, .long x)]) hx hb dX0_addNumber_61 rfl hl (by decide) rfl (fun ls hl => ?_)
        refine lv_iload_n hx hb dX0_addNumber_62 rfl (lv_at hl 0 rfl) ?_
        refine f_eq (tgt := 75) hx hb dX0_addNumber_63 (by decide) (fun c_2 => ?_) (fun c_2 => ?_)
        · exact absurd c_2 (by decide)
        · refine lv_aload_n hx hb dX0_addNumber_66 rfl (lv_at hl 3 rfl) ?_
          refine lv_bipush (v := nI 48) hx hb dX0_addNumber_67 (by decide) ?_
          refine lv_iload hx hb dX0_addNumber_69 (lv_at hl 1 rfl) ?_
          refine lv_iadd hx hb dX0_addNumber_71 ?_
          refine lv_cv (nI_add 48 d9) ?_
          refine qV_V (A := A) (A1 := ow a ca H.size) (b := a) (As := [.int (nI (48 + d9))]) (rest := []) ⟨hx, hb, hml, hown, hts⟩ (mX0_addCode (A := ow a ca H.size) (ca := ca) (k0 := 48 + d9) (Or.inl rfl) (Or.inr (Or.inl rfl)) (by omega)) (cwV 1 hts (gV tw_1_133 tw_1_134 tw_1_135 tw_1_2 tw_1_136) rfl rfl rfl (by decide +kernel) ⟨Nat.le_of_ble_eq_true rfl, Nat.le_of_ble_eq_true rfl⟩) hC hS (ow_in hAa hAca hA hZ0) ow_n (hW.recv hK) hW rfl rfl hl.1 (Nat.le_of_ble_eq_true rfl) ⟨Nat.zero_le _, Nat.zero_le _⟩ dX0_addNumber_72 (fun H3 L3 hP3 hk3 hS => ?_)
          have hZ3 := hS.1
          refine lv_lload hx hb dX0_addNumber_75 (lv_at hl 2 rfl) ?_
          refine lv_ldc2 (v := 10) hx hb hown (hts _ tw_3_123) dX0_addNumber_77 ?_
          refine lv_ldiv hx hb dX0_addNumber_80 (by decide) ?_
          refine lv_cvl (tnL_div (by omega)) ?_
          refine lv_lstore (lv' := [(4, .long (tnL k)), (3, .int (bI true)), (6, .int (nI d9)), (0, .ref a), (1, .long x)]) hx hb dX0_addNumber_81 hl (by decide) rfl (fun ls hl => ?_)
          refine lv_goto (tgt := 19) hx hb dX0_addNumber_83 (by decide) ?_
          exact ih k (Nat.lt_succ_self k) ls true _ H3 L3 (lv_sub hl [0, 1, 3, 4] rfl) (by omega) hS hP3 (by rw [← hF, take_take60, List.append_assoc, digs_t hd9 (by rw [c_1]; rfl)])
      · refine lv_iload hx hb dX0_addNumber_44 (lv_at hl 0 rfl) ?_
        refine z_ne (tgt := 56) hx hb dX0_addNumber_46 (by decide) (by omega) (fun c_4 => ?_) (fun c_4 => ?_)
        · refine lv_iconst (v := nI 1) hx hb dX0_addNumber_56 (by decide) ?_
          refine lv_goto (tgt := 61) hx hb dX0_addNumber_57 (by decide) ?_
          refine lv_istore_n (lv' := [(3, .int (bI true)), (6, .int (nI d9)), (4, .long (tnL (k + 1))), (0, .ref a), (1, .long x)]) hx hb dX0_addNumber_61 rfl hl (by decide) rfl (fun ls hl => ?_)
          refine lv_iload_n hx hb dX0_addNumber_62 rfl (lv_at hl 0 rfl) ?_
          refine f_eq (tgt := 75) hx hb dX0_addNumber_63 (by decide) (fun c_5 => ?_) (fun c_5 => ?_)
          · exact absurd c_5 (by decide)
          · refine lv_aload_n hx hb dX0_addNumber_66 rfl (lv_at hl 3 rfl) ?_
            refine lv_bipush (v := nI 48) hx hb dX0_addNumber_67 (by decide) ?_
            refine lv_iload hx hb dX0_addNumber_69 (lv_at hl 1 rfl) ?_
            refine lv_iadd hx hb dX0_addNumber_71 ?_
            refine lv_cv (nI_add 48 d9) ?_
            refine qV_V (A := A) (A1 := ow a ca H.size) (b := a) (As := [.int (nI (48 + d9))]) (rest := []) ⟨hx, hb, hml, hown, hts⟩ (mX0_addCode (A := ow a ca H.size) (ca := ca) (k0 := 48 + d9) (Or.inl rfl) (Or.inr (Or.inl rfl)) (by omega)) (cwV 1 hts (gV tw_1_133 tw_1_134 tw_1_135 tw_1_2 tw_1_136) rfl rfl rfl (by decide +kernel) ⟨Nat.le_of_ble_eq_true rfl, Nat.le_of_ble_eq_true rfl⟩) hC hS (ow_in hAa hAca hA hZ0) ow_n (hW.recv hK) hW rfl rfl hl.1 (Nat.le_of_ble_eq_true rfl) ⟨Nat.zero_le _, Nat.zero_le _⟩ dX0_addNumber_72 (fun H6 L6 hP6 hk6 hS => ?_)
            have hZ6 := hS.1
            refine lv_lload hx hb dX0_addNumber_75 (lv_at hl 2 rfl) ?_
            refine lv_ldc2 (v := 10) hx hb hown (hts _ tw_3_123) dX0_addNumber_77 ?_
            refine lv_ldiv hx hb dX0_addNumber_80 (by decide) ?_
            refine lv_cvl (tnL_div (by omega)) ?_
            refine lv_lstore (lv' := [(4, .long (tnL k)), (3, .int (bI true)), (6, .int (nI d9)), (0, .ref a), (1, .long x)]) hx hb dX0_addNumber_81 hl (by decide) rfl (fun ls hl => ?_)
            refine lv_goto (tgt := 19) hx hb dX0_addNumber_83 (by decide) ?_
            exact ih k (Nat.lt_succ_self k) ls true _ H6 L6 (lv_sub hl [0, 1, 3, 4] rfl) (by omega) hS hP6 (by rw [← hF, take_take60, List.append_assoc, digs_t hd9 (by simp [c_4])])
        · refine lv_lload hx hb dX0_addNumber_49 (lv_at hl 1 rfl) ?_
          refine lv_lconst (v := 1) hx hb dX0_addNumber_51 (by decide) ?_
          refine W.lcmp hx hb dX0_addNumber_52 ?_
          rw [tnL_cmp1 (by omega)]
          refine lv_if_ne (tgt := 60) hx hb dX0_addNumber_53 (by decide) (fun c_7 => ?_) (fun c_7 => ?_)
          · refine lv_iconst (v := nI 0) hx hb dX0_addNumber_60 (by decide) ?_
            refine lv_istore_n (lv' := [(3, .int (bI false)), (6, .int (nI d9)), (4, .long (tnL (k + 1))), (0, .ref a), (1, .long x)]) hx hb dX0_addNumber_61 rfl hl (by decide) rfl (fun ls hl => ?_)
            refine lv_iload_n hx hb dX0_addNumber_62 rfl (lv_at hl 0 rfl) ?_
            refine f_eq (tgt := 75) hx hb dX0_addNumber_63 (by decide) (fun c_8 => ?_) (fun c_8 => ?_)
            · refine lv_lload hx hb dX0_addNumber_75 (lv_at hl 2 rfl) ?_
              refine lv_ldc2 (v := 10) hx hb hown (hts _ tw_3_123) dX0_addNumber_77 ?_
              refine lv_ldiv hx hb dX0_addNumber_80 (by decide) ?_
              refine lv_cvl (tnL_div (by omega)) ?_
              refine lv_lstore (lv' := [(4, .long (tnL k)), (3, .int (bI false)), (6, .int (nI d9)), (0, .ref a), (1, .long x)]) hx hb dX0_addNumber_81 hl (by decide) rfl (fun ls hl => ?_)
              refine lv_goto (tgt := 19) hx hb dX0_addNumber_83 (by decide) ?_
              exact ih k (Nat.lt_succ_self k) ls false _ H L (lv_sub hl [0, 1, 3, 4] rfl) (by omega) hS hW (by rw [← hF, digs_f hd9 (by have k0 : k ≠ 0 := fun q => c_7 (if_pos q); rw [c_1, c_4]; simp [k0])])
            · exact absurd c_8 (by decide)
          · refine lv_iconst (v := nI 1) hx hb dX0_addNumber_56 (by decide) ?_
            refine lv_goto (tgt := 61) hx hb dX0_addNumber_57 (by decide) ?_
            refine lv_istore_n (lv' := [(3, .int (bI true)), (6, .int (nI d9)), (4, .long (tnL (k + 1))), (0, .ref a), (1, .long x)]) hx hb dX0_addNumber_61 rfl hl (by decide) rfl (fun ls hl => ?_)
            refine lv_iload_n hx hb dX0_addNumber_62 rfl (lv_at hl 0 rfl) ?_
            refine f_eq (tgt := 75) hx hb dX0_addNumber_63 (by decide) (fun c_9 => ?_) (fun c_9 => ?_)
            · exact absurd c_9 (by decide)
            · refine lv_aload_n hx hb dX0_addNumber_66 rfl (lv_at hl 3 rfl) ?_
              refine lv_bipush (v := nI 48) hx hb dX0_addNumber_67 (by decide) ?_
              refine lv_iload hx hb dX0_addNumber_69 (lv_at hl 1 rfl) ?_
              refine lv_iadd hx hb dX0_addNumber_71 ?_
              refine lv_cv (nI_add 48 d9) ?_
              refine qV_V (A := A) (A1 := ow a ca H.size) (b := a) (As := [.int (nI (48 + d9))]) (rest := []) ⟨hx, hb, hml, hown, hts⟩ (mX0_addCode (A := ow a ca H.size) (ca := ca) (k0 := 48 + d9) (Or.inl rfl) (Or.inr (Or.inl rfl)) (by omega)) (cwV 1 hts (gV tw_1_133 tw_1_134 tw_1_135 tw_1_2 tw_1_136) rfl rfl rfl (by decide +kernel) ⟨Nat.le_of_ble_eq_true rfl, Nat.le_of_ble_eq_true rfl⟩) hC hS (ow_in hAa hAca hA hZ0) ow_n (hW.recv hK) hW rfl rfl hl.1 (Nat.le_of_ble_eq_true rfl) ⟨Nat.zero_le _, Nat.zero_le _⟩ dX0_addNumber_72 (fun H10 L10 hP10 hk10 hS => ?_)
              have hZ10 := hS.1
              refine lv_lload hx hb dX0_addNumber_75 (lv_at hl 2 rfl) ?_
              refine lv_ldc2 (v := 10) hx hb hown (hts _ tw_3_123) dX0_addNumber_77 ?_
              refine lv_ldiv hx hb dX0_addNumber_80 (by decide) ?_
              refine lv_cvl (tnL_div (by omega)) ?_
              refine lv_lstore (lv' := [(4, .long (tnL k)), (3, .int (bI true)), (6, .int (nI d9)), (0, .ref a), (1, .long x)]) hx hb dX0_addNumber_81 hl (by decide) rfl (fun ls hl => ?_)
              refine lv_goto (tgt := 19) hx hb dX0_addNumber_83 (by decide) ?_
              exact ih k (Nat.lt_succ_self k) ls true _ H10 L10 (lv_sub hl [0, 1, 3, 4] rfl) (by omega) hS hP10 (by rw [← hF, take_take60, List.append_assoc, digs_t hd9 (by have k0 : k = 0 := Decidable.byContradiction (fun q => absurd ((if_neg q).symm.trans c_7) (by decide)); rw [k0]; simp)])
  refine lv_if_ge (tgt := 12) hx hb dX0_addNumber_3 (by decide) (fun c_11 => ?_) (fun c_11 => ?_)
  · have c9 : ¬ x < 0 := (lt0_cmp x).mp c_11
    refine lv_iconst (v := nI 0) hx hb dX0_addNumber_12 (by decide) ?_
    refine lv_istore_n (lv' := [(3, .int (nI 0)), (0, .ref a), (1, .long x)]) hx hb dX0_addNumber_13 rfl hl (by decide) rfl (fun ls hl => ?_)
    refine lv_ldc2 (v := 1000000000000000000) hx hb hown (hts _ tw_3_122) dX0_addNumber_14 ?_
    refine lv_lstore (lv' := [(4, .long 1000000000000000000), (3, .int (nI 0)), (0, .ref a), (1, .long x)]) hx hb dX0_addNumber_17 hl (by decide) rfl (fun ls hl => ?_)
    exact rest 19 ls false (t) s.heap [] hl (Nat.le_refl _) hS hW (by rw [if_neg c9, List.append_nil, List.take_of_length_le t60])
  · have c9 : x < 0 := Decidable.byContradiction (fun q => c_11 ((lt0_cmp x).mpr q))
    refine lv_aload_n hx hb dX0_addNumber_6 rfl (lv_at hl 0 rfl) ?_
    refine lv_bipush (v := nI 45) hx hb dX0_addNumber_7 (by decide) ?_
    refine qV_V (A := A) (A1 := ow a ca s.heap.size) (b := a) (As := [.int (nI 45)]) (rest := []) ⟨hx, hb, hml, hown, hts⟩ (mX0_addCode (A := ow a ca s.heap.size) (ca := ca) (k0 := 45) (Or.inl rfl) (Or.inr (Or.inl rfl)) (by decide)) (cwV 1 hts (gV tw_1_133 tw_1_134 tw_1_135 tw_1_2 tw_1_136) rfl rfl rfl (by decide +kernel) ⟨Nat.le_of_ble_eq_true rfl, Nat.le_of_ble_eq_true rfl⟩) hC hS (ow_in hAa hAca hA (Nat.le_refl _)) ow_n (hW.recv hK) hW rfl rfl hl.1 (Nat.le_of_ble_eq_true rfl) ⟨Nat.zero_le _, Nat.zero_le _⟩ dX0_addNumber_9 (fun H12 L12 hP12 hk12 hS => ?_)
    have hZ12 := hS.1
    refine lv_iconst (v := nI 0) hx hb dX0_addNumber_12 (by decide) ?_
    refine lv_istore_n (lv' := [(3, .int (nI 0)), (0, .ref a), (1, .long x)]) hx hb dX0_addNumber_13 rfl hl (by decide) rfl (fun ls hl => ?_)
    refine lv_ldc2 (v := 1000000000000000000) hx hb hown (hts _ tw_3_122) dX0_addNumber_14 ?_
    refine lv_lstore (lv' := [(4, .long 1000000000000000000), (3, .int (nI 0)), (0, .ref a), (1, .long x)]) hx hb dX0_addNumber_17 hl (by decide) rfl (fun ls hl => ?_)
    exact rest 19 ls false ((t ++ [45]).take 60) H12 L12 hl (Nat.le_refl _) hS hP12 (by rw [if_pos c9])
end
section
/-! Pieces -/
theorem sel_X2_isSoundAlone : Cond.selects "Signtext" yX2_isSoundAlone yX2_isSoundAlone ∈ GW := gw_of (List.mem_append_left _ (List.mem_of_getElem? (i := 0) rfl)) rfl
theorem sel_X2_isSameTakenAgain : Cond.selects "Signtext" yX2_isSameTakenAgain yX2_isSameTakenAgain ∈ GW := gw_of (List.mem_append_left _ (List.mem_of_getElem? (i := 1) rfl)) rfl
theorem sel_X2_isSameInTwoParts : Cond.selects "Signtext" yX2_isSameInTwoParts yX2_isSameInTwoParts ∈ GW := gw_of (List.mem_append_left _ (List.mem_of_getElem? (i := 2) rfl)) rfl
theorem sel_X2_isSameTrimmedAgain : Cond.selects "Signtext" yX2_isSameTrimmedAgain yX2_isSameTrimmedAgain ∈ GW := gw_of (List.mem_append_left _ (List.mem_of_getElem? (i := 3) rfl)) rfl
theorem sel_X2_partInto : Cond.selects "Signtext" yX2_partInto yX2_partInto ∈ GW := gw_of (List.mem_append_left _ (List.mem_of_getElem? (i := 4) rfl)) rfl
theorem sel_X2_isSameOfPieces : Cond.selects "Signtext" yX2_isSameOfPieces yX2_isSameOfPieces ∈ GW := gw_of (List.mem_append_left _ (List.mem_of_getElem? (i := 5) rfl)) rfl
theorem sel_X1_addEnd : Cond.selects "Signtext$Pieces" yX1_addEnd yX1_addEnd ∈ GW := gw_of (List.mem_append_left _ (List.mem_of_getElem? (i := 6) rfl)) rfl
theorem sel_X2_signsOfAll : Cond.selects "Signtext" yX2_signsOfAll yX2_signsOfAll ∈ GW := gw_of (List.mem_append_left _ (List.mem_of_getElem? (i := 7) rfl)) rfl
theorem sel_X2_emptyOnes : Cond.selects "Signtext" yX2_emptyOnes yX2_emptyOnes ∈ GW := gw_of (List.mem_append_left _ (List.mem_of_getElem? (i := 8) rfl)) rfl
theorem sel_X2_textOf : Cond.selects "Signtext" yX2_textOf yX2_textOf ∈ GW := gw_of (List.mem_append_left _ (List.mem_of_getElem? (i := 10) rfl)) rfl
theorem sel_X2_addSignOrNone : Cond.selects "Signtext" yX2_addSignOrNone yX2_addSignOrNone ∈ GW := gw_of (List.mem_append_left _ (List.mem_of_getElem? (i := 11) rfl)) rfl
theorem sel_X2_joinInto : Cond.selects "Signtext" yX2_joinInto yX2_joinInto ∈ GW := gw_of (List.mem_append_left _ (List.mem_of_getElem? (i := 12) rfl)) rfl
theorem sel_X2_addMade : Cond.selects "Signtext" yX2_addMade yX2_addMade ∈ GW := gw_of (List.mem_append_left _ (List.mem_of_getElem? (i := 13) rfl)) rfl
theorem sel_X2_knownOf : Cond.selects "Signtext" yX2_knownOf yX2_knownOf ∈ GW := gw_of (List.mem_append_left _ (List.mem_of_getElem? (i := 14) rfl)) rfl
theorem sel_X2_needPiece : Cond.selects "Signtext" yX2_needPiece yX2_needPiece ∈ GW := gw_of (List.mem_append_left _ (List.mem_of_getElem? (i := 15) rfl)) rfl
theorem sel_X2_pieceInto : Cond.selects "Signtext" yX2_pieceInto yX2_pieceInto ∈ GW := gw_of (List.mem_append_left _ (List.mem_of_getElem? (i := 16) rfl)) rfl
theorem sel_X4_start : Cond.selects "SigntextModel" yX4_start yX4_start ∈ GW := gw_of (List.mem_append_left _ (List.mem_of_getElem? (i := 17) rfl)) rfl
theorem sel_X4_refuse : Cond.selects "SigntextModel" yX4_refuse yX4_refuse ∈ GW := gw_of (List.mem_append_left _ (List.mem_of_getElem? (i := 18) rfl)) rfl
theorem sel_X4_become : Cond.selects "SigntextModel" yX4_become yX4_become ∈ GW := gw_of (List.mem_append_left _ (List.mem_of_getElem? (i := 19) rfl)) rfl
theorem sel_X4_beside : Cond.selects "SigntextModel" yX4_beside yX4_beside ∈ GW := gw_of (List.mem_append_left _ (List.mem_of_getElem? (i := 20) rfl)) rfl
theorem sel_X4_isNoPlace : Cond.selects "SigntextModel" yX4_isNoPlace yX4_isNoPlace ∈ GW := gw_of (List.mem_append_left _ (List.mem_of_getElem? (i := 21) rfl)) rfl
theorem sel_Jx4a65c_add_72be8 : Cond.selects "java/util/ArrayList" yJx4a65c_add_72be8 yJx4a65c_add_72be8 ∈ GW := gw_of (List.mem_append_left _ (List.mem_of_getElem? (i := 22) rfl)) rfl
theorem sel_Jx4a65c_grow_d5877 : Cond.selects "java/util/ArrayList" yJx4a65c_grow_d5877 yJx4a65c_grow_d5877 ∈ GW := gw_of (List.mem_append_left _ (List.mem_of_getElem? (i := 23) rfl)) rfl
theorem sel_Jx4a65c_grow_92f84 : Cond.selects "java/util/ArrayList" yJx4a65c_grow_92f84 yJx4a65c_grow_92f84 ∈ GW := gw_of (List.mem_append_left _ (List.mem_of_getElem? (i := 24) rfl)) rfl
theorem sel_Jx4a65c_fastRemove_b59b0 : Cond.selects "java/util/ArrayList" yJx4a65c_fastRemove_b59b0 yJx4a65c_fastRemove_b59b0 ∈ GW := gw_of (List.mem_append_left _ (List.mem_of_getElem? (i := 25) rfl)) rfl
theorem sel_X4_isNoPiece : Cond.selects "SigntextModel" yX4_isNoPiece yX4_isNoPiece ∈ GW := gw_of (List.mem_append_left _ (List.mem_of_getElem? (i := 26) rfl)) rfl
theorem sel_X4_areNone : Cond.selects "SigntextModel" yX4_areNone yX4_areNone ∈ GW := gw_of (List.mem_append_left _ (List.mem_of_getElem? (i := 27) rfl)) rfl
theorem sel_X4_houseTold : Cond.selects "SigntextModel" yX4_houseTold yX4_houseTold ∈ GW := gw_of (List.mem_append_left _ (List.mem_of_getElem? (i := 28) rfl)) rfl
theorem sel_X4_isTrue : Cond.selects "SigntextModel" yX4_isTrue yX4_isTrue ∈ GW := gw_of (List.mem_append_left _ (List.mem_of_getElem? (i := 29) rfl)) rfl
/-- where a piece begins -/
def bgE (es : List Nat) : Nat → Nat
  | 0 => 0
  | k + 1 => es.getD k 0 + 1
def okE (t es : List Nat) : Prop := ∀ k : Nat, k < es.length → bgE es k ≤ es.getD k 0 ∧ es.getD k 0 ≤ t.length
theorem getD_take {E : List Nat} {n k : Nat} (h : k < n) : (E.take n).getD k 0 = E.getD k 0 := by
  rw [List.getD_eq_getElem?_getD, List.getElem?_take, if_pos h, ← List.getD_eq_getElem?_getD]
theorem bgE_take {E : List Nat} {n k : Nat} (h : k < n) : bgE (E.take n) k = bgE E k := by
  cases k with
  | zero => rfl
  | succ k => show (E.take n).getD k 0 + 1 = E.getD k 0 + 1; rw [getD_take (by omega)]
theorem okE_take {t E : List Nat} (h : okE t E) (n : Nat) : okE t (E.take n) := fun k hk => by
  rw [List.length_take] at hk
  rw [bgE_take (by omega), getD_take (by omega)]
  exact h k (by omega)
/-- the ends of the pieces of a text that begins at i -/
def comE : List Nat → Nat → List Nat
  | [], i => [i]
  | c :: t, i => if c = 44 then i :: comE t (i + 1) else comE t (i + 1)
theorem comE_len (t : List Nat) (i : Nat) : 1 ≤ (comE t i).length ∧ (comE t i).length ≤ t.length + 1 := by
  induction t generalizing i with
  | nil => exact ⟨Nat.le_refl _, Nat.le_refl _⟩
  | cons c t ih =>
    have := ih (i + 1)
    unfold comE
    split <;> simp only [List.length_cons] <;> omega
theorem comE_ne {u : List Nat} {j : Nat} (h : j < u.length) (hc : u.getD j 0 ≠ 44) : comE (u.drop j) j = comE (u.drop (j + 1)) (j + 1) := by
  rw [List.drop_eq_getElem_cons h]
  rw [List.getD_eq_getElem?_getD, List.getElem?_eq_getElem h] at hc
  show (if u[j] = 44 then _ else _) = _
  exact if_neg hc
theorem comE_eq {u : List Nat} {j : Nat} (h : j < u.length) (hc : u.getD j 0 = 44) : comE (u.drop j) j = j :: comE (u.drop (j + 1)) (j + 1) := by
  rw [List.drop_eq_getElem_cons h]
  rw [List.getD_eq_getElem?_getD, List.getElem?_eq_getElem h] at hc
  show (if u[j] = 44 then _ else _) = _
  exact if_pos hc
theorem comE_room {u e9 : List Nat} {j : Nat} (h : e9 ++ comE (u.drop j) j = comE u 0) : e9.length ≤ u.length := by
  have h1 := congrArg List.length h
  rw [List.length_append] at h1
  have h2 := comE_len (u.drop j) j
  have h3 := comE_len u 0
  omega
theorem comE_bd (t : List Nat) (i : Nat) : ∀ k : Nat, k < (comE t i).length → i + k ≤ (comE t i).getD k 0 ∧ (comE t i).getD k 0 ≤ i + t.length ∧ bgE (comE t i) k ≤ (comE t i).getD k 0 := by
  induction t generalizing i with
  | nil =>
    intro k hk
    have : k = 0 := by have : k < 1 := hk; omega
    subst this
    exact ⟨Nat.le_refl _, Nat.le_refl _, Nat.zero_le _⟩
  | cons c t ih =>
    intro k hk
    have ih := ih (i + 1)
    have hl := comE_len t (i + 1)
    unfold comE at hk ⊢
    split at hk
    · next h =>
      rw [if_pos h]
      cases k with
      | zero => exact ⟨Nat.le_refl _, by show i ≤ _; omega, Nat.zero_le _⟩
      | succ k =>
        have h1 := ih k (by simpa using hk)
        rw [List.getD_cons_succ]
        refine ⟨by omega, by simp only [List.length_cons]; omega, ?_⟩
        cases k with
        | zero => show (i :: comE t (i + 1)).getD 0 0 + 1 ≤ _; rw [List.getD_cons_zero]; omega
        | succ k => show (i :: comE t (i + 1)).getD (k + 1) 0 + 1 ≤ _; rw [List.getD_cons_succ]; exact h1.2.2
    · next h =>
      rw [if_neg h]
      have h1 := ih k hk
      exact ⟨by omega, by simp only [List.length_cons]; omega, h1.2.2⟩
theorem comE_ok (u : List Nat) : okE u (comE u 0) := fun k hk => by
  have := comE_bd u 0 k hk
  exact ⟨this.2.2, by omega⟩
/-- what is left when the empty ones at the end have gone -/
def isCut (u es : List Nat) : Prop := ∃ n : Nat, n ≤ (comE u 0).length ∧ es = (comE u 0).take n ∧ (((comE u 0).length ≤ 1 ∧ n = (comE u 0).length) ∨ (1 < (comE u 0).length ∧ (∀ k : Nat, n ≤ k → k < (comE u 0).length → bgE (comE u 0) k = (comE u 0).getD k 0) ∧ (0 < n → bgE (comE u 0) (n - 1) ≠ (comE u 0).getD (n - 1) 0)))
/-- the object and its ends -/
def PB (G : Cx) (a la ea : Nat) (es : List Nat) (H : Heap) : Prop := es.length ≤ 61 ∧ va_at G.1 vwCl (a, .inr (5, [.ref la, .ref ea, .int (nI es.length)])) H ∧ ∃ f : Nat → Int32, va_at G.1 vwCl (ea, .inl (G.2.1 0, 61, .inl f)) H ∧ ∀ j : Nat, j < es.length → f j = nI (es.getD j 0)
def PA (G : Cx) (a la lca ea : Nat) (t es : List Nat) (H : Heap) : Prop := PB G a la ea es H ∧ LA G la lca t H ∧ okE t es ∧ a ≠ la ∧ a ≠ lca ∧ a ≠ ea ∧ ea ≠ la ∧ ea ≠ lca
theorem PB.recv {G : Cx} {a la ea : Nat} {es : List Nat} {H : Heap} {s : State} (h : PB G a la ea es H) (hK : va_K G.1 vwCl (tyL G.2.1) s) : ∃ cell : Cell, H[a]? = some cell ∧ cell.vm.isStatics = false ∧ s.vm.findClass "Signtext$Pieces" = some cell.cls := at_recv hK h.2.1 (q := (RX1, TX1, 3)) rfl
theorem PB.lt {G : Cx} {a la ea : Nat} {es : List Nat} {H : Heap} (h : PB G a la ea es H) : a < H.size ∧ ea < H.size := ⟨h.2.1.lt, by obtain ⟨-, -, f, q, -⟩ := h; exact q.lt⟩
theorem PB.kp {G : Cx} {a la ea : Nat} {es : List Nat} {X : Nat → Prop} {H H1 : Heap} (h : PB G a la ea es H) (hk : kp X H H1) (h1 : ¬ X a) (h2 : ¬ X ea) : PB G a la ea es H1 := by
  obtain ⟨q1, q2, f, q3, q4⟩ := h
  exact ⟨q1, at_kp q2 hk h1, f, at_kp q3 hk h2, q4⟩
theorem PA.kp {G : Cx} {a la lca ea : Nat} {t es : List Nat} {X : Nat → Prop} {H H1 : Heap} (h : PA G a la lca ea t es H) (hk : kp X H H1) (h1 : ¬ X a) (h2 : ¬ X ea) (h3 : ¬ X la) (h4 : ¬ X lca) : PA G a la lca ea t es H1 := ⟨h.1.kp hk h1 h2, h.2.1.kp hk h3 h4, h.2.2⟩
theorem PB.push {G : Cx} {a la ea j : Nat} {es : List Nat} {f : Nat → Int32} {H : Heap} (h : es.length ≤ 60) (hO : va_at G.1 vwCl (a, .inr (5, [.ref la, .ref ea, .int (nI (es.length + 1))])) H) (hE : va_at G.1 vwCl (ea, .inl (G.2.1 0, 61, .inl (upd f es.length (nI j)))) H) (hf : ∀ j : Nat, j < es.length → f j = nI (es.getD j 0)) : PB G a la ea (es ++ [j]) H := by
  have hl : (es ++ [j]).length = es.length + 1 := by rw [List.length_append]; rfl
  refine ⟨by rw [hl]; omega, by rw [hl]; exact hO, _, hE, fun k hk => ?_⟩
  rw [hl] at hk
  by_cases q : k = es.length
  · subst q; rw [pk_us, getD_last]
  · rw [pk_un q, hf k (by omega), getD_app1 (by omega)]
theorem dX1_size_0 : decode cX1_size 0 = .ok (.aload_n 0, 1) := by decide +kernel
theorem dX1_size_1 : decode cX1_size 1 = .ok (.getfield 22, 3) := by decide +kernel
theorem dX1_size_4 : decode cX1_size 4 = .ok (.ireturn, 1) := by decide +kernel
theorem dX1_line_0 : decode cX1_line 0 = .ok (.aload_n 0, 1) := by decide +kernel
theorem dX1_line_1 : decode cX1_line 1 = .ok (.getfield 12, 3) := by decide +kernel
theorem dX1_line_4 : decode cX1_line 4 = .ok (.areturn, 1) := by decide +kernel
theorem dX1_endOf_0 : decode cX1_endOf 0 = .ok (.iload_n 1, 1) := by decide +kernel
theorem dX1_endOf_1 : decode cX1_endOf 1 = .ok (.ifCond .lt 20, 3) := by decide +kernel
theorem dX1_endOf_4 : decode cX1_endOf 4 = .ok (.iload_n 1, 1) := by decide +kernel
theorem dX1_endOf_5 : decode cX1_endOf 5 = .ok (.aload_n 0, 1) := by decide +kernel
theorem dX1_endOf_6 : decode cX1_endOf 6 = .ok (.getfield 22, 3) := by decide +kernel
theorem dX1_endOf_9 : decode cX1_endOf 9 = .ok (.if_icmp .ge 12, 3) := by decide +kernel
theorem dX1_endOf_12 : decode cX1_endOf 12 = .ok (.aload_n 0, 1) := by decide +kernel
theorem dX1_endOf_13 : decode cX1_endOf 13 = .ok (.getfield 18, 3) := by decide +kernel
theorem dX1_endOf_16 : decode cX1_endOf 16 = .ok (.iload_n 1, 1) := by decide +kernel
theorem dX1_endOf_17 : decode cX1_endOf 17 = .ok (.iaload, 1) := by decide +kernel
theorem dX1_endOf_18 : decode cX1_endOf 18 = .ok (.goto 4, 3) := by decide +kernel
theorem dX1_endOf_21 : decode cX1_endOf 21 = .ok (.iconst 0, 1) := by decide +kernel
theorem dX1_endOf_22 : decode cX1_endOf 22 = .ok (.ireturn, 1) := by decide +kernel
theorem dX1_beginOf_0 : decode cX1_beginOf 0 = .ok (.iload_n 1, 1) := by decide +kernel
theorem dX1_beginOf_1 : decode cX1_beginOf 1 = .ok (.ifCond .le 15, 3) := by decide +kernel
theorem dX1_beginOf_4 : decode cX1_beginOf 4 = .ok (.aload_n 0, 1) := by decide +kernel
theorem dX1_beginOf_5 : decode cX1_beginOf 5 = .ok (.iload_n 1, 1) := by decide +kernel
theorem dX1_beginOf_6 : decode cX1_beginOf 6 = .ok (.iconst 1, 1) := by decide +kernel
theorem dX1_beginOf_7 : decode cX1_beginOf 7 = .ok (.isub, 1) := by decide +kernel
theorem dX1_beginOf_8 : decode cX1_beginOf 8 = .ok (.invokevirtual 26, 3) := by decide +kernel
theorem dX1_beginOf_11 : decode cX1_beginOf 11 = .ok (.iconst 1, 1) := by decide +kernel
theorem dX1_beginOf_12 : decode cX1_beginOf 12 = .ok (.iadd, 1) := by decide +kernel
theorem dX1_beginOf_13 : decode cX1_beginOf 13 = .ok (.goto 4, 3) := by decide +kernel
theorem dX1_beginOf_16 : decode cX1_beginOf 16 = .ok (.iconst 0, 1) := by decide +kernel
theorem dX1_beginOf_17 : decode cX1_beginOf 17 = .ok (.ireturn, 1) := by decide +kernel
theorem dX1_cutOf_0 : decode cX1_cutOf 0 = .ok (.aload_n 0, 1) := by decide +kernel
theorem dX1_cutOf_1 : decode cX1_cutOf 1 = .ok (.getfield 12, 3) := by decide +kernel
theorem dX1_cutOf_4 : decode cX1_cutOf 4 = .ok (.aload_n 1, 1) := by decide +kernel
theorem dX1_cutOf_5 : decode cX1_cutOf 5 = .ok (.invokevirtual 30, 3) := by decide +kernel
theorem dX1_cutOf_8 : decode cX1_cutOf 8 = .ok (.aload_n 0, 1) := by decide +kernel
theorem dX1_cutOf_9 : decode cX1_cutOf 9 = .ok (.iconst 0, 1) := by decide +kernel
theorem dX1_cutOf_10 : decode cX1_cutOf 10 = .ok (.putfield 22, 3) := by decide +kernel
theorem dX1_cutOf_13 : decode cX1_cutOf 13 = .ok (.iconst 0, 1) := by decide +kernel
theorem dX1_cutOf_14 : decode cX1_cutOf 14 = .ok (.istore_n 2, 1) := by decide +kernel
theorem dX1_cutOf_15 : decode cX1_cutOf 15 = .ok (.iload_n 2, 1) := by decide +kernel
theorem dX1_cutOf_16 : decode cX1_cutOf 16 = .ok (.aload_n 0, 1) := by decide +kernel
theorem dX1_cutOf_17 : decode cX1_cutOf 17 = .ok (.getfield 12, 3) := by decide +kernel
theorem dX1_cutOf_20 : decode cX1_cutOf 20 = .ok (.invokevirtual 34, 3) := by decide +kernel
theorem dX1_cutOf_23 : decode cX1_cutOf 23 = .ok (.if_icmp .ge 27, 3) := by decide +kernel
theorem dX1_cutOf_26 : decode cX1_cutOf 26 = .ok (.aload_n 0, 1) := by decide +kernel
theorem dX1_cutOf_27 : decode cX1_cutOf 27 = .ok (.getfield 12, 3) := by decide +kernel
theorem dX1_cutOf_30 : decode cX1_cutOf 30 = .ok (.iload_n 2, 1) := by decide +kernel
theorem dX1_cutOf_31 : decode cX1_cutOf 31 = .ok (.invokevirtual 38, 3) := by decide +kernel
theorem dX1_cutOf_34 : decode cX1_cutOf 34 = .ok (.bipush 44, 2) := by decide +kernel
theorem dX1_cutOf_36 : decode cX1_cutOf 36 = .ok (.if_icmp .ne 8, 3) := by decide +kernel
theorem dX1_cutOf_39 : decode cX1_cutOf 39 = .ok (.aload_n 0, 1) := by decide +kernel
theorem dX1_cutOf_40 : decode cX1_cutOf 40 = .ok (.iload_n 2, 1) := by decide +kernel
theorem dX1_cutOf_41 : decode cX1_cutOf 41 = .ok (.invokevirtual 41, 3) := by decide +kernel
theorem dX1_cutOf_44 : decode cX1_cutOf 44 = .ok (.iinc 2 1, 3) := by decide +kernel
theorem dX1_cutOf_47 : decode cX1_cutOf 47 = .ok (.goto (-32), 3) := by decide +kernel
theorem dX1_cutOf_50 : decode cX1_cutOf 50 = .ok (.aload_n 0, 1) := by decide +kernel
theorem dX1_cutOf_51 : decode cX1_cutOf 51 = .ok (.aload_n 0, 1) := by decide +kernel
theorem dX1_cutOf_52 : decode cX1_cutOf 52 = .ok (.getfield 12, 3) := by decide +kernel
theorem dX1_cutOf_55 : decode cX1_cutOf 55 = .ok (.invokevirtual 34, 3) := by decide +kernel
theorem dX1_cutOf_58 : decode cX1_cutOf 58 = .ok (.invokevirtual 41, 3) := by decide +kernel
theorem dX1_cutOf_61 : decode cX1_cutOf 61 = .ok (.aload_n 0, 1) := by decide +kernel
theorem dX1_cutOf_62 : decode cX1_cutOf 62 = .ok (.getfield 22, 3) := by decide +kernel
theorem dX1_cutOf_65 : decode cX1_cutOf 65 = .ok (.iconst 1, 1) := by decide +kernel
theorem dX1_cutOf_66 : decode cX1_cutOf 66 = .ok (.if_icmp .le 7, 3) := by decide +kernel
theorem dX1_cutOf_69 : decode cX1_cutOf 69 = .ok (.iconst 1, 1) := by decide +kernel
theorem dX1_cutOf_70 : decode cX1_cutOf 70 = .ok (.goto 4, 3) := by decide +kernel
theorem dX1_cutOf_73 : decode cX1_cutOf 73 = .ok (.iconst 0, 1) := by decide +kernel
theorem dX1_cutOf_74 : decode cX1_cutOf 74 = .ok (.istore_n 2, 1) := by decide +kernel
theorem dX1_cutOf_75 : decode cX1_cutOf 75 = .ok (.iload_n 2, 1) := by decide +kernel
theorem dX1_cutOf_76 : decode cX1_cutOf 76 = .ok (.ifCond .eq 46, 3) := by decide +kernel
theorem dX1_cutOf_79 : decode cX1_cutOf 79 = .ok (.aload_n 0, 1) := by decide +kernel
theorem dX1_cutOf_80 : decode cX1_cutOf 80 = .ok (.getfield 22, 3) := by decide +kernel
theorem dX1_cutOf_83 : decode cX1_cutOf 83 = .ok (.ifCond .le 39, 3) := by decide +kernel
theorem dX1_cutOf_86 : decode cX1_cutOf 86 = .ok (.aload_n 0, 1) := by decide +kernel
theorem dX1_cutOf_87 : decode cX1_cutOf 87 = .ok (.aload_n 0, 1) := by decide +kernel
theorem dX1_cutOf_88 : decode cX1_cutOf 88 = .ok (.getfield 22, 3) := by decide +kernel
theorem dX1_cutOf_91 : decode cX1_cutOf 91 = .ok (.iconst 1, 1) := by decide +kernel
theorem dX1_cutOf_92 : decode cX1_cutOf 92 = .ok (.isub, 1) := by decide +kernel
theorem dX1_cutOf_93 : decode cX1_cutOf 93 = .ok (.invokevirtual 45, 3) := by decide +kernel
theorem dX1_cutOf_96 : decode cX1_cutOf 96 = .ok (.aload_n 0, 1) := by decide +kernel
theorem dX1_cutOf_97 : decode cX1_cutOf 97 = .ok (.aload_n 0, 1) := by decide +kernel
theorem dX1_cutOf_98 : decode cX1_cutOf 98 = .ok (.getfield 22, 3) := by decide +kernel
theorem dX1_cutOf_101 : decode cX1_cutOf 101 = .ok (.iconst 1, 1) := by decide +kernel
theorem dX1_cutOf_102 : decode cX1_cutOf 102 = .ok (.isub, 1) := by decide +kernel
theorem dX1_cutOf_103 : decode cX1_cutOf 103 = .ok (.invokevirtual 26, 3) := by decide +kernel
theorem dX1_cutOf_106 : decode cX1_cutOf 106 = .ok (.if_icmp .ne 16, 3) := by decide +kernel
theorem dX1_cutOf_109 : decode cX1_cutOf 109 = .ok (.aload_n 0, 1) := by decide +kernel
theorem dX1_cutOf_110 : decode cX1_cutOf 110 = .ok (.dup, 1) := by decide +kernel
theorem dX1_cutOf_111 : decode cX1_cutOf 111 = .ok (.getfield 22, 3) := by decide +kernel
theorem dX1_cutOf_114 : decode cX1_cutOf 114 = .ok (.iconst 1, 1) := by decide +kernel
theorem dX1_cutOf_115 : decode cX1_cutOf 115 = .ok (.isub, 1) := by decide +kernel
theorem dX1_cutOf_116 : decode cX1_cutOf 116 = .ok (.putfield 22, 3) := by decide +kernel
theorem dX1_cutOf_119 : decode cX1_cutOf 119 = .ok (.goto (-44), 3) := by decide +kernel
theorem dX1_cutOf_122 : decode cX1_cutOf 122 = .ok (.return_, 1) := by decide +kernel
theorem dX1_addEnd_0 : decode cX1_addEnd 0 = .ok (.aload_n 0, 1) := by decide +kernel
theorem dX1_addEnd_1 : decode cX1_addEnd 1 = .ok (.getfield 22, 3) := by decide +kernel
theorem dX1_addEnd_4 : decode cX1_addEnd 4 = .ok (.bipush 60, 2) := by decide +kernel
theorem dX1_addEnd_6 : decode cX1_addEnd 6 = .ok (.if_icmp .gt 23, 3) := by decide +kernel
theorem dX1_addEnd_9 : decode cX1_addEnd 9 = .ok (.aload_n 0, 1) := by decide +kernel
theorem dX1_addEnd_10 : decode cX1_addEnd 10 = .ok (.getfield 18, 3) := by decide +kernel
theorem dX1_addEnd_13 : decode cX1_addEnd 13 = .ok (.aload_n 0, 1) := by decide +kernel
theorem dX1_addEnd_14 : decode cX1_addEnd 14 = .ok (.getfield 22, 3) := by decide +kernel
theorem dX1_addEnd_17 : decode cX1_addEnd 17 = .ok (.iload_n 1, 1) := by decide +kernel
theorem dX1_addEnd_18 : decode cX1_addEnd 18 = .ok (.iastore, 1) := by decide +kernel
theorem dX1_addEnd_19 : decode cX1_addEnd 19 = .ok (.aload_n 0, 1) := by decide +kernel
theorem dX1_addEnd_20 : decode cX1_addEnd 20 = .ok (.dup, 1) := by decide +kernel
theorem dX1_addEnd_21 : decode cX1_addEnd 21 = .ok (.getfield 22, 3) := by decide +kernel
theorem dX1_addEnd_24 : decode cX1_addEnd 24 = .ok (.iconst 1, 1) := by decide +kernel
theorem dX1_addEnd_25 : decode cX1_addEnd 25 = .ok (.iadd, 1) := by decide +kernel
theorem dX1_addEnd_26 : decode cX1_addEnd 26 = .ok (.putfield 22, 3) := by decide +kernel
theorem dX1_addEnd_29 : decode cX1_addEnd 29 = .ok (.return_, 1) := by decide +kernel
abbrev rmX1_size : Room := { frames := 1, cells := 0, slots := 0, locals := 20 }
theorem mX1_size {l : Launch} {G : Cx} {A : Nat → Prop} {a la ea : Nat} {es : List Nat} : Met l yX1_size (.code yX1_size cX1_size 1 (some .int) :: GW) rmX1_size (PC G A [.ref a] (PB G a la ea es)) (vp_Si (fun r => r = nI es.length)) 0 0 (fun _ => False) := by
  refine mstart "Signtext$Pieces" (by decide +kernel) rfl (Nat.le_of_ble_eq_true rfl) ?_
  intro p e s m below meth c ls hx hb hr hts hown hml hlocks hname hC hA hW hl
  have hl : lv_has ls 1 [(0, .ref a)] := hl
  have hK := hC.1
  have hS : va_S A s.heap s.heap [] := va_S.rf
  have hq9 := hW
  obtain ⟨e61, hO, f, hE, hf⟩ := hq9
  refine lv_aload_n hx hb dX1_size_0 rfl (lv_at hl 0 rfl) ?_
  refine va_get (D := G.1) (ci := 5) (C := RX1) (T := TX1) (N := 3) hx hb hts inX1 hown hK (at_P hO) 0 rfl rfl 2 (by decide) (hts _ tw_1_62) (fun _ h9 => h9) rfl dX1_size_1 ?_
  exact p_i hx hb hr hlocks dX1_size_4 rfl

abbrev rmX1_line : Room := { frames := 1, cells := 0, slots := 0, locals := 20 }
theorem mX1_line {l : Launch} {G : Cx} {A : Nat → Prop} {a la ea : Nat} {es : List Nat} : Met l yX1_line (.code yX1_line cX1_line 1 (some (.object "Signtext$Line")) :: GW) rmX1_line (PC G A [.ref a] (PB G a la ea es)) (pR (fun r => r = la)) 0 0 (fun _ => False) := by
  refine mstart "Signtext$Pieces" (by decide +kernel) rfl (Nat.le_of_ble_eq_true rfl) ?_
  intro p e s m below meth c ls hx hb hr hts hown hml hlocks hname hC hA hW hl
  have hl : lv_has ls 1 [(0, .ref a)] := hl
  have hK := hC.1
  have hS : va_S A s.heap s.heap [] := va_S.rf
  have hq9 := hW
  obtain ⟨e61, hO, f, hE, hf⟩ := hq9
  refine lv_aload_n hx hb dX1_line_0 rfl (lv_at hl 0 rfl) ?_
  refine va_get (D := G.1) (ci := 5) (C := RX1) (T := TX1) (N := 3) hx hb hts inX1 hown hK (at_P hO) 0 rfl rfl 0 (by decide) (hts _ tw_1_60) (fun _ h9 => h9) rfl dX1_line_1 ?_
  exact p_a hx hb hr (Or.inl ⟨_, rfl⟩) hlocks dX1_line_4 rfl

abbrev rmX1_endOf : Room := { frames := 1, cells := 0, slots := 0, locals := 20 }
theorem mX1_endOf {l : Launch} {G : Cx} {A : Nat → Prop} {a la ea : Nat} {es : List Nat} {k : Nat} (hk : k < es.length) : Met l yX1_endOf (.code yX1_endOf cX1_endOf 2 (some .int) :: GW) rmX1_endOf (PC G A [.ref a, .int (nI k)] (PB G a la ea es)) (vp_Si (fun r => r = nI (es.getD k 0))) 0 0 (fun _ => False) := by
  refine mstart "Signtext$Pieces" (by decide +kernel) rfl (Nat.le_of_ble_eq_true rfl) ?_
  intro p e s m below meth c ls hx hb hr hts hown hml hlocks hname hC hA hW hl
  have hl : lv_has ls 2 [(0, .ref a), (1, .int (nI k))] := hl
  have hK := hC.1
  have hS : va_S A s.heap s.heap [] := va_S.rf
  have hq9 := hW
  obtain ⟨e61, hO, f, hE, hf⟩ := hq9
  refine lv_iload_n hx hb dX1_endOf_0 rfl (lv_at hl 1 rfl) ?_
  refine z_lt (tgt := 21) hx hb dX1_endOf_1 (by decide) (by omega) ?_
  refine lv_iload_n hx hb dX1_endOf_4 rfl (lv_at hl 1 rfl) ?_
  refine lv_aload_n hx hb dX1_endOf_5 rfl (lv_at hl 0 rfl) ?_
  refine va_get (D := G.1) (ci := 5) (C := RX1) (T := TX1) (N := 3) hx hb hts inX1 hown hK (at_P hO) 0 rfl rfl 2 (by decide) (hts _ tw_1_62) (fun _ h9 => h9) rfl dX1_endOf_6 ?_
  refine b_ge (tgt := 21) hx hb dX1_endOf_9 (by decide) (by omega) (by omega) (fun c_2 => ?_) (fun c_2 => ?_)
  · exact absurd c_2 (by omega)
  · refine lv_aload_n hx hb dX1_endOf_12 rfl (lv_at hl 0 rfl) ?_
    refine va_get (D := G.1) (ci := 5) (C := RX1) (T := TX1) (N := 3) hx hb hts inX1 hown hK (at_P hO) 0 rfl rfl 1 (by decide) (hts _ tw_1_61) (fun _ h9 => h9) rfl dX1_endOf_13 ?_
    refine lv_iload_n hx hb dX1_endOf_16 rfl (lv_at hl 1 rfl) ?_
    refine va_iald hx hb hK (at_P hE) 0 0 rfl rfl (vp_in_nI (n := k) (N := 61) (by omega) (by omega)) dX1_endOf_17 ?_
    refine lv_cv (show _ = nI (es.getD k 0) from by rw [nI_clamp (by omega)]; exact hf _ (by omega)) ?_
    refine lv_goto (tgt := 22) hx hb dX1_endOf_18 (by decide) ?_
    exact p_i hx hb hr hlocks dX1_endOf_22 rfl

abbrev rmX1_beginOf : Room := { frames := 2, cells := 0, slots := 0, locals := 41 }
theorem mX1_beginOf {l : Launch} {G : Cx} {A : Nat → Prop} {a la ea : Nat} {es : List Nat} {k : Nat} (hk : k ≤ es.length) : Met l yX1_beginOf (.code yX1_beginOf cX1_beginOf 2 (some .int) :: GW) rmX1_beginOf (PC G A [.ref a, .int (nI k)] (PB G a la ea es)) (vp_Si (fun r => r = nI (bgE es k))) 0 0 (fun _ => False) := by
  refine mstart "Signtext$Pieces" (by decide +kernel) rfl (Nat.le_of_ble_eq_true rfl) ?_
  intro p e s m below meth c ls hx hb hr hts hown hml hlocks hname hC hA hW hl
  have hl : lv_has ls 2 [(0, .ref a), (1, .int (nI k))] := hl
  have hK := hC.1
  have hS : va_S A s.heap s.heap [] := va_S.rf
  have hW0 := hW
  have hq9 := hW
  obtain ⟨e61, hO, f, hE, hf⟩ := hq9
  cases k with
  | zero =>
    refine lv_iload_n hx hb dX1_beginOf_0 rfl (lv_at hl 1 rfl) ?_
    refine lv_if_le (tgt := 16) hx hb dX1_beginOf_1 (by decide) (fun _ => ?_) (fun q => absurd (by decide) q)
    refine lv_iconst (v := nI 0) hx hb dX1_beginOf_16 (by decide) ?_
    exact p_i hx hb hr hlocks dX1_beginOf_17 rfl
  | succ k =>
    refine lv_iload_n hx hb dX1_beginOf_0 rfl (lv_at hl 1 rfl) ?_
    refine lv_if_le (tgt := 16) hx hb dX1_beginOf_1 (by decide) (fun q => absurd q (nI_nle (Nat.succ_pos k) (by omega))) (fun _ => ?_)
    refine lv_aload_n hx hb dX1_beginOf_4 rfl (lv_at hl 0 rfl) ?_
    refine lv_iload_n hx hb dX1_beginOf_5 rfl (lv_at hl 1 rfl) ?_
    refine lv_iconst (v := nI 1) hx hb dX1_beginOf_6 (by decide) ?_
    refine lv_isub hx hb dX1_beginOf_7 ?_
    refine lv_cv (nI_pred k) ?_
    refine kV_i (A := A) (b := a) (As := [.int (nI k)]) (rest := []) ⟨hx, hb, hml, hown, hts⟩ (mX1_endOf (A := A) (la := la) (ea := ea) (k := k) (by omega)) (cwV 1 hts (gV tw_2_78 tw_2_79 tw_2_80 tw_1_3 tw_2_81) rfl rfl rfl (by decide +kernel) ⟨Nat.le_of_ble_eq_true rfl, Nat.le_of_ble_eq_true rfl⟩) hC hS hA (hW0.recv hK) hW0 rfl rfl hl.1 (Nat.le_of_ble_eq_true rfl) ⟨Nat.zero_le _, Nat.zero_le _⟩ dX1_beginOf_8 (fun r9 h9 => lv_cv h9 ?_)
    refine lv_iconst (v := nI 1) hx hb dX1_beginOf_11 (by decide) ?_
    refine lv_iadd hx hb dX1_beginOf_12 ?_
    refine lv_cv (nI_add (es.getD k 0) 1) ?_
    refine lv_goto (tgt := 17) hx hb dX1_beginOf_13 (by decide) ?_
    exact p_i hx hb hr hlocks dX1_beginOf_17 rfl

abbrev rmX1_addEnd : Room := { frames := 1, cells := 0, slots := 0, locals := 20 }
theorem mX1_addEnd {l : Launch} {G : Cx} {A : Nat → Prop} {a la ea : Nat} {es : List Nat} {j : Nat} (hAa : A a) (hAe : A ea) (hne : a ≠ ea) (h60 : es.length ≤ 60) : Met l yX1_addEnd (.code yX1_addEnd cX1_addEnd 2 (none : Option Jvm.ClassFile.FieldType) :: GW) rmX1_addEnd (PC G A [.ref a, .int (nI j)] (PB G a la ea es)) (qV A (PB G a la ea (es ++ [j]))) 0 0 (A) := by
  refine mstart "Signtext$Pieces" (by decide +kernel) rfl (Nat.le_of_ble_eq_true rfl) ?_
  intro p e s m below meth c ls hx hb hr hts hown hml hlocks hname hC hA hW hl
  have hl : lv_has ls 2 [(0, .ref a), (1, .int (nI j))] := hl
  have hK := hC.1
  have hS : va_S A s.heap s.heap [] := va_S.rf
  have hq9 := hW
  obtain ⟨e61, hO, f, hE, hf⟩ := hq9
  refine lv_aload_n hx hb dX1_addEnd_0 rfl (lv_at hl 0 rfl) ?_
  refine va_get (D := G.1) (ci := 5) (C := RX1) (T := TX1) (N := 3) hx hb hts inX1 hown hK (at_P hO) 0 rfl rfl 2 (by decide) (hts _ tw_1_62) (fun _ h9 => h9) rfl dX1_addEnd_1 ?_
  refine lv_bipush (v := nI 60) hx hb dX1_addEnd_4 (by decide) ?_
  refine b_gt (tgt := 29) hx hb dX1_addEnd_6 (by decide) (by omega) (by omega) (fun c_3 => ?_) (fun c_3 => ?_)
  · exact absurd c_3 (by omega)
  · refine lv_aload_n hx hb dX1_addEnd_9 rfl (lv_at hl 0 rfl) ?_
    refine va_get (D := G.1) (ci := 5) (C := RX1) (T := TX1) (N := 3) hx hb hts inX1 hown hK (at_P hO) 0 rfl rfl 1 (by decide) (hts _ tw_1_61) (fun _ h9 => h9) rfl dX1_addEnd_10 ?_
    refine lv_aload_n hx hb dX1_addEnd_13 rfl (lv_at hl 0 rfl) ?_
    refine va_get (D := G.1) (ci := 5) (C := RX1) (T := TX1) (N := 3) hx hb hts inX1 hown hK (at_P hO) 0 rfl rfl 2 (by decide) (hts _ tw_1_62) (fun _ h9 => h9) rfl dX1_addEnd_14 ?_
    refine lv_iload_n hx hb dX1_addEnd_17 rfl (lv_at hl 1 rfl) ?_
    refine h_ist (D := G.1) hx hb hK 0 hE rfl hS hAe (vp_in_nI (n := es.length) (N := 61) (by omega) (by omega)) dX1_addEnd_18 (fun H4 L4 hE z4 o4 hS => ?_)
    rw [nI_clamp (n := es.length) (by omega)] at hE
    have hO := at_o hO o4 hne
    have hZ4 := hS.1
    refine lv_aload_n hx hb dX1_addEnd_19 rfl (lv_at hl 0 rfl) ?_
    refine lv_dup hx hb dX1_addEnd_20 rfl ?_
    refine va_get (D := G.1) (ci := 5) (C := RX1) (T := TX1) (N := 3) hx hb hts inX1 hown hK (at_P hO) 0 rfl rfl 2 (by decide) (hts _ tw_1_62) (fun _ h9 => h9) rfl dX1_addEnd_21 ?_
    refine lv_iconst (v := nI 1) hx hb dX1_addEnd_24 (by decide) ?_
    refine lv_iadd hx hb dX1_addEnd_25 ?_
    refine lv_cv (nI_add es.length 1) ?_
    refine h_put (D := G.1) (ci := 5) (C := RX1) (T := TX1) (N := 3) hx hb hts inX1 tyX1 tyX1_ok nmX1 hown hK hO hS hAa rfl 2 (by decide) (hts _ tw_1_62) (fun _ h9 => h9) rfl (tyX1_ok 2 (by decide)) rfl rfl (Nat.le_of_ble_eq_true rfl) dX1_addEnd_26 (fun H5 L5 hO z5 o5 hS => ?_)
    have hO : va_at G.1 vwCl (a, .inr (5, [.ref la, .ref ea, .int (nI (es.length + 1))])) H5 := hO
    have hE := at_o hE o5 (Ne.symm hne)
    have hZ5 := hS.1
    exact q_v hx hb hr hlocks dX1_addEnd_29 hS (Nat.le_refl _) (Nat.le_refl _) (PB.push h60 hO hE hf)

abbrev rmX1_cutOf : Room := { frames := 3, cells := 0, slots := 0, locals := 62 }
theorem mX1_cutOf {l : Launch} {G : Cx} {A : Nat → Prop} {a la lca ea b cb : Nat} {t u es : List Nat} (hAa : A a) (hAl : A la) (hAc : A lca) (hAe : A ea) (hd : b ≠ a ∧ b ≠ la ∧ b ≠ lca ∧ b ≠ ea) (hd2 : cb ≠ a ∧ cb ≠ la ∧ cb ≠ lca ∧ cb ≠ ea) : Met l yX1_cutOf (.code yX1_cutOf cX1_cutOf 3 (none : Option Jvm.ClassFile.FieldType) :: GW) rmX1_cutOf (PC G A [.ref a, .ref b] (fun H => PA G a la lca ea t es H ∧ LA G b cb u H)) (qV A (fun H => (∃ es1, isCut u es1 ∧ PA G a la lca ea u es1 H) ∧ LA G b cb u H)) 0 0 (A) := by
  refine mstart "Signtext$Pieces" (by decide +kernel) rfl (Nat.le_of_ble_eq_true rfl) ?_
  intro p e s m below meth c ls hx hb hr hts hown hml hlocks hname hC hA hW hl
  have hl : lv_has ls 3 [(0, .ref a), (1, .ref b)] := hl
  have hK := hC.1
  have hS : va_S A s.heap s.heap [] := va_S.rf
  obtain ⟨⟨hPB, hL, -, nal, nac, nae, nel, nec⟩, hB⟩ := hW
  obtain ⟨d1, d2, d3, d4⟩ := hd
  obtain ⟨d5, d6, d7, d8⟩ := hd2
  obtain ⟨e61, hO, f, hE, hf⟩ := hPB
  refine lv_aload_n hx hb dX1_cutOf_0 rfl (lv_at hl 0 rfl) ?_
  refine va_get (D := G.1) (ci := 5) (C := RX1) (T := TX1) (N := 3) hx hb hts inX1 hown hK (at_P hO) 0 rfl rfl 0 (by decide) (hts _ tw_1_60) (fun _ h9 => h9) rfl dX1_cutOf_1 ?_
  refine lv_aload_n hx hb dX1_cutOf_4 rfl (lv_at hl 1 rfl) ?_
  refine qV_V (A := A) (A1 := ow la lca s.heap.size) (b := la) (As := [.ref b]) (rest := []) ⟨hx, hb, hml, hown, hts⟩ (mX0_become (A := ow la lca s.heap.size) (ca := lca) (cb := cb) (t := t) (u := u) (Or.inl rfl) (Or.inr (Or.inl rfl)) ⟨d2, d3, d6, d7⟩) (cwV 1 hts (gV tw_2_67 tw_2_4 tw_2_5 tw_1_2 tw_2_6) rfl rfl rfl (by decide +kernel) ⟨Nat.le_of_ble_eq_true rfl, Nat.le_of_ble_eq_true rfl⟩) hC hS (ow_in hAl hAc hA (Nat.le_refl _)) ow_n (hL.recv hK) ⟨hL, hB⟩ rfl rfl hl.1 (Nat.le_of_ble_eq_true rfl) ⟨Nat.zero_le _, Nat.zero_le _⟩ dX1_cutOf_5 (fun H6 L6 hP6 hk6 hS => ?_)
  have hZ6 := hS.1
  have hO := at_kp hO hk6 (ow_no nal nac hO.lt)
  have hE := at_kp hE hk6 (ow_no nel nec hE.lt)
  obtain ⟨hL, hB⟩ := hP6
  have u60 := hL.1
  have uok := hL.2.1
  refine lv_aload_n hx hb dX1_cutOf_8 rfl (lv_at hl 0 rfl) ?_
  refine lv_iconst (v := nI 0) hx hb dX1_cutOf_9 (by decide) ?_
  refine h_put (D := G.1) (ci := 5) (C := RX1) (T := TX1) (N := 3) hx hb hts inX1 tyX1 tyX1_ok nmX1 hown hK hO hS hAa rfl 2 (by decide) (hts _ tw_1_62) (fun _ h9 => h9) rfl (tyX1_ok 2 (by decide)) rfl rfl (Nat.le_of_ble_eq_true rfl) dX1_cutOf_10 (fun H7 L7 hO z7 o7 hS => ?_)
  have hO : va_at G.1 vwCl (a, .inr (5, [.ref la, .ref ea, .int (nI 0)])) H7 := hO
  have hE := at_o hE o7 (Ne.symm nae)
  have hL := LA.o hL o7 nal.symm nac.symm
  have hB := LA.o hB o7 d1 d5
  have hZ7 := hS.1
  refine lv_iconst (v := nI 0) hx hb dX1_cutOf_13 (by decide) ?_
  refine lv_istore_n (lv' := [(2, .int (nI 0)), (0, .ref a), (1, .ref b)]) hx hb dX1_cutOf_14 rfl hl (by decide) rfl (fun ls hl => ?_)
  have hPB : PB G a la ea [] H7 := ⟨Nat.zero_le _, hO, f, hE, fun j hj => absurd hj (Nat.not_lt_zero j)⟩
  refine nloop (P := fun j => ∀ (ls : Array Slot) (H : Heap) (L : List Loc) (e9 : List Nat), lv_has ls 3 [(2, .int (nI j)), (0, .ref a), (1, .ref b)] → va_S A s.heap H L → PB G a la ea e9 H → LA G la lca u H → LA G b cb u H → e9 ++ comE (u.drop j) j = comE u 0 → W p l e rmX1_cutOf s m [.ref a, .ref b].toArray below meth c H L 0 0 (MQ below (qV A (fun H => (∃ es1, isCut u es1 ∧ PA G a la lca ea u es1 H) ∧ LA G b cb u H)) [.ref a, .ref b].toArray s 0 0 (A)) (F0 m 15 ls [])) u.length ?_ 0 (Nat.zero_le _) ls H7 L7 [] hl hS hPB hL hB rfl
  clear hl
  intro j hj ih ls H L e9 hl
  clear hS hPB hL hB hO hE hf
  intro hS hPB hL hB hEE
  have hZ0 := hS.1
  have hPB0 := hPB
  obtain ⟨e61, hO, f, hE, hf⟩ := hPB
  refine lv_iload_n hx hb dX1_cutOf_15 rfl (lv_at hl 0 rfl) ?_
  refine lv_aload_n hx hb dX1_cutOf_16 rfl (lv_at hl 1 rfl) ?_
  refine va_get (D := G.1) (ci := 5) (C := RX1) (T := TX1) (N := 3) hx hb hts inX1 hown hK (at_P hO) 0 rfl rfl 0 (by decide) (hts _ tw_1_60) (fun _ h9 => h9) rfl dX1_cutOf_17 ?_
  refine kV_i (A := A) (b := la) (As := []) (rest := .int (nI j) :: []) ⟨hx, hb, hml, hown, hts⟩ (mX0_size (A := A) (ca := lca)) (cwV 0 hts (gV tw_2_68 tw_2_12 tw_2_13 tw_1_2 tw_2_14) rfl rfl rfl (by decide +kernel) ⟨Nat.le_of_ble_eq_true rfl, Nat.le_of_ble_eq_true rfl⟩) hC hS hA (hL.recv hK) hL rfl rfl hl.1 (Nat.le_of_ble_eq_true rfl) ⟨Nat.zero_le _, Nat.zero_le _⟩ dX1_cutOf_20 (fun r9 h9 => lv_cv h9 ?_)
  have h60 := comE_room hEE
  have h60 : e9.length ≤ 60 := by omega
  refine b_ge (tgt := 50) hx hb dX1_cutOf_23 (by decide) (by omega) (by omega) (fun c_8 => ?_) (fun c_8 => ?_)
  · obtain rfl : j = u.length := by omega
    rw [List.drop_length] at hEE
    refine lv_aload_n hx hb dX1_cutOf_50 rfl (lv_at hl 1 rfl) ?_
    refine lv_aload_n hx hb dX1_cutOf_51 rfl (lv_at hl 1 rfl) ?_
    refine va_get (D := G.1) (ci := 5) (C := RX1) (T := TX1) (N := 3) hx hb hts inX1 hown hK (at_P hO) 0 rfl rfl 0 (by decide) (hts _ tw_1_60) (fun _ h9 => h9) rfl dX1_cutOf_52 ?_
    refine kV_i (A := A) (b := la) (As := []) (rest := .ref a :: []) ⟨hx, hb, hml, hown, hts⟩ (mX0_size (A := A) (ca := lca)) (cwV 0 hts (gV tw_2_68 tw_2_12 tw_2_13 tw_1_2 tw_2_14) rfl rfl rfl (by decide +kernel) ⟨Nat.le_of_ble_eq_true rfl, Nat.le_of_ble_eq_true rfl⟩) hC hS hA (hL.recv hK) hL rfl rfl hl.1 (Nat.le_of_ble_eq_true rfl) ⟨Nat.zero_le _, Nat.zero_le _⟩ dX1_cutOf_55 (fun r9 h9 => lv_cv h9 ?_)
    refine qV_V (A := A) (A1 := ow a ea H.size) (b := a) (As := [.int (nI u.length)]) (rest := []) ⟨hx, hb, hml, hown, hts⟩ (mX1_addEnd (A := ow a ea H.size) (la := la) (ea := ea) (es := e9) (j := u.length) (Or.inl rfl) (Or.inr (Or.inl rfl)) nae h60) (cwV 1 hts (gV tw_2_70 tw_2_72 sel_X1_addEnd tw_1_3 tw_2_73) rfl rfl rfl (by decide +kernel) ⟨Nat.le_of_ble_eq_true rfl, Nat.le_of_ble_eq_true rfl⟩) hC hS (ow_in hAa hAe hA hZ0) ow_n (hPB0.recv hK) hPB0 rfl rfl hl.1 (Nat.le_of_ble_eq_true rfl) ⟨Nat.zero_le _, Nat.zero_le _⟩ dX1_cutOf_58 (fun H9 L9 hP9 hk9 hS => ?_)
    have hZ9 := hS.1
    have hL := hL.kp hk9 (ow_no nal.symm nel.symm hL.lt.1) (ow_no nac.symm nec.symm hL.lt.2)
    have hB := hB.kp hk9 (ow_no d1 d4 hB.lt.1) (ow_no d5 d8 hB.lt.2)
    have hEE : e9 ++ [u.length] = comE u 0 := hEE
    rw [hEE] at hP9
    have hPB0 := hP9
    generalize hEg : comE u 0 = E at hPB0 hEE
    have hEl := comE_len u 0
    rw [hEg] at hEl
    have hq9 := hPB0
    obtain ⟨e61, hO, f, hE, hf⟩ := hq9
    refine lv_aload_n hx hb dX1_cutOf_61 rfl (lv_at hl 1 rfl) ?_
    refine va_get (D := G.1) (ci := 5) (C := RX1) (T := TX1) (N := 3) hx hb hts inX1 hown hK (at_P hO) 0 rfl rfl 2 (by decide) (hts _ tw_1_62) (fun _ h9 => h9) rfl dX1_cutOf_62 ?_
    refine lv_iconst (v := nI 1) hx hb dX1_cutOf_65 (by decide) ?_
    refine b_le (tgt := 73) hx hb dX1_cutOf_66 (by decide) (by omega) (by omega) (fun c_10 => ?_) (fun c_10 => ?_)
    · refine lv_iconst (v := nI 0) hx hb dX1_cutOf_73 (by decide) ?_
      refine lv_istore_n (lv' := [(2, .int (bI false)), (0, .ref a), (1, .ref b)]) hx hb dX1_cutOf_74 rfl hl (by decide) rfl (fun ls hl => ?_)
      refine lv_iload_n hx hb dX1_cutOf_75 rfl (lv_at hl 0 rfl) ?_
      refine f_eq (tgt := 122) hx hb dX1_cutOf_76 (by decide) (fun c_11 => ?_) (fun c_11 => ?_)
      · exact q_v hx hb hr hlocks dX1_cutOf_122 hS (Nat.le_refl _) (Nat.le_refl _) ⟨⟨E, ⟨E.length, hEg.symm ▸ Nat.le_refl _, by rw [hEg, List.take_length], Or.inl ⟨by rw [hEg]; omega, by rw [hEg]⟩⟩, hPB0, hL, hEg ▸ comE_ok u, nal, nac, nae, nel, nec⟩, hB⟩
      · exact absurd c_11 (by decide)
    · refine lv_iconst (v := nI 1) hx hb dX1_cutOf_69 (by decide) ?_
      refine lv_goto (tgt := 74) hx hb dX1_cutOf_70 (by decide) ?_
      refine lv_istore_n (lv' := [(2, .int (bI true)), (0, .ref a), (1, .ref b)]) hx hb dX1_cutOf_74 rfl hl (by decide) rfl (fun ls hl => ?_)
      refine dloop (P := fun j => ∀ (ls : Array Slot) (H : Heap) (L : List Loc), lv_has ls 3 [(2, .int (bI true)), (0, .ref a), (1, .ref b)] → va_S A s.heap H L → PB G a la ea (E.take j) H → LA G la lca u H → LA G b cb u H → j ≤ E.length → (∀ k : Nat, j ≤ k → k < E.length → bgE E k = E.getD k 0) → W p l e rmX1_cutOf s m [.ref a, .ref b].toArray below meth c H L 0 0 (MQ below (qV A (fun H => (∃ es1, isCut u es1 ∧ PA G a la lca ea u es1 H) ∧ LA G b cb u H)) [.ref a, .ref b].toArray s 0 0 (A)) (F0 m 75 ls [])) ?_ E.length ls H9 L9 hl hS (by rw [List.take_length]; exact hPB0) hL hB (Nat.le_refl _) (fun k h1 h2 => absurd h2 (by omega))
      clear hl
      intro j ih ls H L hl
      clear hS hPB0 hL hB hO hE hf
      intro hS hPB0 hL hB hj hem
      have hZ0 := hS.1
      have hjl : (E.take j).length = j := by rw [List.length_take]; omega
      have hq9 := hPB0
      obtain ⟨-, hO, f, hE, hf⟩ := hq9
      rw [hjl] at hO
      refine lv_iload_n hx hb dX1_cutOf_75 rfl (lv_at hl 0 rfl) ?_
      refine f_eq (tgt := 122) hx hb dX1_cutOf_76 (by decide) (fun c_12 => ?_) (fun c_12 => ?_)
      · exact absurd c_12 (by decide)
      · refine lv_aload_n hx hb dX1_cutOf_79 rfl (lv_at hl 1 rfl) ?_
        refine va_get (D := G.1) (ci := 5) (C := RX1) (T := TX1) (N := 3) hx hb hts inX1 hown hK (at_P hO) 0 rfl rfl 2 (by decide) (hts _ tw_1_62) (fun _ h9 => h9) rfl dX1_cutOf_80 ?_
        cases j with
        | zero =>
          refine lv_if_le (tgt := 122) hx hb dX1_cutOf_83 (by decide) (fun _ => ?_) (fun q => absurd (by decide) q)
          exact q_v hx hb hr hlocks dX1_cutOf_122 hS (Nat.le_refl _) (Nat.le_refl _) ⟨⟨E.take 0, ⟨0, by rw [hEg]; exact hj, by rw [hEg], Or.inr ⟨by rw [hEg]; omega, by rw [hEg]; exact hem, fun q => absurd q (Nat.lt_irrefl 0)⟩⟩, hPB0, hL, okE_take (hEg ▸ comE_ok u) 0, nal, nac, nae, nel, nec⟩, hB⟩
        | succ j =>
          refine lv_if_le (tgt := 122) hx hb dX1_cutOf_83 (by decide) (fun q => absurd q (nI_nle (Nat.succ_pos j) (by omega))) (fun _ => ?_)
          refine lv_aload_n hx hb dX1_cutOf_86 rfl (lv_at hl 1 rfl) ?_
          refine lv_aload_n hx hb dX1_cutOf_87 rfl (lv_at hl 1 rfl) ?_
          refine va_get (D := G.1) (ci := 5) (C := RX1) (T := TX1) (N := 3) hx hb hts inX1 hown hK (at_P hO) 0 rfl rfl 2 (by decide) (hts _ tw_1_62) (fun _ h9 => h9) rfl dX1_cutOf_88 ?_
          refine lv_iconst (v := nI 1) hx hb dX1_cutOf_91 (by decide) ?_
          refine lv_isub hx hb dX1_cutOf_92 ?_
          refine lv_cv (nI_pred j) ?_
          refine kV_i (A := A) (b := a) (As := [.int (nI j)]) (rest := []) ⟨hx, hb, hml, hown, hts⟩ (mX1_beginOf (A := A) (la := la) (ea := ea) (es := E.take (j + 1)) (k := j) (by omega)) (cwV 1 hts (gV tw_2_74 tw_2_75 tw_2_76 tw_1_3 tw_2_77) rfl rfl rfl (by decide +kernel) ⟨Nat.le_of_ble_eq_true rfl, Nat.le_of_ble_eq_true rfl⟩) hC hS hA (hPB0.recv hK) hPB0 rfl rfl hl.1 (Nat.le_of_ble_eq_true rfl) ⟨Nat.zero_le _, Nat.zero_le _⟩ dX1_cutOf_93 (fun r9 h9 => lv_cv h9 ?_)
          refine lv_aload_n hx hb dX1_cutOf_96 rfl (lv_at hl 1 rfl) ?_
          refine lv_aload_n hx hb dX1_cutOf_97 rfl (lv_at hl 1 rfl) ?_
          refine va_get (D := G.1) (ci := 5) (C := RX1) (T := TX1) (N := 3) hx hb hts inX1 hown hK (at_P hO) 0 rfl rfl 2 (by decide) (hts _ tw_1_62) (fun _ h9 => h9) rfl dX1_cutOf_98 ?_
          refine lv_iconst (v := nI 1) hx hb dX1_cutOf_101 (by decide) ?_
          refine lv_isub hx hb dX1_cutOf_102 ?_
          refine lv_cv (nI_pred j) ?_
          refine kV_i (A := A) (b := a) (As := [.int (nI j)]) (rest := .int (nI (bgE (E.take (j + 1)) j)) :: []) ⟨hx, hb, hml, hown, hts⟩ (mX1_endOf (A := A) (la := la) (ea := ea) (es := E.take (j + 1)) (k := j) (by omega)) (cwV 1 hts (gV tw_2_78 tw_2_79 tw_2_80 tw_1_3 tw_2_81) rfl rfl rfl (by decide +kernel) ⟨Nat.le_of_ble_eq_true rfl, Nat.le_of_ble_eq_true rfl⟩) hC hS hA (hPB0.recv hK) hPB0 rfl rfl hl.1 (Nat.le_of_ble_eq_true rfl) ⟨Nat.zero_le _, Nat.zero_le _⟩ dX1_cutOf_103 (fun r9 h9 => lv_cv h9 ?_)
          have ok9 := (okE_take (hEg ▸ comE_ok u) (j + 1) : okE u (E.take (j + 1))) j (by omega)
          have q1 := bgE_take (E := E) (n := j + 1) (k := j) (by omega)
          have q2 := getD_take (E := E) (n := j + 1) (k := j) (by omega)
          rw [q1, q2] at ok9
          rw [q1, q2]
          refine b_ne (tgt := 122) hx hb dX1_cutOf_106 (by decide) (by omega) (by omega) (fun c_13 => ?_) (fun c_13 => ?_)
          · exact q_v hx hb hr hlocks dX1_cutOf_122 hS (Nat.le_refl _) (Nat.le_refl _) ⟨⟨E.take (j + 1), ⟨j + 1, by rw [hEg]; exact hj, by rw [hEg], Or.inr ⟨by rw [hEg]; omega, by rw [hEg]; exact hem, fun _ => by rw [hEg]; exact c_13⟩⟩, hPB0, hL, okE_take (hEg ▸ comE_ok u) (j + 1), nal, nac, nae, nel, nec⟩, hB⟩
          · refine lv_aload_n hx hb dX1_cutOf_109 rfl (lv_at hl 1 rfl) ?_
            refine lv_dup hx hb dX1_cutOf_110 rfl ?_
            refine va_get (D := G.1) (ci := 5) (C := RX1) (T := TX1) (N := 3) hx hb hts inX1 hown hK (at_P hO) 0 rfl rfl 2 (by decide) (hts _ tw_1_62) (fun _ h9 => h9) rfl dX1_cutOf_111 ?_
            refine lv_iconst (v := nI 1) hx hb dX1_cutOf_114 (by decide) ?_
            refine lv_isub hx hb dX1_cutOf_115 ?_
            refine lv_cv (nI_pred j) ?_
            refine h_put (D := G.1) (ci := 5) (C := RX1) (T := TX1) (N := 3) hx hb hts inX1 tyX1 tyX1_ok nmX1 hown hK hO hS hAa rfl 2 (by decide) (hts _ tw_1_62) (fun _ h9 => h9) rfl (tyX1_ok 2 (by decide)) rfl rfl (Nat.le_of_ble_eq_true rfl) dX1_cutOf_116 (fun H14 L14 hO z14 o14 hS => ?_)
            have hO : va_at G.1 vwCl (a, .inr (5, [.ref la, .ref ea, .int (nI j)])) H14 := hO
            have hE := at_o hE o14 (Ne.symm nae)
            have hL := LA.o hL o14 nal.symm nac.symm
            have hB := LA.o hB o14 d1 d5
            have hZ14 := hS.1
            refine lv_goto (tgt := 75) hx hb dX1_cutOf_119 (by decide) ?_
            exact ih j (Nat.lt_succ_self j) ls H14 L14 (lv_sub hl [0, 1, 2] rfl) hS ⟨by rw [List.length_take]; omega, by rw [List.length_take, Nat.min_eq_left (by omega)]; exact hO, f, hE, fun k hk => by rw [List.length_take] at hk; rw [hf k (by omega), getD_take (by omega), getD_take (by omega)]⟩ hL hB (by omega) (fun k h1 h2 => by rcases Nat.lt_or_ge j k with q | q; exact hem k q h2; rw [show k = j by omega]; exact c_13)
  · refine lv_aload_n hx hb dX1_cutOf_26 rfl (lv_at hl 1 rfl) ?_
    refine va_get (D := G.1) (ci := 5) (C := RX1) (T := TX1) (N := 3) hx hb hts inX1 hown hK (at_P hO) 0 rfl rfl 0 (by decide) (hts _ tw_1_60) (fun _ h9 => h9) rfl dX1_cutOf_27 ?_
    refine lv_iload_n hx hb dX1_cutOf_30 rfl (lv_at hl 0 rfl) ?_
    refine kV_i (A := A) (b := la) (As := [.int (nI j)]) (rest := []) ⟨hx, hb, hml, hown, hts⟩ (mX0_codeAt (A := A) (ca := lca) (i := j) (by omega)) (cwV 1 hts (gV tw_2_69 tw_2_20 tw_2_21 tw_1_2 tw_2_22) rfl rfl rfl (by decide +kernel) ⟨Nat.le_of_ble_eq_true rfl, Nat.le_of_ble_eq_true rfl⟩) hC hS hA (hL.recv hK) hL rfl rfl hl.1 (Nat.le_of_ble_eq_true rfl) ⟨Nat.zero_le _, Nat.zero_le _⟩ dX1_cutOf_31 (fun r9 h9 => lv_cv h9 ?_)
    have tokj := uok j
    refine lv_bipush (v := nI 44) hx hb dX1_cutOf_34 (by decide) ?_
    refine b_ne (tgt := 44) hx hb dX1_cutOf_36 (by decide) (by omega) (by omega) (fun c_15 => ?_) (fun c_15 => ?_)
    · refine lv_iinc (v := nI (j + 1)) (lv' := [(2, .int (nI (j + 1))), (0, .ref a), (1, .ref b)]) hx hb dX1_cutOf_44 hl (k := 0) rfl (nI_add j 1) (by decide) rfl (fun ls hl => ?_)
      refine lv_goto (tgt := 15) hx hb dX1_cutOf_47 (by decide) ?_
      exact ih (j + 1) (by omega) (by omega) ls H L e9 (lv_sub hl [0, 1, 2] rfl) hS hPB0 hL hB (by rw [← hEE, comE_ne (by omega) c_15])
    · refine lv_aload_n hx hb dX1_cutOf_39 rfl (lv_at hl 1 rfl) ?_
      refine lv_iload_n hx hb dX1_cutOf_40 rfl (lv_at hl 0 rfl) ?_
      refine qV_V (A := A) (A1 := ow a ea H.size) (b := a) (As := [.int (nI j)]) (rest := []) ⟨hx, hb, hml, hown, hts⟩ (mX1_addEnd (A := ow a ea H.size) (la := la) (ea := ea) (es := e9) (j := j) (Or.inl rfl) (Or.inr (Or.inl rfl)) nae h60) (cwV 1 hts (gV tw_2_70 tw_2_72 sel_X1_addEnd tw_1_3 tw_2_73) rfl rfl rfl (by decide +kernel) ⟨Nat.le_of_ble_eq_true rfl, Nat.le_of_ble_eq_true rfl⟩) hC hS (ow_in hAa hAe hA hZ0) ow_n (hPB0.recv hK) hPB0 rfl rfl hl.1 (Nat.le_of_ble_eq_true rfl) ⟨Nat.zero_le _, Nat.zero_le _⟩ dX1_cutOf_41 (fun H16 L16 hP16 hk16 hS => ?_)
      have hZ16 := hS.1
      have hL := hL.kp hk16 (ow_no nal.symm nel.symm hL.lt.1) (ow_no nac.symm nec.symm hL.lt.2)
      have hB := hB.kp hk16 (ow_no d1 d4 hB.lt.1) (ow_no d5 d8 hB.lt.2)
      refine lv_iinc (v := nI (j + 1)) (lv' := [(2, .int (nI (j + 1))), (0, .ref a), (1, .ref b)]) hx hb dX1_cutOf_44 hl (k := 0) rfl (nI_add j 1) (by decide) rfl (fun ls hl => ?_)
      refine lv_goto (tgt := 15) hx hb dX1_cutOf_47 (by decide) ?_
      exact ih (j + 1) (by omega) (by omega) ls H16 L16 (e9 ++ [j]) (lv_sub hl [0, 1, 2] rfl) hS hP16 hL hB (by rw [← hEE, comE_eq (by omega) c_15, List.append_assoc]; rfl)
end
section
/-! OWN LAYER, 6: constructors of nest mates -/
theorem qV_IN {p : Program} {l : Launch} {e : Env} {R : Room} {s : State} {m : MethodId} {args : Array Value} {below : List Frame} {meth : Method} {c : Code} {H : Heap} {locs : List Loc} {cells slots : Nat} {Q : State → Prop} {cc bytes : ByteArray} {pc nL maxL index n mc ms : Nat} {ls : Array Slot} {rest st0 : List Value} {G : Cx} {A A1 : Nat → Prop} {own host : String} {y : MethodName} {ws : List Cond} {rm : Room} {b : Nat} {As : List Value} {Wd : Heap → Prop}
    {P : Heap → Prop} (S : CallFix p m c cc nL s args GW own) (hM : Met l y ws rm (PC G A1 (.ref b :: As) Wd) (qV A1 P) mc ms A1) (cw : va_CN R s args own index y host bytes maxL none ws rm mc ms n ∧ y.name = "<init>" ∧ (Cond.instanceMethod y).before args s = true) (hC : cx G A s) (hS : va_S A s.heap H locs) (hAA : ∀ q, A1 q → A q) (hA1 : ∀ q : Nat, H.size ≤ q → A1 q)
    (hW : Wd H) (hst : st0 = As.reverse ++ .ref b :: rest) (hn : As.length = n) (hl : ls.size = nL) (hrm : (rest.map fun v => v.category).sum ≤ 8) (hf : cells + mc ≤ R.cells ∧ slots + ms ≤ R.slots) (hdg : decode cc pc = .ok (.invokespecial index, 3))
    (kk : ∀ (H1 : Heap) (locs1 : List Loc), P H1 → kp A1 H H1 → va_S A s.heap H1 locs1 → W p l e R s m args below meth c H1 locs1 (cells + mc) (slots + ms) Q (F0 m (pc + 3) ls rest)) : W p l e R s m args below meth c H locs cells slots Q (F0 m pc ls st0) := by
  subst hst
  exact va_callv (va_runIN (As := As) (rest := rest) (g := F0 m pc ls (As.reverse ++ .ref b :: rest)) S hM cw ⟨PC.blind, PC.go hC hS hAA hA1 hW⟩ rfl hn hl rfl (lv_room hrm) hdg hf) hS (fun q _ h => hAA q h) hAA (fun u t H1 locs1 ht _ _ hB hz hk hS1 => kk H1 locs1 (show P H1 from ht ▸ hB) ⟨hz, hk⟩ hS1)
end
section
/-! Pieces, 2: its constructor -/
theorem dX1_init_0 : decode cX1_init 0 = .ok (.aload_n 0, 1) := by decide +kernel
theorem dX1_init_1 : decode cX1_init 1 = .ok (.invokespecial 3, 3) := by decide +kernel
theorem dX1_init_4 : decode cX1_init 4 = .ok (.aload_n 0, 1) := by decide +kernel
theorem dX1_init_5 : decode cX1_init 5 = .ok (.new 9, 3) := by decide +kernel
theorem dX1_init_8 : decode cX1_init 8 = .ok (.dup, 1) := by decide +kernel
theorem dX1_init_9 : decode cX1_init 9 = .ok (.invokespecial 11, 3) := by decide +kernel
theorem dX1_init_12 : decode cX1_init 12 = .ok (.putfield 12, 3) := by decide +kernel
theorem dX1_init_15 : decode cX1_init 15 = .ok (.aload_n 0, 1) := by decide +kernel
theorem dX1_init_16 : decode cX1_init 16 = .ok (.bipush 61, 2) := by decide +kernel
theorem dX1_init_18 : decode cX1_init 18 = .ok (.newarray .int, 2) := by decide +kernel
theorem dX1_init_20 : decode cX1_init 20 = .ok (.putfield 18, 3) := by decide +kernel
theorem dX1_init_23 : decode cX1_init 23 = .ok (.aload_n 0, 1) := by decide +kernel
theorem dX1_init_24 : decode cX1_init 24 = .ok (.iconst 0, 1) := by decide +kernel
theorem dX1_init_25 : decode cX1_init 25 = .ok (.putfield 22, 3) := by decide +kernel
theorem dX1_init_28 : decode cX1_init 28 = .ok (.return_, 1) := by decide +kernel
abbrev rmX1_init : Room := { frames := 2, cells := 3, slots := 123, locals := 40 }
theorem mX1_init {l : Launch} {G : Cx} {A : Nat → Prop} {a sz : Nat} (hAa : A a) : Met l yX1_init (.code yX1_init cX1_init 1 (none : Option Jvm.ClassFile.FieldType) :: GW) rmX1_init (PC G A [.ref a] (fun H => H.size = sz ∧ va_at G.1 vwCl (a, .inr (5, [.null, .null, .int 0])) H)) (qV A (fun H => ∃ la lca ea, sz ≤ la ∧ sz ≤ lca ∧ sz ≤ ea ∧ la ≠ lca ∧ PA G a la lca ea [] [] H)) 3 123 (A) := by
  refine mstart "Signtext$Pieces" (by decide +kernel) rfl (Nat.le_of_ble_eq_true rfl) ?_
  intro p e s m below meth c ls hx hb hr hts hown hml hlocks hname hC hA hW hl
  have hl : lv_has ls 1 [(0, .ref a)] := hl
  have hK := hC.1
  have hS : va_S A s.heap s.heap [] := va_S.rf
  obtain ⟨hsz, hO⟩ := hW
  have haz : a < s.heap.size := hO.lt
  refine lv_aload_n hx hb dX1_init_0 rfl (lv_at hl 0 rfl) ?_
  refine W.objInit hx hb hown (hts _ tw_1_57) (hts _ tw_1_35) (hts _ tw_1_36) rfl (by rw [hml]; exact hl.1) rfl dX1_init_1 (Nat.le_of_ble_eq_true rfl) (Nat.le_of_ble_eq_true rfl) ?_
  refine W.eq (g2 := F0 m 4 ls []) rfl ?_
  refine lv_aload_n hx hb dX1_init_4 rfl (lv_at hl 0 rfl) ?_
  refine h_new (D := G.1) (C := RX0) (T := TX0) (N := 2) (ci := 4) (fs := [.null, .int 0]) hx hb hts inX0 tyX0 tyX0_ok hown (hts _ tw_1_58) (hts _ tw_1_39) (hts _ tw_1_2) hK hS rfl (fun j hj => match j, hj with | 0, _ => rfl | 1, _ => rfl) (Nat.le_trans (show 0 + 1 ≤ 3 by omega) (Nat.le_of_ble_eq_true rfl)) (Nat.le_trans (show 0 + 2 ≤ 123 by omega) (Nat.le_of_ble_eq_true rfl)) dX1_init_5 (fun la H1 hla hOla z1 o1 hS => ?_)
  have n1hO : a ≠ la := fun q => absurd hO.lt (by rw [q, hla]; exact Nat.lt_irrefl _)
  have hO := at_n hO o1
  have hZ1 := hS.1
  have hMla : A la := hA la (by omega)
  refine lv_dup hx hb dX1_init_8 rfl ?_
  refine qV_IN (A := A) (A1 := ow la la H1.size) (b := la) (As := []) (rest := .ref la :: .ref a :: []) ⟨hx, hb, hml, hown, hts⟩ (mX0_init (A := ow la la H1.size) (a := la) (sz := H1.size) (Or.inl rfl)) ⟨va_cnB 0 hts (gI tw_1_42) rfl rfl rfl hC.2.2.2.2.2.2.2.1 (hts _ tw_1_2) (by decide +kernel) ⟨Nat.le_of_ble_eq_true rfl, Nat.le_of_ble_eq_true rfl⟩, rfl, hts _ tw_1_41⟩ hC hS (ow_in hMla hMla hA (by omega)) ow_n  ⟨rfl, hOla⟩ rfl rfl hl.1 (Nat.le_of_ble_eq_true rfl) ⟨Nat.le_trans (show (0 + 1) + 1 ≤ 3 by omega) (Nat.le_of_ble_eq_true rfl), Nat.le_trans (show (0 + 2) + 60 ≤ 123 by omega) (Nat.le_of_ble_eq_true rfl)⟩ dX1_init_9 (fun H2 L2 hP2 hk2 hS => ?_)
  have hZ2 := hS.1
  obtain ⟨lca, hlc, hz9, hL⟩ := hP2
  have hO := at_kp hO hk2 (ow_no n1hO n1hO hO.lt)
  have nac : a ≠ lca := by omega
  have nlc : la ≠ lca := hL.2.2.1
  refine h_putF (D := G.1) (ci := 5) (C := RX1) (T := TX1) (N := 3) hx hb hts inX1 tyX1 tyX1_ok nmX1 hown hK hO hS hAa rfl 0 (by decide) (hts _ tw_1_60) (fun _ h9 => h9) rfl hname rfl (tyX1_ok 0 (by decide)) rfl rfl (Nat.le_of_ble_eq_true rfl) dX1_init_12 (fun H3 L3 hO z3 o3 hS => ?_)
  have hO : va_at G.1 vwCl (a, .inr (5, [.ref la, .null, .int 0])) H3 := hO
  have hL := LA.o hL o3 (Ne.symm n1hO) nac.symm
  have hZ3 := hS.1
  refine lv_aload_n hx hb dX1_init_15 rfl (lv_at hl 0 rfl) ?_
  refine lv_bipush (v := nI 61) hx hb dX1_init_16 (by decide) ?_
  have hLl := hL.lt
  refine h_newa (D := G.1) (atype := .int) (N := 61) (z := (61, .inl (fun _ => 0))) hx hb (hts _ tw_1_70) rfl (fun h => h) hK 0 rfl hS rfl (nI_pos (by omega)) (nI_clamp (by omega)) (show 61 * _ ≤ _ from by show 61 * 4 ≤ 536870912; omega) (Nat.le_trans (show ((0 + 1) + 1) + 1 ≤ 3 by omega) (Nat.le_of_ble_eq_true rfl)) (Nat.le_trans (show ((0 + 2) + 60) + 61 ≤ 123 by omega) (Nat.le_of_ble_eq_true rfl)) dX1_init_18 (fun ea H4 hea hFea z4 o4 hS => ?_)
  have n4hO : a ≠ ea := fun q => absurd hO.lt (by rw [q, hea]; exact Nat.lt_irrefl _)
  have hO := at_n hO o4
  have hL := LA.n hL o4
  have hZ4 := hS.1
  have hMea : A ea := hA ea (by omega)
  have nel : ea ≠ la := by omega
  have nec : ea ≠ lca := by omega
  refine h_putF (D := G.1) (ci := 5) (C := RX1) (T := TX1) (N := 3) hx hb hts inX1 tyX1 tyX1_ok nmX1 hown hK hO hS hAa rfl 1 (by decide) (hts _ tw_1_61) (fun _ h9 => h9) rfl hname rfl (tyX1_ok 1 (by decide)) rfl rfl (Nat.le_of_ble_eq_true rfl) dX1_init_20 (fun H5 L5 hO z5 o5 hS => ?_)
  have hO : va_at G.1 vwCl (a, .inr (5, [.ref la, .ref ea, .int 0])) H5 := hO
  have hFea := at_o hFea o5 (Ne.symm n4hO)
  have hL := LA.o hL o5 (Ne.symm n1hO) nac.symm
  have hZ5 := hS.1
  refine lv_aload_n hx hb dX1_init_23 rfl (lv_at hl 0 rfl) ?_
  refine lv_iconst (v := nI 0) hx hb dX1_init_24 (by decide) ?_
  refine h_put (D := G.1) (ci := 5) (C := RX1) (T := TX1) (N := 3) hx hb hts inX1 tyX1 tyX1_ok nmX1 hown hK hO hS hAa rfl 2 (by decide) (hts _ tw_1_62) (fun _ h9 => h9) rfl (tyX1_ok 2 (by decide)) rfl rfl (Nat.le_of_ble_eq_true rfl) dX1_init_25 (fun H6 L6 hO z6 o6 hS => ?_)
  have hO : va_at G.1 vwCl (a, .inr (5, [.ref la, .ref ea, .int (nI 0)])) H6 := hO
  have hFea := at_o hFea o6 (Ne.symm n4hO)
  have hL := LA.o hL o6 (Ne.symm n1hO) nac.symm
  have hZ6 := hS.1
  exact q_v hx hb hr hlocks dX1_init_28 hS (by omega) (by omega) ⟨la, lca, ea, by omega, by omega, by omega, nlc, ⟨Nat.zero_le _, hO, _, hFea, fun j hj => absurd hj (Nat.not_lt_zero j)⟩, hL, fun k hk => absurd hk (Nat.not_lt_zero k), n1hO, nac, n4hO, nel, nec⟩
end
section
/-! OWN LAYER, 7: methods that throw -/
def exN : List String := ["java/lang/RuntimeException", "java/lang/Exception"]
theorem tA76 : ∀ w ∈ (vx_at0 "Signtext" 76 "java/lang/IndexOutOfBoundsException" exN).filter goodWord, w ∈ GW := by decide +kernel
theorem tB76 : ∀ w ∈ (vx_at0 "Signtext" 76 "java/lang/IndexOutOfBoundsException" exN).filter (fun w => !goodWord w), w ∈ XW := by decide +kernel
theorem tG76 : ∀ w ∈ Cond.classLink "Signtext" 74 "java/lang/IndexOutOfBoundsException" :: Cond.initialized "java/lang/IndexOutOfBoundsException" :: vx_at0 "Signtext" 76 "java/lang/IndexOutOfBoundsException" exN, vx_ot w = true := by decide +kernel
theorem tA83 : ∀ w ∈ (vx_at0 "Signtext" 83 "java/lang/IllegalArgumentException" exN).filter goodWord, w ∈ GW := by decide +kernel
theorem tB83 : ∀ w ∈ (vx_at0 "Signtext" 83 "java/lang/IllegalArgumentException" exN).filter (fun w => !goodWord w), w ∈ XW := by decide +kernel
theorem tG83 : ∀ w ∈ Cond.classLink "Signtext" 81 "java/lang/IllegalArgumentException" :: Cond.initialized "java/lang/IllegalArgumentException" :: vx_at0 "Signtext" 83 "java/lang/IllegalArgumentException" exN, vx_ot w = true := by decide +kernel
theorem tA234 : ∀ w ∈ (vx_at0 "Signtext" 234 "java/lang/IllegalStateException" exN).filter goodWord, w ∈ GW := by decide +kernel
theorem tB234 : ∀ w ∈ (vx_at0 "Signtext" 234 "java/lang/IllegalStateException" exN).filter (fun w => !goodWord w), w ∈ XW := by decide +kernel
theorem tG234 : ∀ w ∈ Cond.classLink "Signtext" 232 "java/lang/IllegalStateException" :: Cond.initialized "java/lang/IllegalStateException" :: vx_at0 "Signtext" 234 "java/lang/IllegalStateException" exN, vx_ot w = true := by decide +kernel
/-- where it throws: the exception's class, and the heap behind it -/
def xE (A : Nat → Prop) (PX : String → Heap → Prop) : String → State → State → Prop := vx_X (fun _ : Unit => True) (fun E _ t => PX E t.heap) A
theorem mstartX {l : Launch} {y : MethodName} {rm : Room} {G : Cx} {A : Nat → Prop} {av : List Value} {Wd : Heap → Prop} {Qc : Array Value → State → Outcome → State → Prop} {XC : String → State → State → Prop} {mc ms : Nat} {free : Addr → Prop} {cc : ByteArray} {maxL : Nat} {ret : Option FieldType} (own : String) (hy : plainName y.cls = true) (hown : y.cls = own) (hn : (lg_sl av).length ≤ maxL)
    (body : ∀ (p : Program) (e : Env) (s : State) (m : MethodId) (below : List Frame) (meth : Method) (c : Code) (ls : Array Slot), p.tables.exec = Jvm.exec → c.code = cc → meth.sig.returnType = ret → (∀ w ∈ GW, w.before av.toArray s = true) → s.vm.findClass own = some m.cls → c.maxLocals = maxL → meth.locks = false → (∀ x ∈ c.exceptionTable.toList, False) → cx G A s → (∀ q : Nat, s.heap.size ≤ q → A q) → Wd s.heap → lv_has ls maxL (lv_args 0 av) →
      W p l e rm s m av.toArray below meth c s.heap [] 0 0 (vx_MQ below Qc XC av.toArray s mc ms free) (F0 m 0 ls [])) : vx_Met l y (.code y cc maxL ret :: GW) rm (PC G A av Wd) Qc XC mc ms free := by
  refine vx_ofW (cc := cc) (maxL := maxL) (ret := ret) hy rfl ?_
  intro p e s m args below meth c s₁ B hml hnx hv
  obtain ⟨rfl, hC, hA, hW⟩ := hv
  have hts := atoms_spec (ws := .code y cc maxL ret :: GW) B.pre
  have hl := lv_entry av (n := maxL) hn
  have hne : entryFrame m av.toArray maxL = F0 m 0 ((lg_sl av ++ List.replicate (maxL - (lg_sl av).length) Slot.unset).toArray) [] := by rw [lg_entry_eq]
  rw [hne]
  exact body p e s m below meth c _ B.exec B.bytes B.returns (fun w h => hts w (List.mem_cons_of_mem _ h)) (by rw [← hown]; exact findClass_of_methodNamed B.named) hml B.notSynchronized hnx hC hA hW hl
theorem xE_wk {A : Nat → Prop} {PX : String → Heap → Prop} {E : String} {s t : State} {H : Heap} {locs : List Loc} (hS : va_S A s.heap H locs) (ht : t.heap = H) (h : PX E H) : xE A PX E s t := ⟨(), trivial, show PX E t.heap from ht ▸ h, hS.F ht⟩
section XR
variable {p : Program} {l : Launch} {e : Env} {R : Room} {s : State} {m : MethodId} {args : Array Value} {below : List Frame} {meth : Method} {c : Code} {H : Heap} {locs : List Loc} {cells slots : Nat}
variable {cc bytes : ByteArray} {pc nL maxL index n mc ms mc1 ms1 : Nat} {ls : Array Slot} {rest st0 : List Value} {G : Cx} {A A1 : Nat → Prop} {own C : String} {y : MethodName} {ret : Option FieldType} {ws : List Cond} {rm : Room} {b : Nat} {As : List Value} {Wd : Heap → Prop} {PX PX1 : String → Heap → Prop} {Qc : Array Value → State → Outcome → State → Prop}
/-- 'throw new E()' -/
theorem t_new {cls : String} {ik ic : Nat} (hx : p.tables.exec = Jvm.exec) (hb : c.code = cc) (hst : l.stackTraces = false) (hown : s.vm.findClass "Signtext" = some m.cls) (hts : ∀ w ∈ GW, w.before args s = true) (hC : cx G A s) (hS : va_S A s.heap H locs) (hls : ls.size = nL) (hml : c.maxLocals = nL) (hcls : Bundle.fit cls = true) (hk : Cond.classLink "Signtext" ik cls ∈ GW) (hi : Cond.initialized cls ∈ GW)
    (tA : ∀ w ∈ (vx_at0 "Signtext" ic cls exN).filter goodWord, w ∈ GW) (tB : ∀ w ∈ (vx_at0 "Signtext" ic cls exN).filter (fun w => !goodWord w), w ∈ XW) (tG : ∀ w ∈ Cond.classLink "Signtext" ik cls :: Cond.initialized cls :: vx_at0 "Signtext" ic cls exN, vx_ot w = true)
    (hnx : ∀ x ∈ c.exceptionTable.toList, False) (hlocks : meth.locks = false) (hRf : 5 < R.frames) (hRl : (rest.map fun v => v.category).sum + 81 ≤ R.locals) (hRc : cells + 1 ≤ R.cells) (hRs : slots + 6 ≤ R.slots) (hc : cells + 1 ≤ mc) (hs : slots + 6 ≤ ms)
    (d0 : decode cc pc = .ok (.new ik, 3)) (d3 : decode cc (pc + 3) = .ok (.dup, 1)) (d4 : decode cc (pc + 4) = .ok (.invokespecial ic, 3)) (d7 : decode cc (pc + 7) = .ok (.athrow, 1)) (hPX : ∀ H1 : Heap, kp (nw H.size) H H1 → PX cls H1) :
    W p l e R s m args below meth c H locs cells slots (vx_MQ below Qc (xE A PX) args s mc ms A) (F0 m pc ls rest) := by
  have hz := hC.2.2.1
  obtain ⟨z1, z2, z3, z4, z5, z6, z7, z8, z9, z10, z11, z12, z13⟩ := hz
  have hxw : xWs s := hC.2.2.2.2.2.2.2.2.2.2.2
  refine vx_throw0 (names := exN) hx hb hst hown hcls (by decide +kernel) (hts _ hk) (hts _ hi) (vx_hat (B := XW) (fun w h => hts _ (tA w h)) tB (fun w h => hxw.use h)) tG z12 z13 hS (hls.trans hml.symm) d0 d3 d4 d7 (fun x h => (hnx x h).elim) hRf hRl hRc hRs hlocks (fun t hvm h1 h2 => ⟨(), trivial, hPX _ ⟨h1, fun q a _ => h2 q a⟩, Nat.le_trans hS.1 h1, fun q a b => (h2 q (Nat.lt_of_lt_of_le a hS.1)).trans (hS.2.1 q a b)⟩) hS.2.2 hc hs
/-- calls whose exceptions go on to the caller -/
theorem xV_V {P : Heap → Prop} (S : CallFix p m c cc nL s args GW own) (hM : vx_Met l y ws rm (PC G A1 (.ref b :: As) Wd) (qV A1 P) (xE A1 PX1) mc1 ms1 A1) (cw : CallW R s args own C index y bytes maxL ret ws rm mc1 ms1 n) (hC : cx G A s) (hS : va_S A s.heap H locs) (hAA : ∀ q, A1 q → A q) (hA1 : ∀ q : Nat, H.size ≤ q → A1 q)
    (hr : ∃ cell : Cell, H[b]? = some cell ∧ cell.vm.isStatics = false ∧ s.vm.findClass C = some cell.cls) (hW : Wd H) (hst : st0 = As.reverse ++ .ref b :: rest) (hn : As.length = n) (hl : ls.size = nL) (hrm : (rest.map fun v => v.category).sum ≤ 8) (hf : cells + mc1 ≤ R.cells ∧ slots + ms1 ≤ R.slots) (hdg : decode cc pc = .ok (.invokevirtual index, 3))
    (hnx : ∀ x ∈ c.exceptionTable.toList, False) (hlocks : meth.locks = false) (hc : cells + mc1 ≤ mc) (hs : slots + ms1 ≤ ms) (hPX : ∀ (E : String) (H1 : Heap), PX1 E H1 → kp A1 H H1 → PX E H1)
    (kk : ∀ (H1 : Heap) (locs1 : List Loc), P H1 → kp A1 H H1 → va_S A s.heap H1 locs1 → W p l e R s m args below meth c H1 locs1 (cells + mc1) (slots + ms1) (vx_MQ below Qc (xE A PX) args s mc ms A) (F0 m (pc + 3) ls rest)) : W p l e R s m args below meth c H locs cells slots (vx_MQ below Qc (xE A PX) args s mc ms A) (F0 m pc ls st0) := by
  subst hst
  exact vx_callv (vx_runV (As := As) (rest := rest) (g := F0 m pc ls (As.reverse ++ .ref b :: rest)) S hM cw ⟨PC.blind, hr, PC.go hC hS hAA hA1 hW⟩ rfl hn hl rfl (lv_room hrm) hdg hf) hS (fun q _ h => hAA q h) hAA (fun q _ h => hAA q h)
    (fun E ce q9 u t H1 locs1 ht hvm _ hB hz hk hS1 h1 h2 h3 => vx_out (fun x h => (hnx x h).elim) hlocks h1 h2 h3 (fun t9 ht9 _ => xE_wk hS1 ht9 (hPX E H1 (show PX1 E H1 from ht ▸ hB) ⟨hz, hk⟩)) hS1.2.2 hc hs)
    (fun u t H1 locs1 ht _ _ hB hz hk hS1 => kk H1 locs1 (show P H1 from ht ▸ hB) ⟨hz, hk⟩ hS1)
theorem xI_V {P : Int32 → Heap → Prop} (S : CallFix p m c cc nL s args GW own) (hM : vx_Met l y ws rm (PC G A1 (.ref b :: As) Wd) (qI A1 P) (xE A1 PX1) mc1 ms1 A1) (cw : CallW R s args own C index y bytes maxL ret ws rm mc1 ms1 n) (hC : cx G A s) (hS : va_S A s.heap H locs) (hAA : ∀ q, A1 q → A q) (hA1 : ∀ q : Nat, H.size ≤ q → A1 q)
    (hr : ∃ cell : Cell, H[b]? = some cell ∧ cell.vm.isStatics = false ∧ s.vm.findClass C = some cell.cls) (hW : Wd H) (hst : st0 = As.reverse ++ .ref b :: rest) (hn : As.length = n) (hl : ls.size = nL) (hrm : (rest.map fun v => v.category).sum ≤ 8) (hf : cells + mc1 ≤ R.cells ∧ slots + ms1 ≤ R.slots) (hdg : decode cc pc = .ok (.invokevirtual index, 3))
    (hnx : ∀ x ∈ c.exceptionTable.toList, False) (hlocks : meth.locks = false) (hc : cells + mc1 ≤ mc) (hs : slots + ms1 ≤ ms) (hPX : ∀ (E : String) (H1 : Heap), PX1 E H1 → kp A1 H H1 → PX E H1)
    (kk : ∀ (r : Int32) (H1 : Heap) (locs1 : List Loc), P r H1 → kp A1 H H1 → va_S A s.heap H1 locs1 → W p l e R s m args below meth c H1 locs1 (cells + mc1) (slots + ms1) (vx_MQ below Qc (xE A PX) args s mc ms A) (F0 m (pc + 3) ls (.int r :: rest))) : W p l e R s m args below meth c H locs cells slots (vx_MQ below Qc (xE A PX) args s mc ms A) (F0 m pc ls st0) := by
  subst hst
  exact vx_calli (vx_runV (As := As) (rest := rest) (g := F0 m pc ls (As.reverse ++ .ref b :: rest)) S hM cw ⟨PC.blind, hr, PC.go hC hS hAA hA1 hW⟩ rfl hn hl rfl (lv_room hrm) hdg hf) hS (fun q _ h => hAA q h) hAA (fun q _ h => hAA q h)
    (fun E ce q9 u t H1 locs1 ht hvm _ hB hz hk hS1 h1 h2 h3 => vx_out (fun x h => (hnx x h).elim) hlocks h1 h2 h3 (fun t9 ht9 _ => xE_wk hS1 ht9 (hPX E H1 (show PX1 E H1 from ht ▸ hB) ⟨hz, hk⟩)) hS1.2.2 hc hs)
    (fun r u t H1 locs1 ht _ hp hB hz hk hS1 => by subst hp; exact kk r H1 locs1 (show P r H1 from ht ▸ hB) ⟨hz, hk⟩ hS1)
theorem xV_S {P : Heap → Prop} (S : CallFix p m c cc nL s args GW own) (hM : vx_Met l y ws rm (PC G A1 As Wd) (qV A1 P) (xE A1 PX1) mc1 ms1 A1) (cw : CallB R s args own index y bytes maxL ret ws rm mc1 ms1 n ∧ (Cond.static y).before args s = true) (hC : cx G A s) (hS : va_S A s.heap H locs) (hAA : ∀ q, A1 q → A q) (hA1 : ∀ q : Nat, H.size ≤ q → A1 q)
    (hW : Wd H) (hst : st0 = As.reverse ++ rest) (hn : As.length = n) (hl : ls.size = nL) (hrm : (rest.map fun v => v.category).sum ≤ 8) (hf : cells + mc1 ≤ R.cells ∧ slots + ms1 ≤ R.slots) (hdg : decode cc pc = .ok (.invokestatic index, 3))
    (hnx : ∀ x ∈ c.exceptionTable.toList, False) (hlocks : meth.locks = false) (hc : cells + mc1 ≤ mc) (hs : slots + ms1 ≤ ms) (hPX : ∀ (E : String) (H1 : Heap), PX1 E H1 → kp A1 H H1 → PX E H1)
    (kk : ∀ (H1 : Heap) (locs1 : List Loc), P H1 → kp A1 H H1 → va_S A s.heap H1 locs1 → W p l e R s m args below meth c H1 locs1 (cells + mc1) (slots + ms1) (vx_MQ below Qc (xE A PX) args s mc ms A) (F0 m (pc + 3) ls rest)) : W p l e R s m args below meth c H locs cells slots (vx_MQ below Qc (xE A PX) args s mc ms A) (F0 m pc ls st0) := by
  subst hst
  exact vx_callv (vx_runS (As := As) (rest := rest) (g := F0 m pc ls (As.reverse ++ rest)) S hM cw ⟨PC.blind, PC.go hC hS hAA hA1 hW⟩ rfl hn hl rfl (lv_room hrm) hdg hf) hS (fun q _ h => hAA q h) hAA (fun q _ h => hAA q h)
    (fun E ce q9 u t H1 locs1 ht hvm _ hB hz hk hS1 h1 h2 h3 => vx_out (fun x h => (hnx x h).elim) hlocks h1 h2 h3 (fun t9 ht9 _ => xE_wk hS1 ht9 (hPX E H1 (show PX1 E H1 from ht ▸ hB) ⟨hz, hk⟩)) hS1.2.2 hc hs)
    (fun u t H1 locs1 ht _ _ hB hz hk hS1 => kk H1 locs1 (show P H1 from ht ▸ hB) ⟨hz, hk⟩ hS1)
theorem xI_S {P : Int32 → Heap → Prop} (S : CallFix p m c cc nL s args GW own) (hM : vx_Met l y ws rm (PC G A1 As Wd) (qI A1 P) (xE A1 PX1) mc1 ms1 A1) (cw : CallB R s args own index y bytes maxL ret ws rm mc1 ms1 n ∧ (Cond.static y).before args s = true) (hC : cx G A s) (hS : va_S A s.heap H locs) (hAA : ∀ q, A1 q → A q) (hA1 : ∀ q : Nat, H.size ≤ q → A1 q)
    (hW : Wd H) (hst : st0 = As.reverse ++ rest) (hn : As.length = n) (hl : ls.size = nL) (hrm : (rest.map fun v => v.category).sum ≤ 8) (hf : cells + mc1 ≤ R.cells ∧ slots + ms1 ≤ R.slots) (hdg : decode cc pc = .ok (.invokestatic index, 3))
    (hnx : ∀ x ∈ c.exceptionTable.toList, False) (hlocks : meth.locks = false) (hc : cells + mc1 ≤ mc) (hs : slots + ms1 ≤ ms) (hPX : ∀ (E : String) (H1 : Heap), PX1 E H1 → kp A1 H H1 → PX E H1)
    (kk : ∀ (r : Int32) (H1 : Heap) (locs1 : List Loc), P r H1 → kp A1 H H1 → va_S A s.heap H1 locs1 → W p l e R s m args below meth c H1 locs1 (cells + mc1) (slots + ms1) (vx_MQ below Qc (xE A PX) args s mc ms A) (F0 m (pc + 3) ls (.int r :: rest))) : W p l e R s m args below meth c H locs cells slots (vx_MQ below Qc (xE A PX) args s mc ms A) (F0 m pc ls st0) := by
  subst hst
  exact vx_calli (vx_runS (As := As) (rest := rest) (g := F0 m pc ls (As.reverse ++ rest)) S hM cw ⟨PC.blind, PC.go hC hS hAA hA1 hW⟩ rfl hn hl rfl (lv_room hrm) hdg hf) hS (fun q _ h => hAA q h) hAA (fun q _ h => hAA q h)
    (fun E ce q9 u t H1 locs1 ht hvm _ hB hz hk hS1 h1 h2 h3 => vx_out (fun x h => (hnx x h).elim) hlocks h1 h2 h3 (fun t9 ht9 _ => xE_wk hS1 ht9 (hPX E H1 (show PX1 E H1 from ht ▸ hB) ⟨hz, hk⟩)) hS1.2.2 hc hs)
    (fun r u t H1 locs1 ht _ hp hB hz hk hS1 => by subst hp; exact kk r H1 locs1 (show P r H1 from ht ▸ hB) ⟨hz, hk⟩ hS1)
/-- a reference, or an exception -/
theorem xcallr {S SX : Type} {H0 : Heap} {A0 AX : Nat → Prop} {Q : State → Prop} {free : Addr → Prop} {a : Array Value} {post : S → Prop} {px : SX → Prop} {B : S → Nat → State → Prop} {BX : String → SX → State → Prop} (hr : vx_Run p l e R s m args below meth c H locs cells slots mc ms (F0 m pc ls st0) rest (va_Qr post B A1 a) (vx_X px BX AX) free) (hS : va_S A0 H0 H locs) (hA : ∀ q, q < H.size → A1 q → A0 q) (hf : ∀ q, free q → A0 q) (hAX : ∀ q, q < H.size → AX q → A0 q)
    (kx : ∀ (E : String) (ce : Cell) (q9 : Addr) (u : SX) (t : State) (H1 : Heap) (locs1 : List Loc), t.heap = H1 → s.vm.Alike t.vm → px u → BX E u t → H.size ≤ H1.size → (∀ q : Nat, q < H.size → ¬ AX q → H1[q]? = H[q]?) → va_S A0 H0 H1 locs1 → H1[q9]? = some ce → ce.vm = .none → s.vm.findClass E = some ce.cls → vx_W p l e R s m args below meth c H1 locs1 (cells + mc) (slots + ms) Q (F0 m pc ls rest) q9)
    (kk : ∀ (u : S) (r : Nat) (t : State) (H1 : Heap) (locs1 : List Loc), t.heap = H1 → s.vm.Alike t.vm → post u → B u r t → H.size ≤ H1.size → (∀ q : Nat, q < H.size → ¬ A1 q → H1[q]? = H[q]?) → va_S A0 H0 H1 locs1 → W p l e R s m args below meth c H1 locs1 (cells + mc) (slots + ms) Q (F0 m (pc + 3) ls (.ref r :: rest))) : W p l e R s m args below meth c H locs cells slots Q (F0 m pc ls st0) := by
  intro T hT X
  rcases hr T hT X with ⟨v, st₀, t, T', L, h0, X', hL, e1, e2, ⟨⟨u, r, hv, hp, hb⟩, hF⟩, st⟩ | ⟨q, st₀, t, T', L, E, ce, h0, X', hL, e1, e2, ⟨u, hp, hb, hF⟩, hce, hcv, hcl, st⟩
  · cases hv
    obtain ⟨k1, k2, k3⟩ := vx_keep h0 e1 hS hA hf hL hF
    obtain ⟨t2, a1, b1⟩ := kk u r t T'.heap (locs ++ L) e1.symm (by rw [← e2]; exact X'.warmed.alike) hp hb k1 k2 k3 T' rfl X'
    exact ⟨t2, st t2 a1, b1⟩
  · obtain ⟨k1, k2, k3⟩ := vx_keep h0 e1 hS hAX hf hL hF
    obtain ⟨t2, a1, b1⟩ := kx E ce q u t T'.heap (locs ++ L) e1.symm (by rw [← e2]; exact X'.warmed.alike) hp hb k1 k2 k3 (by rw [e1]; exact hce) hcv hcl T' rfl X'
    exact ⟨t2, st.trans a1, b1⟩
theorem xR_V {P : Nat → Heap → Prop} (S : CallFix p m c cc nL s args GW own) (hM : vx_Met l y ws rm (PC G A1 (.ref b :: As) Wd) (qR A1 P) (xE A1 PX1) mc1 ms1 A1) (cw : CallW R s args own C index y bytes maxL ret ws rm mc1 ms1 n) (hC : cx G A s) (hS : va_S A s.heap H locs) (hAA : ∀ q, A1 q → A q) (hA1 : ∀ q : Nat, H.size ≤ q → A1 q)
    (hr : ∃ cell : Cell, H[b]? = some cell ∧ cell.vm.isStatics = false ∧ s.vm.findClass C = some cell.cls) (hW : Wd H) (hst : st0 = As.reverse ++ .ref b :: rest) (hn : As.length = n) (hl : ls.size = nL) (hrm : (rest.map fun v => v.category).sum ≤ 8) (hf : cells + mc1 ≤ R.cells ∧ slots + ms1 ≤ R.slots) (hdg : decode cc pc = .ok (.invokevirtual index, 3))
    (hnx : ∀ x ∈ c.exceptionTable.toList, False) (hlocks : meth.locks = false) (hc : cells + mc1 ≤ mc) (hs : slots + ms1 ≤ ms) (hPX : ∀ (E : String) (H1 : Heap), PX1 E H1 → kp A1 H H1 → PX E H1)
    (kk : ∀ (r : Nat) (H1 : Heap) (locs1 : List Loc), P r H1 → kp A1 H H1 → va_S A s.heap H1 locs1 → W p l e R s m args below meth c H1 locs1 (cells + mc1) (slots + ms1) (vx_MQ below Qc (xE A PX) args s mc ms A) (F0 m (pc + 3) ls (.ref r :: rest))) : W p l e R s m args below meth c H locs cells slots (vx_MQ below Qc (xE A PX) args s mc ms A) (F0 m pc ls st0) := by
  subst hst
  exact xcallr (vx_runV (As := As) (rest := rest) (g := F0 m pc ls (As.reverse ++ .ref b :: rest)) S hM cw ⟨PC.blind, hr, PC.go hC hS hAA hA1 hW⟩ rfl hn hl rfl (lv_room hrm) hdg hf) hS (fun q _ h => hAA q h) hAA (fun q _ h => hAA q h)
    (fun E ce q9 u t H1 locs1 ht hvm _ hB hz hk hS1 h1 h2 h3 => vx_out (fun x h => (hnx x h).elim) hlocks h1 h2 h3 (fun t9 ht9 _ => xE_wk hS1 ht9 (hPX E H1 (show PX1 E H1 from ht ▸ hB) ⟨hz, hk⟩)) hS1.2.2 hc hs)
    (fun u r t H1 locs1 ht _ _ hB hz hk hS1 => kk r H1 locs1 (show P r H1 from ht ▸ hB) ⟨hz, hk⟩ hS1)
end XR
end
section
/-! THE CLASS'S WORLD: 39 cells SA: 0 the object, 1 its texts, 2 its known ones, 3 4 pieces and their ends, 5 6 the tried ones, 7 + 2 i and 8 + 2 i line i (0 to 3 texts, 4 to 10 known, 11 row, 12 made, 13 draft, 14 of pieces, 15 of tried) -/
def SJ (SA : Nat → Nat) : Prop := ∀ i j : Nat, i < 39 → j < 39 → SA i = SA j → i = j
def SW (G : Cx) (SA : Nat → Nat) (T : Nat → List Nat) (es es2 : List Nat) (k : Int32) (H : Heap) : Prop :=
  SJ SA ∧
  va_at G.1 vwCl (SA 0, .inr (6, [.ref (SA 1), .ref (SA 2), .ref (SA 29), .ref (SA 3), .int k, .ref (SA 31), .ref (SA 33), .ref (SA 5)])) H ∧
  va_at G.1 vwCl (SA 1, .inl (G.2.1 3, 4, .inr (.inr (.inr (.inr (fun j => some (SA (7 + 2 * j)))))))) H ∧
  va_at G.1 vwCl (SA 2, .inl (G.2.1 3, 7, .inr (.inr (.inr (.inr (fun j => some (SA (15 + 2 * j)))))))) H ∧
  (∀ i : Nat, i < 16 → LA G (SA (7 + 2 * i)) (SA (8 + 2 * i)) (T i) H) ∧
  PB G (SA 3) (SA 35) (SA 4) es H ∧ okE (T 14) es ∧
  PB G (SA 5) (SA 37) (SA 6) es2 H ∧ okE (T 15) es2 ∧
  (∀ i : Nat, i < 7 → T (4 + i) = knT i)
section WORLD
variable {G : Cx} {SA : Nat → Nat} {T : Nat → List Nat} {es es2 : List Nat} {k : Int32} {H H1 : Heap}
theorem SW.ne (h : SW G SA T es es2 k H) {i j : Nat} (hi : i < 39) (hj : j < 39) (hn : i ≠ j) : SA i ≠ SA j := fun q => hn (h.1 i j hi hj q)
theorem SW.line (h : SW G SA T es es2 k H) {i : Nat} (hi : i < 16) : LA G (SA (7 + 2 * i)) (SA (8 + 2 * i)) (T i) H := h.2.2.2.2.1 i hi
theorem SW.pcs (h : SW G SA T es es2 k H) : PA G (SA 3) (SA 35) (SA 36) (SA 4) (T 14) es H := ⟨h.2.2.2.2.2.1, h.line (i := 14) (by decide), h.2.2.2.2.2.2.1, h.ne (by decide) (by decide) (by decide), h.ne (by decide) (by decide) (by decide), h.ne (by decide) (by decide) (by decide), h.ne (by decide) (by decide) (by decide), h.ne (by decide) (by decide) (by decide)⟩
theorem SW.trd (h : SW G SA T es es2 k H) : PA G (SA 5) (SA 37) (SA 38) (SA 6) (T 15) es2 H := ⟨h.2.2.2.2.2.2.2.1, h.line (i := 15) (by decide), h.2.2.2.2.2.2.2.2.1, h.ne (by decide) (by decide) (by decide), h.ne (by decide) (by decide) (by decide), h.ne (by decide) (by decide) (by decide), h.ne (by decide) (by decide) (by decide), h.ne (by decide) (by decide) (by decide)⟩
theorem SW.lt (h : SW G SA T es es2 k H) : ∀ i : Nat, i < 39 → SA i < H.size := fun i hi => by
  rcases Nat.lt_or_ge i 7 with q | q
  · match i, q with
    | 0, _ => exact h.2.1.lt
    | 1, _ => exact h.2.2.1.lt
    | 2, _ => exact h.2.2.2.1.lt
    | 3, _ => exact h.pcs.1.lt.1
    | 4, _ => exact h.pcs.1.lt.2
    | 5, _ => exact h.trd.1.lt.1
    | 6, _ => exact h.trd.1.lt.2
  · have e : i = 7 + 2 * ((i - 7) / 2) ∨ i = 8 + 2 * ((i - 7) / 2) := by omega
    have hl := (h.line (i := (i - 7) / 2) (by omega)).lt
    rcases e with e | e
    · rw [e]; exact hl.1
    · rw [e]; exact hl.2
theorem SW.kp {X : Nat → Prop} (h : SW G SA T es es2 k H) (hk : kp X H H1) (hX : ∀ i : Nat, i < 39 → ¬ X (SA i)) : SW G SA T es es2 k H1 :=
  ⟨h.1, at_kp h.2.1 hk (hX 0 (by decide)), at_kp h.2.2.1 hk (hX 1 (by decide)), at_kp h.2.2.2.1 hk (hX 2 (by decide)), fun i hi => (h.line hi).kp hk (hX _ (by omega)) (hX _ (by omega)), h.pcs.1.kp hk (hX 3 (by decide)) (hX 4 (by decide)), h.pcs.2.2.1, h.trd.1.kp hk (hX 5 (by decide)) (hX 6 (by decide)), h.trd.2.2.1, h.2.2.2.2.2.2.2.2.2⟩
theorem SW.nw (h : SW G SA T es es2 k H) (hk : Pilot.CSigntextLaw_law_r5956_0de32b.kp (nw H.size) H H1) : SW G SA T es es2 k H1 := h.kp hk (fun i hi => Nat.not_le_of_lt (h.lt i hi))
theorem SW.recv {s : State} (h : SW G SA T es es2 k H) (hK : va_K G.1 vwCl (tyL G.2.1) s) : ∃ cell : Cell, H[SA 0]? = some cell ∧ cell.vm.isStatics = false ∧ s.vm.findClass "Signtext" = some cell.cls := at_recv hK h.2.1 (q := (RX2, TX2, 8)) rfl
/-- one text for another -/
def updT (T : Nat → List Nat) (q : Nat) (t : List Nat) : Nat → List Nat := fun i => if i = q then t else T i
theorem updT_s {T : Nat → List Nat} {q : Nat} {t : List Nat} : updT T q t q = t := if_pos rfl
theorem updT_n {T : Nat → List Nat} {q i : Nat} {t : List Nat} (h : i ≠ q) : updT T q t i = T i := if_neg h
theorem SW.put (h : SW G SA T es es2 k H) {q : Nat} {t : List Nat} (hq : q < 4 ∨ 11 ≤ q ∧ q < 14) (hk : Pilot.CSigntextLaw_law_r5956_0de32b.kp (ow (SA (7 + 2 * q)) (SA (8 + 2 * q)) H.size) H H1) (hL : LA G (SA (7 + 2 * q)) (SA (8 + 2 * q)) t H1) : SW G SA (updT T q t) es es2 k H1 := by
  have hX : ∀ i : Nat, i < 39 → i ≠ 7 + 2 * q → i ≠ 8 + 2 * q → ¬ ow (SA (7 + 2 * q)) (SA (8 + 2 * q)) H.size (SA i) := fun i hi h1 h2 => ow_no (h.ne hi (by omega) h1) (h.ne hi (by omega) h2) (h.lt i hi)
  have u14 : updT T q t 14 = T 14 := updT_n (by omega)
  have u15 : updT T q t 15 = T 15 := updT_n (by omega)
  refine ⟨h.1, at_kp h.2.1 hk (hX 0 (by decide) (by omega) (by omega)), at_kp h.2.2.1 hk (hX 1 (by decide) (by omega) (by omega)), at_kp h.2.2.2.1 hk (hX 2 (by decide) (by omega) (by omega)), fun i hi => ?_, h.pcs.1.kp hk (hX 3 (by decide) (by omega) (by omega)) (hX 4 (by decide) (by omega) (by omega)), by rw [u14]; exact h.pcs.2.2.1, h.trd.1.kp hk (hX 5 (by decide) (by omega) (by omega)) (hX 6 (by decide) (by omega) (by omega)), by rw [u15]; exact h.trd.2.2.1, fun i hi => ?_⟩
  · by_cases e : i = q
    · subst e; rw [updT_s]; exact hL
    · rw [updT_n e]; exact (h.line hi).kp hk (hX _ (by omega) (by omega) (by omega)) (hX _ (by omega) (by omega) (by omega))
  · rw [updT_n (by omega)]; exact h.2.2.2.2.2.2.2.2.2 i hi
/-- what a call sees: the four texts, the row, the text of the pieces and their ends, the knocks -/
def SS (G : Cx) (SA : Nat → Nat) (X : Nat → List Nat) (es : List Nat) (k : Int32) (H : Heap) : Prop := ∃ (T : Nat → List Nat) (es2 : List Nat), SW G SA T es es2 k H ∧ ∀ i : Nat, i < 4 ∨ i = 11 ∨ i = 14 → T i = X i
end WORLD
end
section
/-! The class, 1: what the calls ask first -/
theorem v_cv {p : Program} {l : Launch} {e : Env} {R : Room} {s : State} {m : MethodId} {args : Array Value} {below : List Frame} {meth : Method} {c : Code} {H : Heap} {locs : List Loc} {cells slots pc : Nat} {ls : Array Slot} {rest : List Value} {Q : State → Prop} {x y : Value} (h : x = y) (k : W p l e R s m args below meth c H locs cells slots Q (F0 m pc ls (y :: rest))) : W p l e R s m args below meth c H locs cells slots Q (F0 m pc ls (x :: rest)) := h ▸ k
theorem dX2_textOf_0 : decode cX2_textOf 0 = .ok (.iload_n 1, 1) := by decide +kernel
theorem dX2_textOf_1 : decode cX2_textOf 1 = .ok (.ifCond .lt 8, 3) := by decide +kernel
theorem dX2_textOf_4 : decode cX2_textOf 4 = .ok (.iload_n 1, 1) := by decide +kernel
theorem dX2_textOf_5 : decode cX2_textOf 5 = .ok (.iconst 4, 1) := by decide +kernel
theorem dX2_textOf_6 : decode cX2_textOf 6 = .ok (.if_icmp .lt 11, 3) := by decide +kernel
theorem dX2_textOf_9 : decode cX2_textOf 9 = .ok (.new 74, 3) := by decide +kernel
theorem dX2_textOf_12 : decode cX2_textOf 12 = .ok (.dup, 1) := by decide +kernel
theorem dX2_textOf_13 : decode cX2_textOf 13 = .ok (.invokespecial 76, 3) := by decide +kernel
theorem dX2_textOf_16 : decode cX2_textOf 16 = .ok (.athrow, 1) := by decide +kernel
theorem dX2_textOf_17 : decode cX2_textOf 17 = .ok (.aload_n 0, 1) := by decide +kernel
theorem dX2_textOf_18 : decode cX2_textOf 18 = .ok (.getfield 11, 3) := by decide +kernel
theorem dX2_textOf_21 : decode cX2_textOf 21 = .ok (.iload_n 1, 1) := by decide +kernel
theorem dX2_textOf_22 : decode cX2_textOf 22 = .ok (.aaload, 1) := by decide +kernel
theorem dX2_textOf_23 : decode cX2_textOf 23 = .ok (.areturn, 1) := by decide +kernel
theorem dX2_knownOf_0 : decode cX2_knownOf 0 = .ok (.iload_n 1, 1) := by decide +kernel
theorem dX2_knownOf_1 : decode cX2_knownOf 1 = .ok (.ifCond .lt 9, 3) := by decide +kernel
theorem dX2_knownOf_4 : decode cX2_knownOf 4 = .ok (.iload_n 1, 1) := by decide +kernel
theorem dX2_knownOf_5 : decode cX2_knownOf 5 = .ok (.bipush 7, 2) := by decide +kernel
theorem dX2_knownOf_7 : decode cX2_knownOf 7 = .ok (.if_icmp .lt 11, 3) := by decide +kernel
theorem dX2_knownOf_10 : decode cX2_knownOf 10 = .ok (.new 81, 3) := by decide +kernel
theorem dX2_knownOf_13 : decode cX2_knownOf 13 = .ok (.dup, 1) := by decide +kernel
theorem dX2_knownOf_14 : decode cX2_knownOf 14 = .ok (.invokespecial 83, 3) := by decide +kernel
theorem dX2_knownOf_17 : decode cX2_knownOf 17 = .ok (.athrow, 1) := by decide +kernel
theorem dX2_knownOf_18 : decode cX2_knownOf 18 = .ok (.aload_n 0, 1) := by decide +kernel
theorem dX2_knownOf_19 : decode cX2_knownOf 19 = .ok (.getfield 15, 3) := by decide +kernel
theorem dX2_knownOf_22 : decode cX2_knownOf 22 = .ok (.iload_n 1, 1) := by decide +kernel
theorem dX2_knownOf_23 : decode cX2_knownOf 23 = .ok (.aaload, 1) := by decide +kernel
theorem dX2_knownOf_24 : decode cX2_knownOf 24 = .ok (.areturn, 1) := by decide +kernel
theorem dX2_codeOf_0 : decode cX2_codeOf 0 = .ok (.iload_n 0, 1) := by decide +kernel
theorem dX2_codeOf_1 : decode cX2_codeOf 1 = .ok (.ifCond .lt 11, 3) := by decide +kernel
theorem dX2_codeOf_4 : decode cX2_codeOf 4 = .ok (.iload_n 0, 1) := by decide +kernel
theorem dX2_codeOf_5 : decode cX2_codeOf 5 = .ok (.getstatic 228, 3) := by decide +kernel
theorem dX2_codeOf_8 : decode cX2_codeOf 8 = .ok (.arraylength, 1) := by decide +kernel
theorem dX2_codeOf_9 : decode cX2_codeOf 9 = .ok (.if_icmp .lt 11, 3) := by decide +kernel
theorem dX2_codeOf_12 : decode cX2_codeOf 12 = .ok (.new 81, 3) := by decide +kernel
theorem dX2_codeOf_15 : decode cX2_codeOf 15 = .ok (.dup, 1) := by decide +kernel
theorem dX2_codeOf_16 : decode cX2_codeOf 16 = .ok (.invokespecial 83, 3) := by decide +kernel
theorem dX2_codeOf_19 : decode cX2_codeOf 19 = .ok (.athrow, 1) := by decide +kernel
theorem dX2_codeOf_20 : decode cX2_codeOf 20 = .ok (.getstatic 228, 3) := by decide +kernel
theorem dX2_codeOf_23 : decode cX2_codeOf 23 = .ok (.iload_n 0, 1) := by decide +kernel
theorem dX2_codeOf_24 : decode cX2_codeOf 24 = .ok (.iaload, 1) := by decide +kernel
theorem dX2_codeOf_25 : decode cX2_codeOf 25 = .ok (.ireturn, 1) := by decide +kernel
theorem dX2_needPlace_0 : decode cX2_needPlace 0 = .ok (.iload_n 1, 1) := by decide +kernel
theorem dX2_needPlace_1 : decode cX2_needPlace 1 = .ok (.ifCond .lt 11, 3) := by decide +kernel
theorem dX2_needPlace_4 : decode cX2_needPlace 4 = .ok (.iload_n 1, 1) := by decide +kernel
theorem dX2_needPlace_5 : decode cX2_needPlace 5 = .ok (.aload_n 0, 1) := by decide +kernel
theorem dX2_needPlace_6 : decode cX2_needPlace 6 = .ok (.invokevirtual 66, 3) := by decide +kernel
theorem dX2_needPlace_9 : decode cX2_needPlace 9 = .ok (.if_icmp .lt 11, 3) := by decide +kernel
theorem dX2_needPlace_12 : decode cX2_needPlace 12 = .ok (.new 74, 3) := by decide +kernel
theorem dX2_needPlace_15 : decode cX2_needPlace 15 = .ok (.dup, 1) := by decide +kernel
theorem dX2_needPlace_16 : decode cX2_needPlace 16 = .ok (.invokespecial 76, 3) := by decide +kernel
theorem dX2_needPlace_19 : decode cX2_needPlace 19 = .ok (.athrow, 1) := by decide +kernel
theorem dX2_needPlace_20 : decode cX2_needPlace 20 = .ok (.return_, 1) := by decide +kernel
theorem dX2_needPlaceOrEnd_0 : decode cX2_needPlaceOrEnd 0 = .ok (.iload_n 1, 1) := by decide +kernel
theorem dX2_needPlaceOrEnd_1 : decode cX2_needPlaceOrEnd 1 = .ok (.ifCond .lt 11, 3) := by decide +kernel
theorem dX2_needPlaceOrEnd_4 : decode cX2_needPlaceOrEnd 4 = .ok (.iload_n 1, 1) := by decide +kernel
theorem dX2_needPlaceOrEnd_5 : decode cX2_needPlaceOrEnd 5 = .ok (.aload_n 0, 1) := by decide +kernel
theorem dX2_needPlaceOrEnd_6 : decode cX2_needPlaceOrEnd 6 = .ok (.invokevirtual 66, 3) := by decide +kernel
theorem dX2_needPlaceOrEnd_9 : decode cX2_needPlaceOrEnd 9 = .ok (.if_icmp .le 11, 3) := by decide +kernel
theorem dX2_needPlaceOrEnd_12 : decode cX2_needPlaceOrEnd 12 = .ok (.new 74, 3) := by decide +kernel
theorem dX2_needPlaceOrEnd_15 : decode cX2_needPlaceOrEnd 15 = .ok (.dup, 1) := by decide +kernel
theorem dX2_needPlaceOrEnd_16 : decode cX2_needPlaceOrEnd 16 = .ok (.invokespecial 76, 3) := by decide +kernel
theorem dX2_needPlaceOrEnd_19 : decode cX2_needPlaceOrEnd 19 = .ok (.athrow, 1) := by decide +kernel
theorem dX2_needPlaceOrEnd_20 : decode cX2_needPlaceOrEnd 20 = .ok (.return_, 1) := by decide +kernel
theorem dX2_needPiece_0 : decode cX2_needPiece 0 = .ok (.iload_n 1, 1) := by decide +kernel
theorem dX2_needPiece_1 : decode cX2_needPiece 1 = .ok (.ifCond .lt 14, 3) := by decide +kernel
theorem dX2_needPiece_4 : decode cX2_needPiece 4 = .ok (.iload_n 1, 1) := by decide +kernel
theorem dX2_needPiece_5 : decode cX2_needPiece 5 = .ok (.aload_n 0, 1) := by decide +kernel
theorem dX2_needPiece_6 : decode cX2_needPiece 6 = .ok (.getfield 26, 3) := by decide +kernel
theorem dX2_needPiece_9 : decode cX2_needPiece 9 = .ok (.invokevirtual 138, 3) := by decide +kernel
theorem dX2_needPiece_12 : decode cX2_needPiece 12 = .ok (.if_icmp .lt 11, 3) := by decide +kernel
theorem dX2_needPiece_15 : decode cX2_needPiece 15 = .ok (.new 74, 3) := by decide +kernel
theorem dX2_needPiece_18 : decode cX2_needPiece 18 = .ok (.dup, 1) := by decide +kernel
theorem dX2_needPiece_19 : decode cX2_needPiece 19 = .ok (.invokespecial 76, 3) := by decide +kernel
theorem dX2_needPiece_22 : decode cX2_needPiece 22 = .ok (.athrow, 1) := by decide +kernel
theorem dX2_needPiece_23 : decode cX2_needPiece 23 = .ok (.return_, 1) := by decide +kernel
theorem dX2_needRoom_0 : decode cX2_needRoom 0 = .ok (.iload_n 0, 1) := by decide +kernel
theorem dX2_needRoom_1 : decode cX2_needRoom 1 = .ok (.bipush 60, 2) := by decide +kernel
theorem dX2_needRoom_3 : decode cX2_needRoom 3 = .ok (.if_icmp .le 11, 3) := by decide +kernel
theorem dX2_needRoom_6 : decode cX2_needRoom 6 = .ok (.new 232, 3) := by decide +kernel
theorem dX2_needRoom_9 : decode cX2_needRoom 9 = .ok (.dup, 1) := by decide +kernel
theorem dX2_needRoom_10 : decode cX2_needRoom 10 = .ok (.invokespecial 234, 3) := by decide +kernel
theorem dX2_needRoom_13 : decode cX2_needRoom 13 = .ok (.athrow, 1) := by decide +kernel
theorem dX2_needRoom_14 : decode cX2_needRoom 14 = .ok (.return_, 1) := by decide +kernel
abbrev rmX2_textOf : Room := { frames := 6, cells := 1, slots := 6, locals := 89 }
theorem mX2_textOf {l : Launch} {G : Cx} {A : Nat → Prop} (hst : l.stackTraces = false) {SA : Nat → Nat} {T : Nat → List Nat} {es es2 : List Nat} {k : Int32} {x : Int32} : vx_Met l yX2_textOf (.code yX2_textOf cX2_textOf 2 (some (.object "Signtext$Line")) :: GW) rmX2_textOf (PC G A [.ref (SA 0), .int x] (SW G SA T es es2 k)) (qR A (fun r H => (∃ i : Nat, i < 4 ∧ x = nI i ∧ r = SA (7 + 2 * i)) ∧ SW G SA T es es2 k H)) (xE A (fun E H => E = "java/lang/IndexOutOfBoundsException" ∧ (¬ ∃ i : Nat, i < 4 ∧ x = nI i) ∧ SW G SA T es es2 k H)) 1 6 A := by
  refine mstartX "Signtext" (by decide +kernel) rfl (Nat.le_of_ble_eq_true rfl) ?_
  intro p e s m below meth c ls hx hb hr hts hown hml hlocks hnx hC hA hW hl
  have hl : lv_has ls 2 [(0, .ref (SA 0)), (1, .int x)] := hl
  have hK := hC.1
  have hS : va_S A s.heap s.heap [] := va_S.rf
  have hO := hW.2.1
  have hR1 := hW.2.2.1
  have hR2 := hW.2.2.2.1
  refine lv_iload_n hx hb dX2_textOf_0 rfl (lv_at hl 1 rfl) ?_
  refine lv_if_lt (tgt := 9) hx hb dX2_textOf_1 (by decide) (fun c_1 => ?_) (fun c_1 => ?_)
  · exact t_new (nL := 2) (cls := "java/lang/IndexOutOfBoundsException") (ik := 74) (ic := 76) hx hb hst hown hts hC hS hl.1 hml (by decide +kernel) tw_3_8 tw_1_16 tA76 tB76 tG76 hnx hlocks (Nat.le_of_ble_eq_true rfl) (Nat.le_of_ble_eq_true rfl) (Nat.le_trans (show 0 + 1 ≤ 1 by omega) (Nat.le_of_ble_eq_true rfl)) (Nat.le_trans (show 0 + 6 ≤ 6 by omega) (Nat.le_of_ble_eq_true rfl)) (by omega) (by omega) dX2_textOf_9 dX2_textOf_12 dX2_textOf_13 dX2_textOf_16 (fun H9 hk9 => ⟨rfl, (fun ⟨i, h1, h2⟩ => by rw [h2] at c_1; exact nI_pos (by omega) c_1), hW.nw hk9⟩)
  · obtain ⟨i, hi31, rfl⟩ := nI_of c_1
    refine lv_iload_n hx hb dX2_textOf_4 rfl (lv_at hl 1 rfl) ?_
    refine lv_iconst (v := nI 4) hx hb dX2_textOf_5 (by decide) ?_
    refine b_lt (tgt := 17) hx hb dX2_textOf_6 (by decide) (by omega) (by omega) (fun c_2 => ?_) (fun c_2 => ?_)
    · refine lv_aload_n hx hb dX2_textOf_17 rfl (lv_at hl 0 rfl) ?_
      refine va_get (D := G.1) (ci := 6) (C := RX2) (T := TX2) (N := 8) hx hb hts inX2 hown hK (at_P hO) 0 rfl rfl 0 (by decide) (hts _ tw_1_137) (fun _ h9 => h9) rfl dX2_textOf_18 ?_
      refine lv_iload_n hx hb dX2_textOf_21 rfl (lv_at hl 1 rfl) ?_
      refine va_aldq (D := G.1) hx hb hK (at_P hR1) 0 3 rfl rfl (vp_in_nI (n := i) (N := 4) (by omega) (by omega)) dX2_textOf_22 ?_
      refine v_cv (show va_rf _ = .ref (SA (7 + 2 * i)) from by rw [nI_clamp (n := i) (by omega)]; rfl) ?_
      exact vx_ret (q_a hx hb hr (Or.inl ⟨_, rfl⟩) hlocks dX2_textOf_23 hS (by omega) (by omega) ⟨⟨i, c_2, rfl, rfl⟩, hW⟩)
    · exact t_new (nL := 2) (cls := "java/lang/IndexOutOfBoundsException") (ik := 74) (ic := 76) hx hb hst hown hts hC hS hl.1 hml (by decide +kernel) tw_3_8 tw_1_16 tA76 tB76 tG76 hnx hlocks (Nat.le_of_ble_eq_true rfl) (Nat.le_of_ble_eq_true rfl) (Nat.le_trans (show 0 + 1 ≤ 1 by omega) (Nat.le_of_ble_eq_true rfl)) (Nat.le_trans (show 0 + 6 ≤ 6 by omega) (Nat.le_of_ble_eq_true rfl)) (by omega) (by omega) dX2_textOf_9 dX2_textOf_12 dX2_textOf_13 dX2_textOf_16 (fun H9 hk9 => ⟨rfl, (fun ⟨i9, h1, h2⟩ => by have := (nI_eq (by omega) (by omega)).mp h2; omega), hW.nw hk9⟩)

abbrev rmX2_knownOf : Room := { frames := 6, cells := 1, slots := 6, locals := 89 }
theorem mX2_knownOf {l : Launch} {G : Cx} {A : Nat → Prop} (hst : l.stackTraces = false) {SA : Nat → Nat} {T : Nat → List Nat} {es es2 : List Nat} {k : Int32} {x : Int32} : vx_Met l yX2_knownOf (.code yX2_knownOf cX2_knownOf 2 (some (.object "Signtext$Line")) :: GW) rmX2_knownOf (PC G A [.ref (SA 0), .int x] (SW G SA T es es2 k)) (qR A (fun r H => (∃ i : Nat, i < 7 ∧ x = nI i ∧ r = SA (15 + 2 * i)) ∧ SW G SA T es es2 k H)) (xE A (fun E H => E = "java/lang/IllegalArgumentException" ∧ (¬ ∃ i : Nat, i < 7 ∧ x = nI i) ∧ SW G SA T es es2 k H)) 1 6 A := by
  refine mstartX "Signtext" (by decide +kernel) rfl (Nat.le_of_ble_eq_true rfl) ?_
  intro p e s m below meth c ls hx hb hr hts hown hml hlocks hnx hC hA hW hl
  have hl : lv_has ls 2 [(0, .ref (SA 0)), (1, .int x)] := hl
  have hK := hC.1
  have hS : va_S A s.heap s.heap [] := va_S.rf
  have hO := hW.2.1
  have hR1 := hW.2.2.1
  have hR2 := hW.2.2.2.1
  refine lv_iload_n hx hb dX2_knownOf_0 rfl (lv_at hl 1 rfl) ?_
  refine lv_if_lt (tgt := 10) hx hb dX2_knownOf_1 (by decide) (fun c_3 => ?_) (fun c_3 => ?_)
  · exact t_new (nL := 2) (cls := "java/lang/IllegalArgumentException") (ik := 81) (ic := 83) hx hb hst hown hts hC hS hl.1 hml (by decide +kernel) tw_2_136 tw_1_17 tA83 tB83 tG83 hnx hlocks (Nat.le_of_ble_eq_true rfl) (Nat.le_of_ble_eq_true rfl) (Nat.le_trans (show 0 + 1 ≤ 1 by omega) (Nat.le_of_ble_eq_true rfl)) (Nat.le_trans (show 0 + 6 ≤ 6 by omega) (Nat.le_of_ble_eq_true rfl)) (by omega) (by omega) dX2_knownOf_10 dX2_knownOf_13 dX2_knownOf_14 dX2_knownOf_17 (fun H9 hk9 => ⟨rfl, (fun ⟨i, h1, h2⟩ => by rw [h2] at c_3; exact nI_pos (by omega) c_3), hW.nw hk9⟩)
  · obtain ⟨i, hi31, rfl⟩ := nI_of c_3
    refine lv_iload_n hx hb dX2_knownOf_4 rfl (lv_at hl 1 rfl) ?_
    refine lv_bipush (v := nI 7) hx hb dX2_knownOf_5 (by decide) ?_
    refine b_lt (tgt := 18) hx hb dX2_knownOf_7 (by decide) (by omega) (by omega) (fun c_4 => ?_) (fun c_4 => ?_)
    · refine lv_aload_n hx hb dX2_knownOf_18 rfl (lv_at hl 0 rfl) ?_
      refine va_get (D := G.1) (ci := 6) (C := RX2) (T := TX2) (N := 8) hx hb hts inX2 hown hK (at_P hO) 0 rfl rfl 1 (by decide) (hts _ tw_1_138) (fun _ h9 => h9) rfl dX2_knownOf_19 ?_
      refine lv_iload_n hx hb dX2_knownOf_22 rfl (lv_at hl 1 rfl) ?_
      refine va_aldq (D := G.1) hx hb hK (at_P hR2) 0 3 rfl rfl (vp_in_nI (n := i) (N := 7) (by omega) (by omega)) dX2_knownOf_23 ?_
      refine v_cv (show va_rf _ = .ref (SA (15 + 2 * i)) from by rw [nI_clamp (n := i) (by omega)]; rfl) ?_
      exact vx_ret (q_a hx hb hr (Or.inl ⟨_, rfl⟩) hlocks dX2_knownOf_24 hS (by omega) (by omega) ⟨⟨i, c_4, rfl, rfl⟩, hW⟩)
    · exact t_new (nL := 2) (cls := "java/lang/IllegalArgumentException") (ik := 81) (ic := 83) hx hb hst hown hts hC hS hl.1 hml (by decide +kernel) tw_2_136 tw_1_17 tA83 tB83 tG83 hnx hlocks (Nat.le_of_ble_eq_true rfl) (Nat.le_of_ble_eq_true rfl) (Nat.le_trans (show 0 + 1 ≤ 1 by omega) (Nat.le_of_ble_eq_true rfl)) (Nat.le_trans (show 0 + 6 ≤ 6 by omega) (Nat.le_of_ble_eq_true rfl)) (by omega) (by omega) dX2_knownOf_10 dX2_knownOf_13 dX2_knownOf_14 dX2_knownOf_17 (fun H9 hk9 => ⟨rfl, (fun ⟨i9, h1, h2⟩ => by have := (nI_eq (by omega) (by omega)).mp h2; omega), hW.nw hk9⟩)

abbrev rmX2_codeOf : Room := { frames := 6, cells := 1, slots := 6, locals := 89 }
theorem mX2_codeOf {l : Launch} {G : Cx} {A : Nat → Prop} (hst : l.stackTraces = false) {SA : Nat → Nat} {T : Nat → List Nat} {es es2 : List Nat} {k : Int32} {x : Int32} : vx_Met l yX2_codeOf (.code yX2_codeOf cX2_codeOf 1 (some .int) :: GW) rmX2_codeOf (PC G A [.int x] (SW G SA T es es2 k)) (qI A (fun r H => (∃ i : Nat, i < 24 ∧ x = nI i ∧ r = nI (codeT.getD i 0)) ∧ SW G SA T es es2 k H)) (xE A (fun E H => E = "java/lang/IllegalArgumentException" ∧ (¬ ∃ i : Nat, i < 24 ∧ x = nI i) ∧ SW G SA T es es2 k H)) 1 6 A := by
  refine mstartX "Signtext" (by decide +kernel) rfl (Nat.le_of_ble_eq_true rfl) ?_
  intro p e s m below meth c ls hx hb hr hts hown hml hlocks hnx hC hA hW hl
  have hl : lv_has ls 1 [(0, .int x)] := hl
  have hK := hC.1
  have hS : va_S A s.heap s.heap [] := va_S.rf
  obtain ⟨z1, z2, z3, z4, z5, z6, z7, z8, z9, z10, z11, z12, z13⟩ := hC.2.2.1
  refine lv_iload_n hx hb dX2_codeOf_0 rfl (lv_at hl 0 rfl) ?_
  refine lv_if_lt (tgt := 12) hx hb dX2_codeOf_1 (by decide) (fun c_5 => ?_) (fun c_5 => ?_)
  · exact t_new (nL := 1) (cls := "java/lang/IllegalArgumentException") (ik := 81) (ic := 83) hx hb hst hown hts hC hS hl.1 hml (by decide +kernel) tw_2_136 tw_1_17 tA83 tB83 tG83 hnx hlocks (Nat.le_of_ble_eq_true rfl) (Nat.le_of_ble_eq_true rfl) (Nat.le_trans (show 0 + 1 ≤ 1 by omega) (Nat.le_of_ble_eq_true rfl)) (Nat.le_trans (show 0 + 6 ≤ 6 by omega) (Nat.le_of_ble_eq_true rfl)) (by omega) (by omega) dX2_codeOf_12 dX2_codeOf_15 dX2_codeOf_16 dX2_codeOf_19 (fun H9 hk9 => ⟨rfl, (fun ⟨i, h1, h2⟩ => by rw [h2] at c_5; exact nI_pos (by omega) c_5), hW.nw hk9⟩)
  · obtain ⟨i, hi31, rfl⟩ := nI_of c_5
    refine lv_iload_n hx hb dX2_codeOf_4 rfl (lv_at hl 0 rfl) ?_
    refine va_gets (v := .ref (G.2.2 0)) hx hb z1 hS hown (hts _ tw_3_30) (fun _ h9 => h9) dX2_codeOf_5 ?_
    refine va_tlen (v := nI 24) hx hb z2 hS rfl dX2_codeOf_8 ?_
    refine b_lt (tgt := 20) hx hb dX2_codeOf_9 (by decide) (by omega) (by omega) (fun c_6 => ?_) (fun c_6 => ?_)
    · refine va_gets (v := .ref (G.2.2 0)) hx hb z1 hS hown (hts _ tw_3_30) (fun _ h9 => h9) dX2_codeOf_20 ?_
      refine lv_iload_n hx hb dX2_codeOf_23 rfl (lv_at hl 0 rfl) ?_
      refine va_ti (v := .int (nI (codeT.getD i 0))) hx hb z2 hS (vp_in_nI (n := i) (N := 24) (by omega) (by omega)) (by rw [nI_clamp (n := i) (by omega)]) dX2_codeOf_24 ?_
      exact vx_ret (q_i hx hb hr hlocks dX2_codeOf_25 hS (by omega) (by omega) ⟨⟨i, c_6, rfl, rfl⟩, hW⟩)
    · exact t_new (nL := 1) (cls := "java/lang/IllegalArgumentException") (ik := 81) (ic := 83) hx hb hst hown hts hC hS hl.1 hml (by decide +kernel) tw_2_136 tw_1_17 tA83 tB83 tG83 hnx hlocks (Nat.le_of_ble_eq_true rfl) (Nat.le_of_ble_eq_true rfl) (Nat.le_trans (show 0 + 1 ≤ 1 by omega) (Nat.le_of_ble_eq_true rfl)) (Nat.le_trans (show 0 + 6 ≤ 6 by omega) (Nat.le_of_ble_eq_true rfl)) (by omega) (by omega) dX2_codeOf_12 dX2_codeOf_15 dX2_codeOf_16 dX2_codeOf_19 (fun H9 hk9 => ⟨rfl, (fun ⟨i9, h1, h2⟩ => by have := (nI_eq (by omega) (by omega)).mp h2; omega), hW.nw hk9⟩)

abbrev rmX2_needPlace : Room := { frames := 6, cells := 1, slots := 6, locals := 89 }
theorem mX2_needPlace {l : Launch} {G : Cx} {A : Nat → Prop} (hst : l.stackTraces = false) {SA : Nat → Nat} {T : Nat → List Nat} {es es2 : List Nat} {k : Int32} {q : Nat} {x : Int32} (hq : q < 16) : vx_Met l yX2_needPlace (.code yX2_needPlace cX2_needPlace 2 (none : Option Jvm.ClassFile.FieldType) :: GW) rmX2_needPlace (PC G A [.ref (SA (7 + 2 * q)), .int x] (SW G SA T es es2 k)) (qV A (fun H => (∃ i : Nat, i < (T q).length ∧ x = nI i) ∧ SW G SA T es es2 k H)) (xE A (fun E H => E = "java/lang/IndexOutOfBoundsException" ∧ (¬ ∃ i : Nat, i < (T q).length ∧ x = nI i) ∧ SW G SA T es es2 k H)) 1 6 A := by
  refine mstartX "Signtext" (by decide +kernel) rfl (Nat.le_of_ble_eq_true rfl) ?_
  intro p e s m below meth c ls hx hb hr hts hown hml hlocks hnx hC hA hW hl
  have hl : lv_has ls 2 [(0, .ref (SA (7 + 2 * q))), (1, .int x)] := hl
  have hK := hC.1
  have hS : va_S A s.heap s.heap [] := va_S.rf
  have t60 := (hW.line hq).1
  refine lv_iload_n hx hb dX2_needPlace_0 rfl (lv_at hl 1 rfl) ?_
  refine lv_if_lt (tgt := 12) hx hb dX2_needPlace_1 (by decide) (fun c_7 => ?_) (fun c_7 => ?_)
  · exact t_new (nL := 2) (cls := "java/lang/IndexOutOfBoundsException") (ik := 74) (ic := 76) hx hb hst hown hts hC hS hl.1 hml (by decide +kernel) tw_3_8 tw_1_16 tA76 tB76 tG76 hnx hlocks (Nat.le_of_ble_eq_true rfl) (Nat.le_of_ble_eq_true rfl) (Nat.le_trans (show 0 + 1 ≤ 1 by omega) (Nat.le_of_ble_eq_true rfl)) (Nat.le_trans (show 0 + 6 ≤ 6 by omega) (Nat.le_of_ble_eq_true rfl)) (by omega) (by omega) dX2_needPlace_12 dX2_needPlace_15 dX2_needPlace_16 dX2_needPlace_19 (fun H9 hk9 => ⟨rfl, (fun ⟨i, h1, h2⟩ => by rw [h2] at c_7; exact nI_pos (by omega) c_7), hW.nw hk9⟩)
  · obtain ⟨i, hi31, rfl⟩ := nI_of c_7
    refine lv_iload_n hx hb dX2_needPlace_4 rfl (lv_at hl 1 rfl) ?_
    refine lv_aload_n hx hb dX2_needPlace_5 rfl (lv_at hl 0 rfl) ?_
    refine kV_i (A := A) (b := (SA (7 + 2 * q))) (As := []) (rest := .int (nI i) :: []) ⟨hx, hb, hml, hown, hts⟩ (mX0_size (A := A) (ca := SA (8 + 2 * q))) (cwV 0 hts (gV tw_2_30 tw_2_12 tw_2_13 tw_1_2 tw_2_14) rfl rfl rfl (by decide +kernel) ⟨Nat.le_of_ble_eq_true rfl, Nat.le_of_ble_eq_true rfl⟩) hC hS hA ((hW.line hq).recv hK) (hW.line hq) rfl rfl hl.1 (Nat.le_of_ble_eq_true rfl) ⟨Nat.zero_le _, Nat.zero_le _⟩ dX2_needPlace_6 (fun r9 h9 => lv_cv h9 ?_)
    refine b_lt (tgt := 20) hx hb dX2_needPlace_9 (by decide) (by omega) (by omega) (fun c_8 => ?_) (fun c_8 => ?_)
    · exact vx_ret (q_v hx hb hr hlocks dX2_needPlace_20 hS (by omega) (by omega) ⟨⟨i, c_8, rfl⟩, hW⟩)
    · exact t_new (nL := 2) (cls := "java/lang/IndexOutOfBoundsException") (ik := 74) (ic := 76) hx hb hst hown hts hC hS hl.1 hml (by decide +kernel) tw_3_8 tw_1_16 tA76 tB76 tG76 hnx hlocks (Nat.le_of_ble_eq_true rfl) (Nat.le_of_ble_eq_true rfl) (Nat.le_trans (show 0 + 1 ≤ 1 by omega) (Nat.le_of_ble_eq_true rfl)) (Nat.le_trans (show 0 + 6 ≤ 6 by omega) (Nat.le_of_ble_eq_true rfl)) (by omega) (by omega) dX2_needPlace_12 dX2_needPlace_15 dX2_needPlace_16 dX2_needPlace_19 (fun H9 hk9 => ⟨rfl, (fun ⟨i9, h1, h2⟩ => by have := (nI_eq (by omega) (by omega)).mp h2; omega), hW.nw hk9⟩)

abbrev rmX2_needPlaceOrEnd : Room := { frames := 6, cells := 1, slots := 6, locals := 89 }
theorem mX2_needPlaceOrEnd {l : Launch} {G : Cx} {A : Nat → Prop} (hst : l.stackTraces = false) {SA : Nat → Nat} {T : Nat → List Nat} {es es2 : List Nat} {k : Int32} {q : Nat} {x : Int32} (hq : q < 16) : vx_Met l yX2_needPlaceOrEnd (.code yX2_needPlaceOrEnd cX2_needPlaceOrEnd 2 (none : Option Jvm.ClassFile.FieldType) :: GW) rmX2_needPlaceOrEnd (PC G A [.ref (SA (7 + 2 * q)), .int x] (SW G SA T es es2 k)) (qV A (fun H => (∃ i : Nat, i ≤ (T q).length ∧ x = nI i) ∧ SW G SA T es es2 k H)) (xE A (fun E H => E = "java/lang/IndexOutOfBoundsException" ∧ (¬ ∃ i : Nat, i ≤ (T q).length ∧ x = nI i) ∧ SW G SA T es es2 k H)) 1 6 A := by
  refine mstartX "Signtext" (by decide +kernel) rfl (Nat.le_of_ble_eq_true rfl) ?_
  intro p e s m below meth c ls hx hb hr hts hown hml hlocks hnx hC hA hW hl
  have hl : lv_has ls 2 [(0, .ref (SA (7 + 2 * q))), (1, .int x)] := hl
  have hK := hC.1
  have hS : va_S A s.heap s.heap [] := va_S.rf
  have t60 := (hW.line hq).1
  refine lv_iload_n hx hb dX2_needPlaceOrEnd_0 rfl (lv_at hl 1 rfl) ?_
  refine lv_if_lt (tgt := 12) hx hb dX2_needPlaceOrEnd_1 (by decide) (fun c_9 => ?_) (fun c_9 => ?_)
  · exact t_new (nL := 2) (cls := "java/lang/IndexOutOfBoundsException") (ik := 74) (ic := 76) hx hb hst hown hts hC hS hl.1 hml (by decide +kernel) tw_3_8 tw_1_16 tA76 tB76 tG76 hnx hlocks (Nat.le_of_ble_eq_true rfl) (Nat.le_of_ble_eq_true rfl) (Nat.le_trans (show 0 + 1 ≤ 1 by omega) (Nat.le_of_ble_eq_true rfl)) (Nat.le_trans (show 0 + 6 ≤ 6 by omega) (Nat.le_of_ble_eq_true rfl)) (by omega) (by omega) dX2_needPlaceOrEnd_12 dX2_needPlaceOrEnd_15 dX2_needPlaceOrEnd_16 dX2_needPlaceOrEnd_19 (fun H9 hk9 => ⟨rfl, (fun ⟨i, h1, h2⟩ => by rw [h2] at c_9; exact nI_pos (by omega) c_9), hW.nw hk9⟩)
  · obtain ⟨i, hi31, rfl⟩ := nI_of c_9
    refine lv_iload_n hx hb dX2_needPlaceOrEnd_4 rfl (lv_at hl 1 rfl) ?_
    refine lv_aload_n hx hb dX2_needPlaceOrEnd_5 rfl (lv_at hl 0 rfl) ?_
    refine kV_i (A := A) (b := (SA (7 + 2 * q))) (As := []) (rest := .int (nI i) :: []) ⟨hx, hb, hml, hown, hts⟩ (mX0_size (A := A) (ca := SA (8 + 2 * q))) (cwV 0 hts (gV tw_2_30 tw_2_12 tw_2_13 tw_1_2 tw_2_14) rfl rfl rfl (by decide +kernel) ⟨Nat.le_of_ble_eq_true rfl, Nat.le_of_ble_eq_true rfl⟩) hC hS hA ((hW.line hq).recv hK) (hW.line hq) rfl rfl hl.1 (Nat.le_of_ble_eq_true rfl) ⟨Nat.zero_le _, Nat.zero_le _⟩ dX2_needPlaceOrEnd_6 (fun r9 h9 => lv_cv h9 ?_)
    refine b_le (tgt := 20) hx hb dX2_needPlaceOrEnd_9 (by decide) (by omega) (by omega) (fun c_10 => ?_) (fun c_10 => ?_)
    · exact vx_ret (q_v hx hb hr hlocks dX2_needPlaceOrEnd_20 hS (by omega) (by omega) ⟨⟨i, c_10, rfl⟩, hW⟩)
    · exact t_new (nL := 2) (cls := "java/lang/IndexOutOfBoundsException") (ik := 74) (ic := 76) hx hb hst hown hts hC hS hl.1 hml (by decide +kernel) tw_3_8 tw_1_16 tA76 tB76 tG76 hnx hlocks (Nat.le_of_ble_eq_true rfl) (Nat.le_of_ble_eq_true rfl) (Nat.le_trans (show 0 + 1 ≤ 1 by omega) (Nat.le_of_ble_eq_true rfl)) (Nat.le_trans (show 0 + 6 ≤ 6 by omega) (Nat.le_of_ble_eq_true rfl)) (by omega) (by omega) dX2_needPlaceOrEnd_12 dX2_needPlaceOrEnd_15 dX2_needPlaceOrEnd_16 dX2_needPlaceOrEnd_19 (fun H9 hk9 => ⟨rfl, (fun ⟨i9, h1, h2⟩ => by have := (nI_eq (by omega) (by omega)).mp h2; omega), hW.nw hk9⟩)

abbrev rmX2_needPiece : Room := { frames := 6, cells := 1, slots := 6, locals := 89 }
theorem mX2_needPiece {l : Launch} {G : Cx} {A : Nat → Prop} (hst : l.stackTraces = false) {SA : Nat → Nat} {T : Nat → List Nat} {es es2 : List Nat} {k : Int32} {x : Int32} : vx_Met l yX2_needPiece (.code yX2_needPiece cX2_needPiece 2 (none : Option Jvm.ClassFile.FieldType) :: GW) rmX2_needPiece (PC G A [.ref (SA 0), .int x] (SW G SA T es es2 k)) (qV A (fun H => (∃ i : Nat, i < es.length ∧ x = nI i) ∧ SW G SA T es es2 k H)) (xE A (fun E H => E = "java/lang/IndexOutOfBoundsException" ∧ (¬ ∃ i : Nat, i < es.length ∧ x = nI i) ∧ SW G SA T es es2 k H)) 1 6 A := by
  refine mstartX "Signtext" (by decide +kernel) rfl (Nat.le_of_ble_eq_true rfl) ?_
  intro p e s m below meth c ls hx hb hr hts hown hml hlocks hnx hC hA hW hl
  have hl : lv_has ls 2 [(0, .ref (SA 0)), (1, .int x)] := hl
  have hK := hC.1
  have hS : va_S A s.heap s.heap [] := va_S.rf
  have hPB := hW.pcs.1
  have e61 := hPB.1
  have hO := hW.2.1
  have hR1 := hW.2.2.1
  have hR2 := hW.2.2.2.1
  refine lv_iload_n hx hb dX2_needPiece_0 rfl (lv_at hl 1 rfl) ?_
  refine lv_if_lt (tgt := 15) hx hb dX2_needPiece_1 (by decide) (fun c_11 => ?_) (fun c_11 => ?_)
  · exact t_new (nL := 2) (cls := "java/lang/IndexOutOfBoundsException") (ik := 74) (ic := 76) hx hb hst hown hts hC hS hl.1 hml (by decide +kernel) tw_3_8 tw_1_16 tA76 tB76 tG76 hnx hlocks (Nat.le_of_ble_eq_true rfl) (Nat.le_of_ble_eq_true rfl) (Nat.le_trans (show 0 + 1 ≤ 1 by omega) (Nat.le_of_ble_eq_true rfl)) (Nat.le_trans (show 0 + 6 ≤ 6 by omega) (Nat.le_of_ble_eq_true rfl)) (by omega) (by omega) dX2_needPiece_15 dX2_needPiece_18 dX2_needPiece_19 dX2_needPiece_22 (fun H9 hk9 => ⟨rfl, (fun ⟨i, h1, h2⟩ => by rw [h2] at c_11; exact nI_pos (by omega) c_11), hW.nw hk9⟩)
  · obtain ⟨i, hi31, rfl⟩ := nI_of c_11
    refine lv_iload_n hx hb dX2_needPiece_4 rfl (lv_at hl 1 rfl) ?_
    refine lv_aload_n hx hb dX2_needPiece_5 rfl (lv_at hl 0 rfl) ?_
    refine va_get (D := G.1) (ci := 6) (C := RX2) (T := TX2) (N := 8) hx hb hts inX2 hown hK (at_P hO) 0 rfl rfl 3 (by decide) (hts _ tw_1_140) (fun _ h9 => h9) rfl dX2_needPiece_6 ?_
    refine kV_i (A := A) (b := (SA 3)) (As := []) (rest := .int (nI i) :: []) ⟨hx, hb, hml, hown, hts⟩ (mX1_size (A := A) (la := SA 35) (ea := SA 4)) (cwV 0 hts (gV tw_2_82 tw_2_83 tw_2_84 tw_1_3 tw_2_85) rfl rfl rfl (by decide +kernel) ⟨Nat.le_of_ble_eq_true rfl, Nat.le_of_ble_eq_true rfl⟩) hC hS hA (hPB.recv hK) hPB rfl rfl hl.1 (Nat.le_of_ble_eq_true rfl) ⟨Nat.zero_le _, Nat.zero_le _⟩ dX2_needPiece_9 (fun r9 h9 => lv_cv h9 ?_)
    refine b_lt (tgt := 23) hx hb dX2_needPiece_12 (by decide) (by omega) (by omega) (fun c_12 => ?_) (fun c_12 => ?_)
    · exact vx_ret (q_v hx hb hr hlocks dX2_needPiece_23 hS (by omega) (by omega) ⟨⟨i, c_12, rfl⟩, hW⟩)
    · exact t_new (nL := 2) (cls := "java/lang/IndexOutOfBoundsException") (ik := 74) (ic := 76) hx hb hst hown hts hC hS hl.1 hml (by decide +kernel) tw_3_8 tw_1_16 tA76 tB76 tG76 hnx hlocks (Nat.le_of_ble_eq_true rfl) (Nat.le_of_ble_eq_true rfl) (Nat.le_trans (show 0 + 1 ≤ 1 by omega) (Nat.le_of_ble_eq_true rfl)) (Nat.le_trans (show 0 + 6 ≤ 6 by omega) (Nat.le_of_ble_eq_true rfl)) (by omega) (by omega) dX2_needPiece_15 dX2_needPiece_18 dX2_needPiece_19 dX2_needPiece_22 (fun H9 hk9 => ⟨rfl, (fun ⟨i9, h1, h2⟩ => by have := (nI_eq (by omega) (by omega)).mp h2; omega), hW.nw hk9⟩)

abbrev rmX2_needRoom : Room := { frames := 6, cells := 1, slots := 6, locals := 89 }
theorem mX2_needRoom {l : Launch} {G : Cx} {A : Nat → Prop} (hst : l.stackTraces = false) {SA : Nat → Nat} {T : Nat → List Nat} {es es2 : List Nat} {k : Int32} {n : Nat} (hn : n < 2 ^ 31) : vx_Met l yX2_needRoom (.code yX2_needRoom cX2_needRoom 1 (none : Option Jvm.ClassFile.FieldType) :: GW) rmX2_needRoom (PC G A [.int (nI n)] (SW G SA T es es2 k)) (qV A (fun H => n ≤ 60 ∧ SW G SA T es es2 k H)) (xE A (fun E H => E = "java/lang/IllegalStateException" ∧ 60 < n ∧ SW G SA T es es2 k H)) 1 6 A := by
  refine mstartX "Signtext" (by decide +kernel) rfl (Nat.le_of_ble_eq_true rfl) ?_
  intro p e s m below meth c ls hx hb hr hts hown hml hlocks hnx hC hA hW hl
  have hl : lv_has ls 1 [(0, .int (nI n))] := hl
  have hK := hC.1
  have hS : va_S A s.heap s.heap [] := va_S.rf
  refine lv_iload_n hx hb dX2_needRoom_0 rfl (lv_at hl 0 rfl) ?_
  refine lv_bipush (v := nI 60) hx hb dX2_needRoom_1 (by decide) ?_
  refine b_le (tgt := 14) hx hb dX2_needRoom_3 (by decide) (by omega) (by omega) (fun c_13 => ?_) (fun c_13 => ?_)
  · exact vx_ret (q_v hx hb hr hlocks dX2_needRoom_14 hS (by omega) (by omega) ⟨c_13, hW⟩)
  · exact t_new (nL := 1) (cls := "java/lang/IllegalStateException") (ik := 232) (ic := 234) hx hb hst hown hts hC hS hl.1 hml (by decide +kernel) tw_3_39 tw_1_18 tA234 tB234 tG234 hnx hlocks (Nat.le_of_ble_eq_true rfl) (Nat.le_of_ble_eq_true rfl) (Nat.le_trans (show 0 + 1 ≤ 1 by omega) (Nat.le_of_ble_eq_true rfl)) (Nat.le_trans (show 0 + 6 ≤ 6 by omega) (Nat.le_of_ble_eq_true rfl)) (by omega) (by omega) dX2_needRoom_6 dX2_needRoom_9 dX2_needRoom_10 dX2_needRoom_13 (fun H9 hk9 => ⟨rfl, c_13, hW.nw hk9⟩)
end
section
/-! The class, 2: how texts are made -/
def addS (t : List Nat) (x : Int32) (w : List Nat) : Prop := (x = -1 ∧ w = t) ∨ ∃ i : Nat, i < 24 ∧ x = nI i ∧ w = (t ++ [codeT.getD i 0]).take 60
theorem updT_id {T : Nat → List Nat} {q : Nat} : updT T q (T q) = T := by
  funext i; unfold updT; split
  · next h => rw [h]
  · rfl
theorem updT_2 {T : Nat → List Nat} {q : Nat} {a b : List Nat} : updT (updT T q a) q b = updT T q b := by
  funext i; unfold updT; split <;> rfl
theorem codeT_lt (i : Nat) : codeT.getD i 0 < 256 := by
  have k : ∀ j : Fin 24, codeT.getD j.1 0 < 256 := by decide +kernel
  rcases Nat.lt_or_ge i 24 with q | q
  · exact k ⟨i, q⟩
  · rw [List.getD_eq_getElem?_getD, List.getElem?_eq_none (by exact q)]; decide
def wkN : Nat → Nat
  | 0 => 6
  | i + 1 => i
theorem dX2_addSignOrNone_0 : decode cX2_addSignOrNone 0 = .ok (.iload_n 1, 1) := by decide +kernel
theorem dX2_addSignOrNone_1 : decode cX2_addSignOrNone 1 = .ok (.iconst (-1), 1) := by decide +kernel
theorem dX2_addSignOrNone_2 : decode cX2_addSignOrNone 2 = .ok (.if_icmp .eq 14, 3) := by decide +kernel
theorem dX2_addSignOrNone_5 : decode cX2_addSignOrNone 5 = .ok (.aload_n 0, 1) := by decide +kernel
theorem dX2_addSignOrNone_6 : decode cX2_addSignOrNone 6 = .ok (.getfield 34, 3) := by decide +kernel
theorem dX2_addSignOrNone_9 : decode cX2_addSignOrNone 9 = .ok (.iload_n 1, 1) := by decide +kernel
theorem dX2_addSignOrNone_10 : decode cX2_addSignOrNone 10 = .ok (.invokestatic 115, 3) := by decide +kernel
theorem dX2_addSignOrNone_13 : decode cX2_addSignOrNone 13 = .ok (.invokevirtual 119, 3) := by decide +kernel
theorem dX2_addSignOrNone_16 : decode cX2_addSignOrNone 16 = .ok (.return_, 1) := by decide +kernel
theorem dX2_addMade_0 : decode cX2_addMade 0 = .ok (.iload_n 2, 1) := by decide +kernel
theorem dX2_addMade_1 : decode cX2_addMade 1 = .ok (.ifCond .eq 16, 3) := by decide +kernel
theorem dX2_addMade_4 : decode cX2_addMade 4 = .ok (.aload_n 0, 1) := by decide +kernel
theorem dX2_addMade_5 : decode cX2_addMade 5 = .ok (.aload_n 0, 1) := by decide +kernel
theorem dX2_addMade_6 : decode cX2_addMade 6 = .ok (.getfield 34, 3) := by decide +kernel
theorem dX2_addMade_9 : decode cX2_addMade 9 = .ok (.aload_n 1, 1) := by decide +kernel
theorem dX2_addMade_10 : decode cX2_addMade 10 = .ok (.aload_n 1, 1) := by decide +kernel
theorem dX2_addMade_11 : decode cX2_addMade 11 = .ok (.invokevirtual 62, 3) := by decide +kernel
theorem dX2_addMade_14 : decode cX2_addMade 14 = .ok (.goto 13, 3) := by decide +kernel
theorem dX2_addMade_17 : decode cX2_addMade 17 = .ok (.aload_n 0, 1) := by decide +kernel
theorem dX2_addMade_18 : decode cX2_addMade 18 = .ok (.aload_n 1, 1) := by decide +kernel
theorem dX2_addMade_19 : decode cX2_addMade 19 = .ok (.aload_n 0, 1) := by decide +kernel
theorem dX2_addMade_20 : decode cX2_addMade 20 = .ok (.getfield 34, 3) := by decide +kernel
theorem dX2_addMade_23 : decode cX2_addMade 23 = .ok (.aload_n 1, 1) := by decide +kernel
theorem dX2_addMade_24 : decode cX2_addMade 24 = .ok (.invokevirtual 62, 3) := by decide +kernel
theorem dX2_addMade_27 : decode cX2_addMade 27 = .ok (.ireturn, 1) := by decide +kernel
theorem dX2_joinInto_0 : decode cX2_joinInto 0 = .ok (.aload_n 1, 1) := by decide +kernel
theorem dX2_joinInto_1 : decode cX2_joinInto 1 = .ok (.invokevirtual 66, 3) := by decide +kernel
theorem dX2_joinInto_4 : decode cX2_joinInto 4 = .ok (.aload_n 2, 1) := by decide +kernel
theorem dX2_joinInto_5 : decode cX2_joinInto 5 = .ok (.invokevirtual 66, 3) := by decide +kernel
theorem dX2_joinInto_8 : decode cX2_joinInto 8 = .ok (.iadd, 1) := by decide +kernel
theorem dX2_joinInto_9 : decode cX2_joinInto 9 = .ok (.invokestatic 84, 3) := by decide +kernel
theorem dX2_joinInto_12 : decode cX2_joinInto 12 = .ok (.aload_n 0, 1) := by decide +kernel
theorem dX2_joinInto_13 : decode cX2_joinInto 13 = .ok (.getfield 37, 3) := by decide +kernel
theorem dX2_joinInto_16 : decode cX2_joinInto 16 = .ok (.invokevirtual 55, 3) := by decide +kernel
theorem dX2_joinInto_19 : decode cX2_joinInto 19 = .ok (.aload_n 0, 1) := by decide +kernel
theorem dX2_joinInto_20 : decode cX2_joinInto 20 = .ok (.getfield 37, 3) := by decide +kernel
theorem dX2_joinInto_23 : decode cX2_joinInto 23 = .ok (.aload_n 1, 1) := by decide +kernel
theorem dX2_joinInto_24 : decode cX2_joinInto 24 = .ok (.invokevirtual 87, 3) := by decide +kernel
theorem dX2_joinInto_27 : decode cX2_joinInto 27 = .ok (.aload_n 0, 1) := by decide +kernel
theorem dX2_joinInto_28 : decode cX2_joinInto 28 = .ok (.getfield 37, 3) := by decide +kernel
theorem dX2_joinInto_31 : decode cX2_joinInto 31 = .ok (.aload_n 2, 1) := by decide +kernel
theorem dX2_joinInto_32 : decode cX2_joinInto 32 = .ok (.invokevirtual 87, 3) := by decide +kernel
theorem dX2_joinInto_35 : decode cX2_joinInto 35 = .ok (.aload_n 3, 1) := by decide +kernel
theorem dX2_joinInto_36 : decode cX2_joinInto 36 = .ok (.aload_n 0, 1) := by decide +kernel
theorem dX2_joinInto_37 : decode cX2_joinInto 37 = .ok (.getfield 37, 3) := by decide +kernel
theorem dX2_joinInto_40 : decode cX2_joinInto 40 = .ok (.invokevirtual 91, 3) := by decide +kernel
theorem dX2_joinInto_43 : decode cX2_joinInto 43 = .ok (.aload_n 3, 1) := by decide +kernel
theorem dX2_joinInto_44 : decode cX2_joinInto 44 = .ok (.invokevirtual 66, 3) := by decide +kernel
theorem dX2_joinInto_47 : decode cX2_joinInto 47 = .ok (.ireturn, 1) := by decide +kernel
theorem dX2_partInto_0 : decode cX2_partInto 0 = .ok (.aload_n 0, 1) := by decide +kernel
theorem dX2_partInto_1 : decode cX2_partInto 1 = .ok (.getfield 37, 3) := by decide +kernel
theorem dX2_partInto_4 : decode cX2_partInto 4 = .ok (.invokevirtual 55, 3) := by decide +kernel
theorem dX2_partInto_7 : decode cX2_partInto 7 = .ok (.aload_n 0, 1) := by decide +kernel
theorem dX2_partInto_8 : decode cX2_partInto 8 = .ok (.getfield 37, 3) := by decide +kernel
theorem dX2_partInto_11 : decode cX2_partInto 11 = .ok (.aload_n 1, 1) := by decide +kernel
theorem dX2_partInto_12 : decode cX2_partInto 12 = .ok (.iload_n 2, 1) := by decide +kernel
theorem dX2_partInto_13 : decode cX2_partInto 13 = .ok (.iload_n 3, 1) := by decide +kernel
theorem dX2_partInto_14 : decode cX2_partInto 14 = .ok (.invokevirtual 235, 3) := by decide +kernel
theorem dX2_partInto_17 : decode cX2_partInto 17 = .ok (.aload 4, 2) := by decide +kernel
theorem dX2_partInto_19 : decode cX2_partInto 19 = .ok (.aload_n 0, 1) := by decide +kernel
theorem dX2_partInto_20 : decode cX2_partInto 20 = .ok (.getfield 37, 3) := by decide +kernel
theorem dX2_partInto_23 : decode cX2_partInto 23 = .ok (.invokevirtual 91, 3) := by decide +kernel
theorem dX2_partInto_26 : decode cX2_partInto 26 = .ok (.aload 4, 2) := by decide +kernel
theorem dX2_partInto_28 : decode cX2_partInto 28 = .ok (.invokevirtual 66, 3) := by decide +kernel
theorem dX2_partInto_31 : decode cX2_partInto 31 = .ok (.ireturn, 1) := by decide +kernel
theorem dX2_pieceInto_0 : decode cX2_pieceInto 0 = .ok (.aload_n 0, 1) := by decide +kernel
theorem dX2_pieceInto_1 : decode cX2_pieceInto 1 = .ok (.aload_n 0, 1) := by decide +kernel
theorem dX2_pieceInto_2 : decode cX2_pieceInto 2 = .ok (.getfield 26, 3) := by decide +kernel
theorem dX2_pieceInto_5 : decode cX2_pieceInto 5 = .ok (.invokevirtual 239, 3) := by decide +kernel
theorem dX2_pieceInto_8 : decode cX2_pieceInto 8 = .ok (.aload_n 0, 1) := by decide +kernel
theorem dX2_pieceInto_9 : decode cX2_pieceInto 9 = .ok (.getfield 26, 3) := by decide +kernel
theorem dX2_pieceInto_12 : decode cX2_pieceInto 12 = .ok (.iload_n 1, 1) := by decide +kernel
theorem dX2_pieceInto_13 : decode cX2_pieceInto 13 = .ok (.invokevirtual 222, 3) := by decide +kernel
theorem dX2_pieceInto_16 : decode cX2_pieceInto 16 = .ok (.aload_n 0, 1) := by decide +kernel
theorem dX2_pieceInto_17 : decode cX2_pieceInto 17 = .ok (.getfield 26, 3) := by decide +kernel
theorem dX2_pieceInto_20 : decode cX2_pieceInto 20 = .ok (.iload_n 1, 1) := by decide +kernel
theorem dX2_pieceInto_21 : decode cX2_pieceInto 21 = .ok (.invokevirtual 219, 3) := by decide +kernel
theorem dX2_pieceInto_24 : decode cX2_pieceInto 24 = .ok (.aload_n 2, 1) := by decide +kernel
theorem dX2_pieceInto_25 : decode cX2_pieceInto 25 = .ok (.invokevirtual 70, 3) := by decide +kernel
theorem dX2_pieceInto_28 : decode cX2_pieceInto 28 = .ok (.ireturn, 1) := by decide +kernel
theorem dX2_wordOfKnown_0 : decode cX2_wordOfKnown 0 = .ok (.iload_n 0, 1) := by decide +kernel
theorem dX2_wordOfKnown_1 : decode cX2_wordOfKnown 1 = .ok (.tableswitch 57 1 6 #[39, 42, 45, 48, 51, 54], 39) := by decide +kernel
theorem dX2_wordOfKnown_40 : decode cX2_wordOfKnown 40 = .ok (.ldc 243, 2) := by decide +kernel
theorem dX2_wordOfKnown_42 : decode cX2_wordOfKnown 42 = .ok (.areturn, 1) := by decide +kernel
theorem dX2_wordOfKnown_43 : decode cX2_wordOfKnown 43 = .ok (.ldc 245, 2) := by decide +kernel
theorem dX2_wordOfKnown_45 : decode cX2_wordOfKnown 45 = .ok (.areturn, 1) := by decide +kernel
theorem dX2_wordOfKnown_46 : decode cX2_wordOfKnown 46 = .ok (.ldc 247, 2) := by decide +kernel
theorem dX2_wordOfKnown_48 : decode cX2_wordOfKnown 48 = .ok (.areturn, 1) := by decide +kernel
theorem dX2_wordOfKnown_49 : decode cX2_wordOfKnown 49 = .ok (.ldc 249, 2) := by decide +kernel
theorem dX2_wordOfKnown_51 : decode cX2_wordOfKnown 51 = .ok (.areturn, 1) := by decide +kernel
theorem dX2_wordOfKnown_52 : decode cX2_wordOfKnown 52 = .ok (.ldc 251, 2) := by decide +kernel
theorem dX2_wordOfKnown_54 : decode cX2_wordOfKnown 54 = .ok (.areturn, 1) := by decide +kernel
theorem dX2_wordOfKnown_55 : decode cX2_wordOfKnown 55 = .ok (.ldc 253, 2) := by decide +kernel
theorem dX2_wordOfKnown_57 : decode cX2_wordOfKnown 57 = .ok (.areturn, 1) := by decide +kernel
theorem dX2_wordOfKnown_58 : decode cX2_wordOfKnown 58 = .ok (.ldc 255, 2) := by decide +kernel
theorem dX2_wordOfKnown_60 : decode cX2_wordOfKnown 60 = .ok (.areturn, 1) := by decide +kernel
abbrev rmX2_addSignOrNone : Room := { frames := 7, cells := 1, slots := 6, locals := 109 }
theorem mX2_addSignOrNone {l : Launch} {G : Cx} {A : Nat → Prop} (hst : l.stackTraces = false) {SA : Nat → Nat} {T : Nat → List Nat} {es es2 : List Nat} {k : Int32} {x : Int32} (hAS : ∀ i : Nat, i < 39 → A (SA i)) : vx_Met l yX2_addSignOrNone (.code yX2_addSignOrNone cX2_addSignOrNone 2 (none : Option Jvm.ClassFile.FieldType) :: GW) rmX2_addSignOrNone (PC G A [.ref (SA 0), .int x] (SW G SA T es es2 k)) (qV A (fun H => ∃ w, addS (T 12) x w ∧ SW G SA (updT T 12 w) es es2 k H)) (xE A (fun E H => E = "java/lang/IllegalArgumentException" ∧ x ≠ -1 ∧ (¬ ∃ i : Nat, i < 24 ∧ x = nI i) ∧ SW G SA T es es2 k H)) 1 6 A := by
  refine mstartX "Signtext" (by decide +kernel) rfl (Nat.le_of_ble_eq_true rfl) ?_
  intro p e s m below meth c ls hx hb hr hts hown hml hlocks hnx hC hA hW hl
  have hl : lv_has ls 2 [(0, .ref (SA 0)), (1, .int x)] := hl
  have hK := hC.1
  have hS : va_S A s.heap s.heap [] := va_S.rf
  have hO := hW.2.1
  have hR1 := hW.2.2.1
  have hR2 := hW.2.2.2.1
  refine lv_iload_n hx hb dX2_addSignOrNone_0 rfl (lv_at hl 1 rfl) ?_
  refine lv_iconst (v := (-1)) hx hb dX2_addSignOrNone_1 (by decide) ?_
  refine lv_icmp_eq (tgt := 16) hx hb dX2_addSignOrNone_2 (by decide) (fun c_1 => ?_) (fun c_1 => ?_)
  · exact vx_ret (q_v hx hb hr hlocks dX2_addSignOrNone_16 hS (by omega) (by omega) ⟨T 12, Or.inl ⟨c_1, rfl⟩, by rw [updT_id]; exact hW⟩)
  · refine lv_aload_n hx hb dX2_addSignOrNone_5 rfl (lv_at hl 0 rfl) ?_
    refine va_get (D := G.1) (ci := 6) (C := RX2) (T := TX2) (N := 8) hx hb hts inX2 hown hK (at_P hO) 0 rfl rfl 5 (by decide) (hts _ tw_1_142) (fun _ h9 => h9) rfl dX2_addSignOrNone_6 ?_
    refine lv_iload_n hx hb dX2_addSignOrNone_9 rfl (lv_at hl 1 rfl) ?_
    refine xI_S (A := A) (A1 := A)  (As := [.int x]) (rest := .ref (SA 31) :: []) ⟨hx, hb, hml, hown, hts⟩ (mX2_codeOf (A := A) hst ) (va_cwS 1 hts (gS tw_3_27 tw_3_28 tw_1_1 tw_3_29) rfl rfl rfl (by decide +kernel) ⟨Nat.le_of_ble_eq_true rfl, Nat.le_of_ble_eq_true rfl⟩) hC hS (fun _ h => h) (fun q h => hA q (Nat.le_trans hS.1 h))  hW rfl rfl hl.1 (Nat.le_of_ble_eq_true rfl) ⟨Nat.le_trans (show 0 + 1 ≤ 1 by omega) (Nat.le_of_ble_eq_true rfl), Nat.le_trans (show 0 + 6 ≤ 6 by omega) (Nat.le_of_ble_eq_true rfl)⟩ dX2_addSignOrNone_10 hnx hlocks (by omega) (by omega) (fun E H9 q _ => ⟨q.1, c_1, q.2.1, q.2.2⟩) (fun rv2 H2 L2 hP2 hk2 hS => ?_)
    have hZ2 := hS.1
    obtain ⟨⟨i, hi, hxi, hrv⟩, hW⟩ := hP2
    subst hrv
    refine qV_V (A := A) (A1 := ow (SA (7 + 2 * 12)) (SA (8 + 2 * 12)) H2.size) (b := (SA 31)) (As := [.int (nI (codeT.getD i 0))]) (rest := []) ⟨hx, hb, hml, hown, hts⟩ (mX0_addCode (A := ow (SA (7 + 2 * 12)) (SA (8 + 2 * 12)) H2.size) (ca := SA (8 + 2 * 12)) (k0 := codeT.getD i 0) (Or.inl rfl) (Or.inr (Or.inl rfl)) (codeT_lt i)) (cwV 1 hts (gV tw_2_86 tw_1_134 tw_1_135 tw_1_2 tw_1_136) rfl rfl rfl (by decide +kernel) ⟨Nat.le_of_ble_eq_true rfl, Nat.le_of_ble_eq_true rfl⟩) hC hS (ow_in (hAS _ (by omega)) (hAS _ (by omega)) hA hS.1) ow_n ((hW.line (i := 12) (by omega)).recv hK) (hW.line (i := 12) (by omega)) rfl rfl hl.1 (Nat.le_of_ble_eq_true rfl) ⟨Nat.le_trans (show (0 + 1) ≤ 1 by omega) (Nat.le_of_ble_eq_true rfl), Nat.le_trans (show (0 + 6) ≤ 6 by omega) (Nat.le_of_ble_eq_true rfl)⟩ dX2_addSignOrNone_13 (fun H3 L3 hP3 hk3 hS => ?_)
    have hZ3 := hS.1
    have hW := hW.put (q := 12) (t := (T 12 ++ [codeT.getD i 0]).take 60) (by omega) hk3 hP3
    exact vx_ret (q_v hx hb hr hlocks dX2_addSignOrNone_16 hS (by omega) (by omega) ⟨_, Or.inr ⟨i, hi, hxi, rfl⟩, hW⟩)

abbrev rmX2_joinInto : Room := { frames := 7, cells := 1, slots := 6, locals := 109 }
theorem mX2_joinInto {l : Launch} {G : Cx} {A : Nat → Prop} (hst : l.stackTraces = false) {SA : Nat → Nat} {T : Nat → List Nat} {es es2 : List Nat} {k : Int32} {i j q : Nat} (hAS : ∀ i : Nat, i < 39 → A (SA i)) (hi : i < 16) (hj : j < 16) (hi13 : i ≠ 13) (hj13 : j ≠ 13) (hq : q < 4 ∨ 11 ≤ q ∧ q < 13) : vx_Met l yX2_joinInto (.code yX2_joinInto cX2_joinInto 4 (some .int) :: GW) rmX2_joinInto (PC G A [.ref (SA 0), .ref (SA (7 + 2 * i)), .ref (SA (7 + 2 * j)), .ref (SA (7 + 2 * q))] (SW G SA T es es2 k)) (qI A (fun r H => r = nI (T i ++ T j).length ∧ (T i ++ T j).length ≤ 60 ∧ SW G SA (updT (updT T 13 (T i ++ T j)) q (T i ++ T j)) es es2 k H)) (xE A (fun E H => E = "java/lang/IllegalStateException" ∧ 60 < (T i ++ T j).length ∧ SW G SA T es es2 k H)) 1 6 A := by
  refine mstartX "Signtext" (by decide +kernel) rfl (Nat.le_of_ble_eq_true rfl) ?_
  intro p e s m below meth c ls hx hb hr hts hown hml hlocks hnx hC hA hW hl
  have hl : lv_has ls 4 [(0, .ref (SA 0)), (1, .ref (SA (7 + 2 * i))), (2, .ref (SA (7 + 2 * j))), (3, .ref (SA (7 + 2 * q)))] := hl
  have hK := hC.1
  have hS : va_S A s.heap s.heap [] := va_S.rf
  have i60 := (hW.line hi).1
  have j60 := (hW.line hj).1
  have hlen : (T i ++ T j).length = (T i).length + (T j).length := List.length_append
  have hO := hW.2.1
  have hR1 := hW.2.2.1
  have hR2 := hW.2.2.2.1
  refine lv_aload_n hx hb dX2_joinInto_0 rfl (lv_at hl 1 rfl) ?_
  refine kV_i (A := A) (b := (SA (7 + 2 * i))) (As := []) (rest := []) ⟨hx, hb, hml, hown, hts⟩ (mX0_size (A := A) (ca := SA (8 + 2 * i))) (cwV 0 hts (gV tw_2_30 tw_2_12 tw_2_13 tw_1_2 tw_2_14) rfl rfl rfl (by decide +kernel) ⟨Nat.le_of_ble_eq_true rfl, Nat.le_of_ble_eq_true rfl⟩) hC hS hA ((hW.line hi).recv hK) (hW.line hi) rfl rfl hl.1 (Nat.le_of_ble_eq_true rfl) ⟨Nat.zero_le _, Nat.zero_le _⟩ dX2_joinInto_1 (fun r9 h9 => lv_cv h9 ?_)
  refine lv_aload_n hx hb dX2_joinInto_4 rfl (lv_at hl 2 rfl) ?_
  refine kV_i (A := A) (b := (SA (7 + 2 * j))) (As := []) (rest := .int (nI ((T i).length)) :: []) ⟨hx, hb, hml, hown, hts⟩ (mX0_size (A := A) (ca := SA (8 + 2 * j))) (cwV 0 hts (gV tw_2_30 tw_2_12 tw_2_13 tw_1_2 tw_2_14) rfl rfl rfl (by decide +kernel) ⟨Nat.le_of_ble_eq_true rfl, Nat.le_of_ble_eq_true rfl⟩) hC hS hA ((hW.line hj).recv hK) (hW.line hj) rfl rfl hl.1 (Nat.le_of_ble_eq_true rfl) ⟨Nat.zero_le _, Nat.zero_le _⟩ dX2_joinInto_5 (fun r9 h9 => lv_cv h9 ?_)
  refine lv_iadd hx hb dX2_joinInto_8 ?_
  refine lv_cv (nI_add ((T i).length) ((T j).length)) ?_
  rw [← hlen]
  refine xV_S (A := A) (A1 := A)  (As := [.int (nI ((T i ++ T j).length))]) (rest := []) ⟨hx, hb, hml, hown, hts⟩ (mX2_needRoom (A := A) hst (SA := SA) (T := T) (es := es) (es2 := es2) (k := k) (n := (T i ++ T j).length) (by omega)) (va_cwS 1 hts (gS tw_3_36 tw_3_37 tw_1_1 tw_3_38) rfl rfl rfl (by decide +kernel) ⟨Nat.le_of_ble_eq_true rfl, Nat.le_of_ble_eq_true rfl⟩) hC hS (fun _ h => h) (fun q h => hA q (Nat.le_trans hS.1 h))  hW rfl rfl hl.1 (Nat.le_of_ble_eq_true rfl) ⟨Nat.le_trans (show 0 + 1 ≤ 1 by omega) (Nat.le_of_ble_eq_true rfl), Nat.le_trans (show 0 + 6 ≤ 6 by omega) (Nat.le_of_ble_eq_true rfl)⟩ dX2_joinInto_9 hnx hlocks (by omega) (by omega) (fun E H9 q _ => q) (fun H4 L4 hP4 hk4 hS => ?_)
  have hZ4 := hS.1
  obtain ⟨h60, hW⟩ := hP4
  have hO := hW.2.1
  have hR1 := hW.2.2.1
  have hR2 := hW.2.2.2.1
  refine lv_aload_n hx hb dX2_joinInto_12 rfl (lv_at hl 0 rfl) ?_
  refine va_get (D := G.1) (ci := 6) (C := RX2) (T := TX2) (N := 8) hx hb hts inX2 hown hK (at_P hO) 0 rfl rfl 6 (by decide) (hts _ tw_1_143) (fun _ h9 => h9) rfl dX2_joinInto_13 ?_
  refine qV_V (A := A) (A1 := ow (SA (7 + 2 * 13)) (SA (8 + 2 * 13)) H4.size) (b := (SA 33)) (As := []) (rest := []) ⟨hx, hb, hml, hown, hts⟩ (mX0_empty (A := ow (SA (7 + 2 * 13)) (SA (8 + 2 * 13)) H4.size) (ca := SA (8 + 2 * 13)) (Or.inl rfl)) (cwV 0 hts (gV tw_2_31 tw_2_32 tw_2_33 tw_1_2 tw_2_34) rfl rfl rfl (by decide +kernel) ⟨Nat.le_of_ble_eq_true rfl, Nat.le_of_ble_eq_true rfl⟩) hC hS (ow_in (hAS _ (by omega)) (hAS _ (by omega)) hA hS.1) ow_n ((hW.line (i := 13) (by omega)).recv hK) (hW.line (i := 13) (by omega)) rfl rfl hl.1 (Nat.le_of_ble_eq_true rfl) ⟨Nat.le_trans (show (0 + 1) ≤ 1 by omega) (Nat.le_of_ble_eq_true rfl), Nat.le_trans (show (0 + 6) ≤ 6 by omega) (Nat.le_of_ble_eq_true rfl)⟩ dX2_joinInto_16 (fun H5 L5 hP5 hk5 hS => ?_)
  have hZ5 := hS.1
  have hW := hW.put (q := 13) (t := []) (by omega) hk5 hP5
  have hO := hW.2.1
  have hR1 := hW.2.2.1
  have hR2 := hW.2.2.2.1
  refine lv_aload_n hx hb dX2_joinInto_19 rfl (lv_at hl 0 rfl) ?_
  refine va_get (D := G.1) (ci := 6) (C := RX2) (T := TX2) (N := 8) hx hb hts inX2 hown hK (at_P hO) 0 rfl rfl 6 (by decide) (hts _ tw_1_143) (fun _ h9 => h9) rfl dX2_joinInto_20 ?_
  refine lv_aload_n hx hb dX2_joinInto_23 rfl (lv_at hl 1 rfl) ?_
  have e1 : updT T 13 [] i = T i := updT_n hi13
  have e2 : updT T 13 [] j = T j := updT_n hj13
  refine qV_V (A := A) (A1 := ow (SA (7 + 2 * 13)) (SA (8 + 2 * 13)) H5.size) (b := (SA 33)) (As := [.ref (SA (7 + 2 * i))]) (rest := []) ⟨hx, hb, hml, hown, hts⟩ (mX0_addAll (A := ow (SA (7 + 2 * 13)) (SA (8 + 2 * 13)) H5.size) (ca := SA (8 + 2 * 13)) (cb := SA (8 + 2 * i)) (t := []) (u := T i) (Or.inl rfl) (Or.inr (Or.inl rfl)) ⟨hW.ne (i := 7 + 2 * i) (j := 7 + 2 * 13) (by omega) (by omega) (by omega), hW.ne (i := 7 + 2 * i) (j := 8 + 2 * 13) (by omega) (by omega) (by omega), hW.ne (i := 8 + 2 * i) (j := 7 + 2 * 13) (by omega) (by omega) (by omega), hW.ne (i := 8 + 2 * i) (j := 8 + 2 * 13) (by omega) (by omega) (by omega)⟩) (cwV 1 hts (gV tw_3_54 tw_3_55 tw_3_56 tw_1_2 tw_3_57) rfl rfl rfl (by decide +kernel) ⟨Nat.le_of_ble_eq_true rfl, Nat.le_of_ble_eq_true rfl⟩) hC hS (ow_in (hAS _ (by omega)) (hAS _ (by omega)) hA hS.1) ow_n ((hW.line (i := 13) (by omega)).recv hK) ⟨by have h := hW.line (i := 13) (by omega); rw [updT_s] at h; exact h, by rw [← e1]; exact hW.line hi⟩ rfl rfl hl.1 (Nat.le_of_ble_eq_true rfl) ⟨Nat.le_trans (show (0 + 1) ≤ 1 by omega) (Nat.le_of_ble_eq_true rfl), Nat.le_trans (show (0 + 6) ≤ 6 by omega) (Nat.le_of_ble_eq_true rfl)⟩ dX2_joinInto_24 (fun H6 L6 hP6 hk6 hS => ?_)
  have hZ6 := hS.1
  have hW := hW.put (q := 13) (t := T i) (by omega) hk6 (by have h := hP6.1; rw [List.nil_append, List.take_of_length_le i60] at h; exact h)
  rw [updT_2] at hW
  have hO := hW.2.1
  have hR1 := hW.2.2.1
  have hR2 := hW.2.2.2.1
  refine lv_aload_n hx hb dX2_joinInto_27 rfl (lv_at hl 0 rfl) ?_
  refine va_get (D := G.1) (ci := 6) (C := RX2) (T := TX2) (N := 8) hx hb hts inX2 hown hK (at_P hO) 0 rfl rfl 6 (by decide) (hts _ tw_1_143) (fun _ h9 => h9) rfl dX2_joinInto_28 ?_
  refine lv_aload_n hx hb dX2_joinInto_31 rfl (lv_at hl 2 rfl) ?_
  have e2 : updT T 13 (T i) j = T j := updT_n hj13
  refine qV_V (A := A) (A1 := ow (SA (7 + 2 * 13)) (SA (8 + 2 * 13)) H6.size) (b := (SA 33)) (As := [.ref (SA (7 + 2 * j))]) (rest := []) ⟨hx, hb, hml, hown, hts⟩ (mX0_addAll (A := ow (SA (7 + 2 * 13)) (SA (8 + 2 * 13)) H6.size) (ca := SA (8 + 2 * 13)) (cb := SA (8 + 2 * j)) (t := T i) (u := T j) (Or.inl rfl) (Or.inr (Or.inl rfl)) ⟨hW.ne (i := 7 + 2 * j) (j := 7 + 2 * 13) (by omega) (by omega) (by omega), hW.ne (i := 7 + 2 * j) (j := 8 + 2 * 13) (by omega) (by omega) (by omega), hW.ne (i := 8 + 2 * j) (j := 7 + 2 * 13) (by omega) (by omega) (by omega), hW.ne (i := 8 + 2 * j) (j := 8 + 2 * 13) (by omega) (by omega) (by omega)⟩) (cwV 1 hts (gV tw_3_54 tw_3_55 tw_3_56 tw_1_2 tw_3_57) rfl rfl rfl (by decide +kernel) ⟨Nat.le_of_ble_eq_true rfl, Nat.le_of_ble_eq_true rfl⟩) hC hS (ow_in (hAS _ (by omega)) (hAS _ (by omega)) hA hS.1) ow_n ((hW.line (i := 13) (by omega)).recv hK) ⟨by have h := hW.line (i := 13) (by omega); rw [updT_s] at h; exact h, by rw [← e2]; exact hW.line hj⟩ rfl rfl hl.1 (Nat.le_of_ble_eq_true rfl) ⟨Nat.le_trans (show (0 + 1) ≤ 1 by omega) (Nat.le_of_ble_eq_true rfl), Nat.le_trans (show (0 + 6) ≤ 6 by omega) (Nat.le_of_ble_eq_true rfl)⟩ dX2_joinInto_32 (fun H7 L7 hP7 hk7 hS => ?_)
  have hZ7 := hS.1
  have hW := hW.put (q := 13) (t := T i ++ T j) (by omega) hk7 (by have h := hP7.1; rw [List.take_of_length_le h60] at h; exact h)
  rw [updT_2] at hW
  have hO := hW.2.1
  have hR1 := hW.2.2.1
  have hR2 := hW.2.2.2.1
  refine lv_aload_n hx hb dX2_joinInto_35 rfl (lv_at hl 3 rfl) ?_
  refine lv_aload_n hx hb dX2_joinInto_36 rfl (lv_at hl 0 rfl) ?_
  refine va_get (D := G.1) (ci := 6) (C := RX2) (T := TX2) (N := 8) hx hb hts inX2 hown hK (at_P hO) 0 rfl rfl 6 (by decide) (hts _ tw_1_143) (fun _ h9 => h9) rfl dX2_joinInto_37 ?_
  have e3 : updT T 13 (T i ++ T j) q = T q := updT_n (by omega)
  refine qV_V (A := A) (A1 := ow (SA (7 + 2 * q)) (SA (8 + 2 * q)) H7.size) (b := (SA (7 + 2 * q))) (As := [.ref (SA 33)]) (rest := []) ⟨hx, hb, hml, hown, hts⟩ (mX0_become (A := ow (SA (7 + 2 * q)) (SA (8 + 2 * q)) H7.size) (ca := SA (8 + 2 * q)) (cb := SA (8 + 2 * 13)) (t := T q) (u := T i ++ T j) (Or.inl rfl) (Or.inr (Or.inl rfl)) ⟨hW.ne (i := 7 + 2 * 13) (j := 7 + 2 * q) (by omega) (by omega) (by omega), hW.ne (i := 7 + 2 * 13) (j := 8 + 2 * q) (by omega) (by omega) (by omega), hW.ne (i := 8 + 2 * 13) (j := 7 + 2 * q) (by omega) (by omega) (by omega), hW.ne (i := 8 + 2 * 13) (j := 8 + 2 * q) (by omega) (by omega) (by omega)⟩) (cwV 1 hts (gV tw_2_3 tw_2_4 tw_2_5 tw_1_2 tw_2_6) rfl rfl rfl (by decide +kernel) ⟨Nat.le_of_ble_eq_true rfl, Nat.le_of_ble_eq_true rfl⟩) hC hS (ow_in (hAS _ (by omega)) (hAS _ (by omega)) hA hS.1) ow_n ((hW.line (i := q) (by omega)).recv hK) ⟨by rw [← e3]; exact hW.line (i := q) (by omega), by have h := hW.line (i := 13) (by omega); rw [updT_s] at h; exact h⟩ rfl rfl hl.1 (Nat.le_of_ble_eq_true rfl) ⟨Nat.le_trans (show (0 + 1) ≤ 1 by omega) (Nat.le_of_ble_eq_true rfl), Nat.le_trans (show (0 + 6) ≤ 6 by omega) (Nat.le_of_ble_eq_true rfl)⟩ dX2_joinInto_40 (fun H8 L8 hP8 hk8 hS => ?_)
  have hZ8 := hS.1
  have hW := hW.put (q := q) (t := T i ++ T j) (by omega) hk8 hP8.1
  refine lv_aload_n hx hb dX2_joinInto_43 rfl (lv_at hl 3 rfl) ?_
  have hLq := hW.line (i := q) (by omega)
  rw [updT_s] at hLq
  refine kV_i (A := A) (b := (SA (7 + 2 * q))) (As := []) (rest := []) ⟨hx, hb, hml, hown, hts⟩ (mX0_size (A := A) (ca := SA (8 + 2 * q))) (cwV 0 hts (gV tw_2_30 tw_2_12 tw_2_13 tw_1_2 tw_2_14) rfl rfl rfl (by decide +kernel) ⟨Nat.le_of_ble_eq_true rfl, Nat.le_of_ble_eq_true rfl⟩) hC hS hA (hLq.recv hK) hLq rfl rfl hl.1 (Nat.le_of_ble_eq_true rfl) ⟨Nat.le_trans (show (0 + 1) ≤ 1 by omega) (Nat.le_of_ble_eq_true rfl), Nat.le_trans (show (0 + 6) ≤ 6 by omega) (Nat.le_of_ble_eq_true rfl)⟩ dX2_joinInto_44 (fun r9 h9 => lv_cv h9 ?_)
  exact vx_ret (q_i hx hb hr hlocks dX2_joinInto_47 hS (by omega) (by omega) ⟨rfl, h60, hW⟩)

abbrev rmX2_partInto : Room := { frames := 3, cells := 0, slots := 0, locals := 65 }
theorem mX2_partInto {l : Launch} {G : Cx} {A : Nat → Prop} {SA : Nat → Nat} {T : Nat → List Nat} {es es2 : List Nat} {k : Int32} {i q a9 b9 : Nat} (hAS : ∀ i : Nat, i < 39 → A (SA i)) (hi : i < 16) (hi13 : i ≠ 13) (hq : q < 4 ∨ 11 ≤ q ∧ q < 13) (hab : a9 ≤ b9) (hb9 : b9 ≤ (T i).length) : Met l yX2_partInto (.code yX2_partInto cX2_partInto 5 (some .int) :: GW) rmX2_partInto (PC G A [.ref (SA 0), .ref (SA (7 + 2 * i)), .int (nI a9), .int (nI b9), .ref (SA (7 + 2 * q))] (SW G SA T es es2 k)) (qI A (fun r H => r = nI (cutL (T i) a9 b9).length ∧ SW G SA (updT (updT T 13 (cutL (T i) a9 b9)) q (cutL (T i) a9 b9)) es es2 k H)) 0 0 (A) := by
  refine mstart "Signtext" (by decide +kernel) rfl (Nat.le_of_ble_eq_true rfl) ?_
  intro p e s m below meth c ls hx hb hr hts hown hml hlocks hname hC hA hW hl
  have hl : lv_has ls 5 [(0, .ref (SA 0)), (1, .ref (SA (7 + 2 * i))), (2, .int (nI a9)), (3, .int (nI b9)), (4, .ref (SA (7 + 2 * q)))] := hl
  have hK := hC.1
  have hS : va_S A s.heap s.heap [] := va_S.rf
  have i60 := (hW.line hi).1
  have h60 : (cutL (T i) a9 b9).length ≤ 60 := Nat.le_trans (cutL_le _ _ _) i60
  have hO := hW.2.1
  have hR1 := hW.2.2.1
  have hR2 := hW.2.2.2.1
  refine lv_aload_n hx hb dX2_partInto_0 rfl (lv_at hl 0 rfl) ?_
  refine va_get (D := G.1) (ci := 6) (C := RX2) (T := TX2) (N := 8) hx hb hts inX2 hown hK (at_P hO) 0 rfl rfl 6 (by decide) (hts _ tw_1_143) (fun _ h9 => h9) rfl dX2_partInto_1 ?_
  refine qV_V (A := A) (A1 := ow (SA (7 + 2 * 13)) (SA (8 + 2 * 13)) s.heap.size) (b := (SA 33)) (As := []) (rest := []) ⟨hx, hb, hml, hown, hts⟩ (mX0_empty (A := ow (SA (7 + 2 * 13)) (SA (8 + 2 * 13)) s.heap.size) (ca := SA (8 + 2 * 13)) (Or.inl rfl)) (cwV 0 hts (gV tw_2_31 tw_2_32 tw_2_33 tw_1_2 tw_2_34) rfl rfl rfl (by decide +kernel) ⟨Nat.le_of_ble_eq_true rfl, Nat.le_of_ble_eq_true rfl⟩) hC hS (ow_in (hAS _ (by omega)) (hAS _ (by omega)) hA (Nat.le_refl _)) ow_n ((hW.line (i := 13) (by omega)).recv hK) (hW.line (i := 13) (by omega)) rfl rfl hl.1 (Nat.le_of_ble_eq_true rfl) ⟨Nat.zero_le _, Nat.zero_le _⟩ dX2_partInto_4 (fun H9 L9 hP9 hk9 hS => ?_)
  have hZ9 := hS.1
  have hW := hW.put (q := 13) (t := []) (by omega) hk9 hP9
  have hO := hW.2.1
  have hR1 := hW.2.2.1
  have hR2 := hW.2.2.2.1
  refine lv_aload_n hx hb dX2_partInto_7 rfl (lv_at hl 0 rfl) ?_
  refine va_get (D := G.1) (ci := 6) (C := RX2) (T := TX2) (N := 8) hx hb hts inX2 hown hK (at_P hO) 0 rfl rfl 6 (by decide) (hts _ tw_1_143) (fun _ h9 => h9) rfl dX2_partInto_8 ?_
  refine lv_aload_n hx hb dX2_partInto_11 rfl (lv_at hl 1 rfl) ?_
  refine lv_iload_n hx hb dX2_partInto_12 rfl (lv_at hl 2 rfl) ?_
  refine lv_iload_n hx hb dX2_partInto_13 rfl (lv_at hl 3 rfl) ?_
  have e1 : updT T 13 [] i = T i := updT_n hi13
  refine qV_V (A := A) (A1 := ow (SA (7 + 2 * 13)) (SA (8 + 2 * 13)) H9.size) (b := (SA 33)) (As := [.ref (SA (7 + 2 * i)), .int (nI a9), .int (nI b9)]) (rest := []) ⟨hx, hb, hml, hown, hts⟩ (mX0_addPart (A := ow (SA (7 + 2 * 13)) (SA (8 + 2 * 13)) H9.size) (ca := SA (8 + 2 * 13)) (cb := SA (8 + 2 * i)) (t := []) (u := T i) (i := a9) (i2 := b9) (Or.inl rfl) (Or.inr (Or.inl rfl)) ⟨hW.ne (i := 7 + 2 * i) (j := 7 + 2 * 13) (by omega) (by omega) (by omega), hW.ne (i := 7 + 2 * i) (j := 8 + 2 * 13) (by omega) (by omega) (by omega), hW.ne (i := 8 + 2 * i) (j := 7 + 2 * 13) (by omega) (by omega) (by omega), hW.ne (i := 8 + 2 * i) (j := 8 + 2 * 13) (by omega) (by omega) (by omega)⟩ hab hb9) (cwV 3 hts (gV tw_2_35 tw_2_36 tw_2_37 tw_1_2 tw_2_38) rfl rfl rfl (by decide +kernel) ⟨Nat.le_of_ble_eq_true rfl, Nat.le_of_ble_eq_true rfl⟩) hC hS (ow_in (hAS _ (by omega)) (hAS _ (by omega)) hA hS.1) ow_n ((hW.line (i := 13) (by omega)).recv hK) ⟨by have h := hW.line (i := 13) (by omega); rw [updT_s] at h; exact h, by rw [← e1]; exact hW.line hi⟩ rfl rfl hl.1 (Nat.le_of_ble_eq_true rfl) ⟨Nat.zero_le _, Nat.zero_le _⟩ dX2_partInto_14 (fun H10 L10 hP10 hk10 hS => ?_)
  have hZ10 := hS.1
  have hW := hW.put (q := 13) (t := cutL (T i) a9 b9) (by omega) hk10 (by have h := hP10.1; rw [List.nil_append, List.take_of_length_le h60] at h; exact h)
  rw [updT_2] at hW
  have hO := hW.2.1
  have hR1 := hW.2.2.1
  have hR2 := hW.2.2.2.1
  refine lv_aload hx hb dX2_partInto_17 (lv_at hl 4 rfl) ?_
  refine lv_aload_n hx hb dX2_partInto_19 rfl (lv_at hl 0 rfl) ?_
  refine va_get (D := G.1) (ci := 6) (C := RX2) (T := TX2) (N := 8) hx hb hts inX2 hown hK (at_P hO) 0 rfl rfl 6 (by decide) (hts _ tw_1_143) (fun _ h9 => h9) rfl dX2_partInto_20 ?_
  have e3 : updT T 13 (cutL (T i) a9 b9) q = T q := updT_n (by omega)
  refine qV_V (A := A) (A1 := ow (SA (7 + 2 * q)) (SA (8 + 2 * q)) H10.size) (b := (SA (7 + 2 * q))) (As := [.ref (SA 33)]) (rest := []) ⟨hx, hb, hml, hown, hts⟩ (mX0_become (A := ow (SA (7 + 2 * q)) (SA (8 + 2 * q)) H10.size) (ca := SA (8 + 2 * q)) (cb := SA (8 + 2 * 13)) (t := T q) (u := cutL (T i) a9 b9) (Or.inl rfl) (Or.inr (Or.inl rfl)) ⟨hW.ne (i := 7 + 2 * 13) (j := 7 + 2 * q) (by omega) (by omega) (by omega), hW.ne (i := 7 + 2 * 13) (j := 8 + 2 * q) (by omega) (by omega) (by omega), hW.ne (i := 8 + 2 * 13) (j := 7 + 2 * q) (by omega) (by omega) (by omega), hW.ne (i := 8 + 2 * 13) (j := 8 + 2 * q) (by omega) (by omega) (by omega)⟩) (cwV 1 hts (gV tw_2_3 tw_2_4 tw_2_5 tw_1_2 tw_2_6) rfl rfl rfl (by decide +kernel) ⟨Nat.le_of_ble_eq_true rfl, Nat.le_of_ble_eq_true rfl⟩) hC hS (ow_in (hAS _ (by omega)) (hAS _ (by omega)) hA hS.1) ow_n ((hW.line (i := q) (by omega)).recv hK) ⟨by rw [← e3]; exact hW.line (i := q) (by omega), by have h := hW.line (i := 13) (by omega); rw [updT_s] at h; exact h⟩ rfl rfl hl.1 (Nat.le_of_ble_eq_true rfl) ⟨Nat.zero_le _, Nat.zero_le _⟩ dX2_partInto_23 (fun H11 L11 hP11 hk11 hS => ?_)
  have hZ11 := hS.1
  have hW := hW.put (q := q) (t := cutL (T i) a9 b9) (by omega) hk11 hP11.1
  refine lv_aload hx hb dX2_partInto_26 (lv_at hl 4 rfl) ?_
  have hLq := hW.line (i := q) (by omega)
  rw [updT_s] at hLq
  refine kV_i (A := A) (b := (SA (7 + 2 * q))) (As := []) (rest := []) ⟨hx, hb, hml, hown, hts⟩ (mX0_size (A := A) (ca := SA (8 + 2 * q))) (cwV 0 hts (gV tw_2_30 tw_2_12 tw_2_13 tw_1_2 tw_2_14) rfl rfl rfl (by decide +kernel) ⟨Nat.le_of_ble_eq_true rfl, Nat.le_of_ble_eq_true rfl⟩) hC hS hA (hLq.recv hK) hLq rfl rfl hl.1 (Nat.le_of_ble_eq_true rfl) ⟨Nat.zero_le _, Nat.zero_le _⟩ dX2_partInto_28 (fun r9 h9 => lv_cv h9 ?_)
  exact q_i hx hb hr hlocks dX2_partInto_31 hS (Nat.le_refl _) (Nat.le_refl _) ⟨rfl, hW⟩

abbrev rmX2_pieceInto : Room := { frames := 4, cells := 0, slots := 0, locals := 89 }
theorem mX2_pieceInto {l : Launch} {G : Cx} {A : Nat → Prop} {SA : Nat → Nat} {T : Nat → List Nat} {es es2 : List Nat} {k : Int32} {q j : Nat} (hAS : ∀ i : Nat, i < 39 → A (SA i)) (hq : q < 4 ∨ 11 ≤ q ∧ q < 13) (hj : j < es.length) : Met l yX2_pieceInto (.code yX2_pieceInto cX2_pieceInto 3 (some .int) :: GW) rmX2_pieceInto (PC G A [.ref (SA 0), .int (nI j), .ref (SA (7 + 2 * q))] (SW G SA T es es2 k)) (qI A (fun r H => r = nI (cutL (T 14) (bgE es j) (es.getD j 0)).length ∧ SW G SA (updT (updT T 13 (cutL (T 14) (bgE es j) (es.getD j 0))) q (cutL (T 14) (bgE es j) (es.getD j 0))) es es2 k H)) 0 0 (A) := by
  refine mstart "Signtext" (by decide +kernel) rfl (Nat.le_of_ble_eq_true rfl) ?_
  intro p e s m below meth c ls hx hb hr hts hown hml hlocks hname hC hA hW hl
  have hl : lv_has ls 3 [(0, .ref (SA 0)), (1, .int (nI j)), (2, .ref (SA (7 + 2 * q)))] := hl
  have hK := hC.1
  have hS : va_S A s.heap s.heap [] := va_S.rf
  have hPB := hW.pcs.1
  have e61 := hPB.1
  have hok := hW.pcs.2.2.1 j hj
  have hO := hW.2.1
  have hR1 := hW.2.2.1
  have hR2 := hW.2.2.2.1
  refine lv_aload_n hx hb dX2_pieceInto_0 rfl (lv_at hl 0 rfl) ?_
  refine lv_aload_n hx hb dX2_pieceInto_1 rfl (lv_at hl 0 rfl) ?_
  refine va_get (D := G.1) (ci := 6) (C := RX2) (T := TX2) (N := 8) hx hb hts inX2 hown hK (at_P hO) 0 rfl rfl 3 (by decide) (hts _ tw_1_140) (fun _ h9 => h9) rfl dX2_pieceInto_2 ?_
  refine kV_a (A := A) (b := (SA 3)) (As := []) (rest := .ref (SA 0) :: []) ⟨hx, hb, hml, hown, hts⟩ (mX1_line (A := A) (la := SA 35) (ea := SA 4)) (cwV 0 hts (gV tw_2_87 tw_2_88 tw_2_89 tw_1_3 tw_2_90) rfl rfl rfl (by decide +kernel) ⟨Nat.le_of_ble_eq_true rfl, Nat.le_of_ble_eq_true rfl⟩) hC hS hA (hPB.recv hK) hPB rfl rfl hl.1 (Nat.le_of_ble_eq_true rfl) ⟨Nat.zero_le _, Nat.zero_le _⟩ dX2_pieceInto_5 (fun a_12 ha_12 => ?_)
  obtain rfl : a_12 = SA 35 := ha_12
  refine lv_aload_n hx hb dX2_pieceInto_8 rfl (lv_at hl 0 rfl) ?_
  refine va_get (D := G.1) (ci := 6) (C := RX2) (T := TX2) (N := 8) hx hb hts inX2 hown hK (at_P hO) 0 rfl rfl 3 (by decide) (hts _ tw_1_140) (fun _ h9 => h9) rfl dX2_pieceInto_9 ?_
  refine lv_iload_n hx hb dX2_pieceInto_12 rfl (lv_at hl 1 rfl) ?_
  refine kV_i (A := A) (b := (SA 3)) (As := [.int (nI j)]) (rest := .ref (SA 35) :: .ref (SA 0) :: []) ⟨hx, hb, hml, hown, hts⟩ (mX1_beginOf (A := A) (la := SA 35) (ea := SA 4) (es := es) (k := j) (by omega)) (cwV 1 hts (gV tw_2_91 tw_2_75 tw_2_76 tw_1_3 tw_2_77) rfl rfl rfl (by decide +kernel) ⟨Nat.le_of_ble_eq_true rfl, Nat.le_of_ble_eq_true rfl⟩) hC hS hA (hPB.recv hK) hPB rfl rfl hl.1 (Nat.le_of_ble_eq_true rfl) ⟨Nat.zero_le _, Nat.zero_le _⟩ dX2_pieceInto_13 (fun r9 h9 => lv_cv h9 ?_)
  refine lv_aload_n hx hb dX2_pieceInto_16 rfl (lv_at hl 0 rfl) ?_
  refine va_get (D := G.1) (ci := 6) (C := RX2) (T := TX2) (N := 8) hx hb hts inX2 hown hK (at_P hO) 0 rfl rfl 3 (by decide) (hts _ tw_1_140) (fun _ h9 => h9) rfl dX2_pieceInto_17 ?_
  refine lv_iload_n hx hb dX2_pieceInto_20 rfl (lv_at hl 1 rfl) ?_
  refine kV_i (A := A) (b := (SA 3)) (As := [.int (nI j)]) (rest := .int (nI (bgE es j)) :: .ref (SA 35) :: .ref (SA 0) :: []) ⟨hx, hb, hml, hown, hts⟩ (mX1_endOf (A := A) (la := SA 35) (ea := SA 4) (es := es) (k := j) hj) (cwV 1 hts (gV tw_2_92 tw_2_79 tw_2_80 tw_1_3 tw_2_81) rfl rfl rfl (by decide +kernel) ⟨Nat.le_of_ble_eq_true rfl, Nat.le_of_ble_eq_true rfl⟩) hC hS hA (hPB.recv hK) hPB rfl rfl hl.1 (Nat.le_of_ble_eq_true rfl) ⟨Nat.zero_le _, Nat.zero_le _⟩ dX2_pieceInto_21 (fun r9 h9 => lv_cv h9 ?_)
  refine lv_aload_n hx hb dX2_pieceInto_24 rfl (lv_at hl 2 rfl) ?_
  refine qI_V (A := A) (A1 := A) (b := (SA 0)) (As := [.ref (SA 35), .int (nI (bgE es j)), .int (nI (es.getD j 0)), .ref (SA (7 + 2 * q))]) (rest := []) ⟨hx, hb, hml, hown, hts⟩ (mX2_partInto (A := A) (SA := SA) (T := T) (es := es) (es2 := es2) (k := k) (i := 14) (q := q) (a9 := bgE es j) (b9 := es.getD j 0) hAS (by decide) (by decide) hq hok.1 hok.2) (cwV 4 hts (gV tw_2_55 tw_2_57 sel_X2_partInto tw_1_1 tw_2_58) rfl rfl rfl (by decide +kernel) ⟨Nat.le_of_ble_eq_true rfl, Nat.le_of_ble_eq_true rfl⟩) hC hS (fun _ h => h) (fun q h => hA q (Nat.le_trans hS.1 h)) (hW.recv hK) hW rfl rfl hl.1 (Nat.le_of_ble_eq_true rfl) ⟨Nat.zero_le _, Nat.zero_le _⟩ dX2_pieceInto_25 (fun rv13 H13 L13 hP13 hk13 hS => ?_)
  have hZ13 := hS.1
  exact q_i hx hb hr hlocks dX2_pieceInto_28 hS (Nat.le_refl _) (Nat.le_refl _) hP13

abbrev rmX2_addMade : Room := { frames := 8, cells := 1, slots := 6, locals := 132 }
theorem mX2_addMade {l : Launch} {G : Cx} {A : Nat → Prop} (hst : l.stackTraces = false) {SA : Nat → Nat} {T : Nat → List Nat} {es es2 : List Nat} {k : Int32} {i : Nat} {b : Bool} (hAS : ∀ i : Nat, i < 39 → A (SA i)) (hi : i < 4) : vx_Met l yX2_addMade (.code yX2_addMade cX2_addMade 3 (some .int) :: GW) rmX2_addMade (PC G A [.ref (SA 0), .ref (SA (7 + 2 * i)), .int (bI b)] (SW G SA T es es2 k)) (qI A (fun r H => r = nI ((if b then T 12 ++ T i else T i ++ T 12)).length ∧ ((if b then T 12 ++ T i else T i ++ T 12)).length ≤ 60 ∧ SW G SA (updT (updT T 13 (if b then T 12 ++ T i else T i ++ T 12)) i (if b then T 12 ++ T i else T i ++ T 12)) es es2 k H)) (xE A (fun E H => E = "java/lang/IllegalStateException" ∧ 60 < ((if b then T 12 ++ T i else T i ++ T 12)).length ∧ SW G SA T es es2 k H)) 1 6 A := by
  refine mstartX "Signtext" (by decide +kernel) rfl (Nat.le_of_ble_eq_true rfl) ?_
  intro p e s m below meth c ls hx hb hr hts hown hml hlocks hnx hC hA hW hl
  have hl : lv_has ls 3 [(0, .ref (SA 0)), (1, .ref (SA (7 + 2 * i))), (2, .int (bI b))] := hl
  have hK := hC.1
  have hS : va_S A s.heap s.heap [] := va_S.rf
  have hO := hW.2.1
  have hR1 := hW.2.2.1
  have hR2 := hW.2.2.2.1
  refine lv_iload_n hx hb dX2_addMade_0 rfl (lv_at hl 2 rfl) ?_
  refine f_eq (tgt := 17) hx hb dX2_addMade_1 (by decide) (fun c_14 => ?_) (fun c_14 => ?_)
  · subst c_14
    refine lv_aload_n hx hb dX2_addMade_17 rfl (lv_at hl 0 rfl) ?_
    refine lv_aload_n hx hb dX2_addMade_18 rfl (lv_at hl 1 rfl) ?_
    refine lv_aload_n hx hb dX2_addMade_19 rfl (lv_at hl 0 rfl) ?_
    refine va_get (D := G.1) (ci := 6) (C := RX2) (T := TX2) (N := 8) hx hb hts inX2 hown hK (at_P hO) 0 rfl rfl 5 (by decide) (hts _ tw_1_142) (fun _ h9 => h9) rfl dX2_addMade_20 ?_
    refine lv_aload_n hx hb dX2_addMade_23 rfl (lv_at hl 1 rfl) ?_
    refine xI_V (A := A) (A1 := A) (b := (SA 0)) (As := [.ref (SA (7 + 2 * i)), .ref (SA 31), .ref (SA (7 + 2 * i))]) (rest := []) ⟨hx, hb, hml, hown, hts⟩ (mX2_joinInto (A := A) hst (SA := SA) (T := T) (es := es) (es2 := es2) (k := k) (i := i) (j := 12) (q := i) hAS (by omega) (by omega) (by omega) (by omega) (by omega)) (cwV 3 hts (gV tw_3_32 tw_3_34 sel_X2_joinInto tw_1_1 tw_3_35) rfl rfl rfl (by decide +kernel) ⟨Nat.le_of_ble_eq_true rfl, Nat.le_of_ble_eq_true rfl⟩) hC hS (fun _ h => h) (fun q h => hA q (Nat.le_trans hS.1 h)) (hW.recv hK) hW rfl rfl hl.1 (Nat.le_of_ble_eq_true rfl) ⟨Nat.le_trans (show 0 + 1 ≤ 1 by omega) (Nat.le_of_ble_eq_true rfl), Nat.le_trans (show 0 + 6 ≤ 6 by omega) (Nat.le_of_ble_eq_true rfl)⟩ dX2_addMade_24 hnx hlocks (by omega) (by omega) (fun E H9 q _ => q) (fun rv15 H15 L15 hP15 hk15 hS => ?_)
    have hZ15 := hS.1
    exact vx_ret (q_i hx hb hr hlocks dX2_addMade_27 hS (by omega) (by omega) hP15)
  · subst c_14
    refine lv_aload_n hx hb dX2_addMade_4 rfl (lv_at hl 0 rfl) ?_
    refine lv_aload_n hx hb dX2_addMade_5 rfl (lv_at hl 0 rfl) ?_
    refine va_get (D := G.1) (ci := 6) (C := RX2) (T := TX2) (N := 8) hx hb hts inX2 hown hK (at_P hO) 0 rfl rfl 5 (by decide) (hts _ tw_1_142) (fun _ h9 => h9) rfl dX2_addMade_6 ?_
    refine lv_aload_n hx hb dX2_addMade_9 rfl (lv_at hl 1 rfl) ?_
    refine lv_aload_n hx hb dX2_addMade_10 rfl (lv_at hl 1 rfl) ?_
    refine xI_V (A := A) (A1 := A) (b := (SA 0)) (As := [.ref (SA 31), .ref (SA (7 + 2 * i)), .ref (SA (7 + 2 * i))]) (rest := []) ⟨hx, hb, hml, hown, hts⟩ (mX2_joinInto (A := A) hst (SA := SA) (T := T) (es := es) (es2 := es2) (k := k) (i := 12) (j := i) (q := i) hAS (by omega) (by omega) (by omega) (by omega) (by omega)) (cwV 3 hts (gV tw_3_32 tw_3_34 sel_X2_joinInto tw_1_1 tw_3_35) rfl rfl rfl (by decide +kernel) ⟨Nat.le_of_ble_eq_true rfl, Nat.le_of_ble_eq_true rfl⟩) hC hS (fun _ h => h) (fun q h => hA q (Nat.le_trans hS.1 h)) (hW.recv hK) hW rfl rfl hl.1 (Nat.le_of_ble_eq_true rfl) ⟨Nat.le_trans (show 0 + 1 ≤ 1 by omega) (Nat.le_of_ble_eq_true rfl), Nat.le_trans (show 0 + 6 ≤ 6 by omega) (Nat.le_of_ble_eq_true rfl)⟩ dX2_addMade_11 hnx hlocks (by omega) (by omega) (fun E H9 q _ => q) (fun rv16 H16 L16 hP16 hk16 hS => ?_)
    have hZ16 := hS.1
    refine lv_goto (tgt := 27) hx hb dX2_addMade_14 (by decide) ?_
    exact vx_ret (q_i hx hb hr hlocks dX2_addMade_27 hS (by omega) (by omega) hP16)

abbrev rmX2_wordOfKnown : Room := { frames := 0, cells := 0, slots := 0, locals := 0 }
theorem mX2_wordOfKnown {l : Launch} {G : Cx} {A : Nat → Prop} {i : Nat} (hi : i < 7) : Met l yX2_wordOfKnown (.code yX2_wordOfKnown cX2_wordOfKnown 1 (some (.object "java/lang/String")) :: GW) rmX2_wordOfKnown (PC G A [.int (nI i)] (fun _ => True)) (pR (fun r => r = G.2.2 (20 + wkN i))) 0 0 (fun _ => False) := by
  refine mstart "Signtext" (by decide +kernel) rfl (Nat.le_of_ble_eq_true rfl) ?_
  intro p e s m below meth c ls hx hb hr hts hown hml hlocks hname hC hA hW hl
  have hl : lv_has ls 1 [(0, .int (nI i))] := hl
  have hK := hC.1
  have hS : va_S A s.heap s.heap [] := va_S.rf
  match i, hi with
  | 0, _ =>
    have hl : lv_has ls 1 [(0, .int (nI 0))] := hl
    refine lv_iload_n hx hb dX2_wordOfKnown_0 rfl (lv_at hl 0 rfl) ?_
    refine lv_tableOut (tgt := 58) hx hb dX2_wordOfKnown_1 (Or.inl (by decide)) (by decide) ?_
    refine va_ldcS hx hb hown (hC.2.2.2.2.1 ("Signtext", 255, "", 6) (by unfold sRl; simp)) dX2_wordOfKnown_58 ?_
    exact p_a hx hb hr (Or.inl ⟨_, rfl⟩) hlocks dX2_wordOfKnown_60 rfl
  | 1, _ =>
    have hl : lv_has ls 1 [(0, .int (nI 1))] := hl
    refine lv_iload_n hx hb dX2_wordOfKnown_0 rfl (lv_at hl 0 rfl) ?_
    refine lv_tableIn (tgt := 40) (off := 39) hx hb dX2_wordOfKnown_1 (by decide) (by decide) (by decide) (by decide) ?_
    refine va_ldcS hx hb hown (hC.2.2.2.2.1 ("Signtext", 243, "a", 0) (by unfold sRl; simp)) dX2_wordOfKnown_40 ?_
    exact p_a hx hb hr (Or.inl ⟨_, rfl⟩) hlocks dX2_wordOfKnown_42 rfl
  | 2, _ =>
    have hl : lv_has ls 1 [(0, .int (nI 2))] := hl
    refine lv_iload_n hx hb dX2_wordOfKnown_0 rfl (lv_at hl 0 rfl) ?_
    refine lv_tableIn (tgt := 43) (off := 42) hx hb dX2_wordOfKnown_1 (by decide) (by decide) (by decide) (by decide) ?_
    refine va_ldcS hx hb hown (hC.2.2.2.2.1 ("Signtext", 245, "ab", 1) (by unfold sRl; simp)) dX2_wordOfKnown_43 ?_
    exact p_a hx hb hr (Or.inl ⟨_, rfl⟩) hlocks dX2_wordOfKnown_45 rfl
  | 3, _ =>
    have hl : lv_has ls 1 [(0, .int (nI 3))] := hl
    refine lv_iload_n hx hb dX2_wordOfKnown_0 rfl (lv_at hl 0 rfl) ?_
    refine lv_tableIn (tgt := 46) (off := 45) hx hb dX2_wordOfKnown_1 (by decide) (by decide) (by decide) (by decide) ?_
    refine va_ldcS hx hb hown (hC.2.2.2.2.1 ("Signtext", 247, "A", 2) (by unfold sRl; simp)) dX2_wordOfKnown_46 ?_
    exact p_a hx hb hr (Or.inl ⟨_, rfl⟩) hlocks dX2_wordOfKnown_48 rfl
  | 4, _ =>
    have hl : lv_has ls 1 [(0, .int (nI 4))] := hl
    refine lv_iload_n hx hb dX2_wordOfKnown_0 rfl (lv_at hl 0 rfl) ?_
    refine lv_tableIn (tgt := 49) (off := 48) hx hb dX2_wordOfKnown_1 (by decide) (by decide) (by decide) (by decide) ?_
    refine va_ldcS hx hb hown (hC.2.2.2.2.1 ("Signtext", 249, ",", 3) (by unfold sRl; simp)) dX2_wordOfKnown_49 ?_
    exact p_a hx hb hr (Or.inl ⟨_, rfl⟩) hlocks dX2_wordOfKnown_51 rfl
  | 5, _ =>
    have hl : lv_has ls 1 [(0, .int (nI 5))] := hl
    refine lv_iload_n hx hb dX2_wordOfKnown_0 rfl (lv_at hl 0 rfl) ?_
    refine lv_tableIn (tgt := 52) (off := 51) hx hb dX2_wordOfKnown_1 (by decide) (by decide) (by decide) (by decide) ?_
    refine va_ldcS hx hb hown (hC.2.2.2.2.1 ("Signtext", 251, "x.x", 4) (by unfold sRl; simp)) dX2_wordOfKnown_52 ?_
    exact p_a hx hb hr (Or.inl ⟨_, rfl⟩) hlocks dX2_wordOfKnown_54 rfl
  | 6, _ =>
    have hl : lv_has ls 1 [(0, .int (nI 6))] := hl
    refine lv_iload_n hx hb dX2_wordOfKnown_0 rfl (lv_at hl 0 rfl) ?_
    refine lv_tableIn (tgt := 55) (off := 54) hx hb dX2_wordOfKnown_1 (by decide) (by decide) (by decide) (by decide) ?_
    refine va_ldcS hx hb hown (hC.2.2.2.2.1 ("Signtext", 253, "aB-1", 5) (by unfold sRl; simp)) dX2_wordOfKnown_55 ?_
    exact p_a hx hb hr (Or.inl ⟨_, rfl⟩) hlocks dX2_wordOfKnown_57 rfl
end
section
/-! The class, 3: calls that change -/
abbrev NT (x : Int32) : Prop := ¬ ∃ i : Nat, i < 4 ∧ x = nI i
abbrev NS (x : Int32) : Prop := ¬ ∃ i : Nat, i < 24 ∧ x = nI i
abbrev NK (x : Int32) : Prop := ¬ ∃ i : Nat, i < 7 ∧ x = nI i
theorem FR.s13 {T X : Nat → List Nat} {w : List Nat} (h : ∀ i : Nat, i < 4 ∨ i = 11 ∨ i = 14 → T i = X i) : ∀ i : Nat, i < 4 ∨ i = 11 ∨ i = 14 → updT T 13 w i = X i := fun i hi => (updT_n (by omega)).trans (h i hi)
theorem FR.s12 {T X : Nat → List Nat} {w : List Nat} (h : ∀ i : Nat, i < 4 ∨ i = 11 ∨ i = 14 → T i = X i) : ∀ i : Nat, i < 4 ∨ i = 11 ∨ i = 14 → updT T 12 w i = X i := fun i hi => (updT_n (by omega)).trans (h i hi)
theorem FR.up {T X : Nat → List Nat} {q : Nat} {w : List Nat} (h : ∀ i : Nat, i < 4 ∨ i = 11 ∨ i = 14 → T i = X i) : ∀ i : Nat, i < 4 ∨ i = 11 ∨ i = 14 → updT T q w i = updT X q w i := fun i hi => by
  unfold updT; split
  · rfl
  · exact h i hi
theorem SW.knock {G : Cx} {SA : Nat → Nat} {T : Nat → List Nat} {es es2 : List Nat} {k k2 : Int32} {H H1 : Heap} (h : SW G SA T es es2 k H) (hO : va_at G.1 vwCl (SA 0, .inr (6, [.ref (SA 1), .ref (SA 2), .ref (SA 29), .ref (SA 3), .int k2, .ref (SA 31), .ref (SA 33), .ref (SA 5)])) H1) (oq : ∀ q : Nat, q ≠ SA 0 → H1[q]? = H[q]?) (z : H1.size = H.size) : SW G SA T es es2 k2 H1 := by
  have hk : Pilot.CSigntextLaw_law_r5956_0de32b.kp (fun q => q = SA 0) H H1 := kp.one z oq
  have hX : ∀ i : Nat, i < 39 → i ≠ 0 → ¬ SA i = SA 0 := fun i hi h0 => h.ne hi (by decide) h0
  exact ⟨h.1, hO, at_kp h.2.2.1 hk (hX 1 (by decide) (by decide)), at_kp h.2.2.2.1 hk (hX 2 (by decide) (by decide)), fun i hi => (h.line hi).kp hk (hX _ (by omega) (by omega)) (hX _ (by omega) (by omega)), h.pcs.1.kp hk (hX 3 (by decide) (by decide)) (hX 4 (by decide) (by decide)), h.pcs.2.2.1, h.trd.1.kp hk (hX 5 (by decide) (by decide)) (hX 6 (by decide) (by decide)), h.trd.2.2.1, h.2.2.2.2.2.2.2.2.2⟩
theorem dX2_clear_0 : decode cX2_clear 0 = .ok (.aload_n 0, 1) := by decide +kernel
theorem dX2_clear_1 : decode cX2_clear 1 = .ok (.iload_n 1, 1) := by decide +kernel
theorem dX2_clear_2 : decode cX2_clear 2 = .ok (.invokevirtual 51, 3) := by decide +kernel
theorem dX2_clear_5 : decode cX2_clear 5 = .ok (.astore_n 2, 1) := by decide +kernel
theorem dX2_clear_6 : decode cX2_clear 6 = .ok (.aload_n 2, 1) := by decide +kernel
theorem dX2_clear_7 : decode cX2_clear 7 = .ok (.invokevirtual 66, 3) := by decide +kernel
theorem dX2_clear_10 : decode cX2_clear 10 = .ok (.istore_n 3, 1) := by decide +kernel
theorem dX2_clear_11 : decode cX2_clear 11 = .ok (.aload_n 2, 1) := by decide +kernel
theorem dX2_clear_12 : decode cX2_clear 12 = .ok (.invokevirtual 55, 3) := by decide +kernel
theorem dX2_clear_15 : decode cX2_clear 15 = .ok (.iload_n 3, 1) := by decide +kernel
theorem dX2_clear_16 : decode cX2_clear 16 = .ok (.ireturn, 1) := by decide +kernel
theorem dX2_copy_0 : decode cX2_copy 0 = .ok (.aload_n 0, 1) := by decide +kernel
theorem dX2_copy_1 : decode cX2_copy 1 = .ok (.iload_n 1, 1) := by decide +kernel
theorem dX2_copy_2 : decode cX2_copy 2 = .ok (.invokevirtual 51, 3) := by decide +kernel
theorem dX2_copy_5 : decode cX2_copy 5 = .ok (.astore_n 3, 1) := by decide +kernel
theorem dX2_copy_6 : decode cX2_copy 6 = .ok (.aload_n 0, 1) := by decide +kernel
theorem dX2_copy_7 : decode cX2_copy 7 = .ok (.aload_n 3, 1) := by decide +kernel
theorem dX2_copy_8 : decode cX2_copy 8 = .ok (.iconst 0, 1) := by decide +kernel
theorem dX2_copy_9 : decode cX2_copy 9 = .ok (.aload_n 3, 1) := by decide +kernel
theorem dX2_copy_10 : decode cX2_copy 10 = .ok (.invokevirtual 66, 3) := by decide +kernel
theorem dX2_copy_13 : decode cX2_copy 13 = .ok (.aload_n 0, 1) := by decide +kernel
theorem dX2_copy_14 : decode cX2_copy 14 = .ok (.iload_n 2, 1) := by decide +kernel
theorem dX2_copy_15 : decode cX2_copy 15 = .ok (.invokevirtual 51, 3) := by decide +kernel
theorem dX2_copy_18 : decode cX2_copy 18 = .ok (.invokevirtual 70, 3) := by decide +kernel
theorem dX2_copy_21 : decode cX2_copy 21 = .ok (.ireturn, 1) := by decide +kernel
theorem dX2_part_0 : decode cX2_part 0 = .ok (.aload_n 0, 1) := by decide +kernel
theorem dX2_part_1 : decode cX2_part 1 = .ok (.iload_n 1, 1) := by decide +kernel
theorem dX2_part_2 : decode cX2_part 2 = .ok (.invokevirtual 51, 3) := by decide +kernel
theorem dX2_part_5 : decode cX2_part 5 = .ok (.astore 5, 2) := by decide +kernel
theorem dX2_part_7 : decode cX2_part 7 = .ok (.aload_n 0, 1) := by decide +kernel
theorem dX2_part_8 : decode cX2_part 8 = .ok (.iload 4, 2) := by decide +kernel
theorem dX2_part_10 : decode cX2_part 10 = .ok (.invokevirtual 51, 3) := by decide +kernel
theorem dX2_part_13 : decode cX2_part 13 = .ok (.astore 6, 2) := by decide +kernel
theorem dX2_part_15 : decode cX2_part 15 = .ok (.iload_n 2, 1) := by decide +kernel
theorem dX2_part_16 : decode cX2_part 16 = .ok (.ifCond .lt 17, 3) := by decide +kernel
theorem dX2_part_19 : decode cX2_part 19 = .ok (.iload_n 3, 1) := by decide +kernel
theorem dX2_part_20 : decode cX2_part 20 = .ok (.iload_n 2, 1) := by decide +kernel
theorem dX2_part_21 : decode cX2_part 21 = .ok (.if_icmp .lt 12, 3) := by decide +kernel
theorem dX2_part_24 : decode cX2_part 24 = .ok (.iload_n 3, 1) := by decide +kernel
theorem dX2_part_25 : decode cX2_part 25 = .ok (.aload 5, 2) := by decide +kernel
theorem dX2_part_27 : decode cX2_part 27 = .ok (.invokevirtual 66, 3) := by decide +kernel
theorem dX2_part_30 : decode cX2_part 30 = .ok (.if_icmp .le 11, 3) := by decide +kernel
theorem dX2_part_33 : decode cX2_part 33 = .ok (.new 74, 3) := by decide +kernel
theorem dX2_part_36 : decode cX2_part 36 = .ok (.dup, 1) := by decide +kernel
theorem dX2_part_37 : decode cX2_part 37 = .ok (.invokespecial 76, 3) := by decide +kernel
theorem dX2_part_40 : decode cX2_part 40 = .ok (.athrow, 1) := by decide +kernel
theorem dX2_part_41 : decode cX2_part 41 = .ok (.aload_n 0, 1) := by decide +kernel
theorem dX2_part_42 : decode cX2_part 42 = .ok (.aload 5, 2) := by decide +kernel
theorem dX2_part_44 : decode cX2_part 44 = .ok (.iload_n 2, 1) := by decide +kernel
theorem dX2_part_45 : decode cX2_part 45 = .ok (.iload_n 3, 1) := by decide +kernel
theorem dX2_part_46 : decode cX2_part 46 = .ok (.aload 6, 2) := by decide +kernel
theorem dX2_part_48 : decode cX2_part 48 = .ok (.invokevirtual 70, 3) := by decide +kernel
theorem dX2_part_51 : decode cX2_part 51 = .ok (.ireturn, 1) := by decide +kernel
theorem dX2_tail_0 : decode cX2_tail 0 = .ok (.aload_n 0, 1) := by decide +kernel
theorem dX2_tail_1 : decode cX2_tail 1 = .ok (.iload_n 1, 1) := by decide +kernel
theorem dX2_tail_2 : decode cX2_tail 2 = .ok (.invokevirtual 51, 3) := by decide +kernel
theorem dX2_tail_5 : decode cX2_tail 5 = .ok (.astore 4, 2) := by decide +kernel
theorem dX2_tail_7 : decode cX2_tail 7 = .ok (.aload_n 0, 1) := by decide +kernel
theorem dX2_tail_8 : decode cX2_tail 8 = .ok (.iload_n 3, 1) := by decide +kernel
theorem dX2_tail_9 : decode cX2_tail 9 = .ok (.invokevirtual 51, 3) := by decide +kernel
theorem dX2_tail_12 : decode cX2_tail 12 = .ok (.astore 5, 2) := by decide +kernel
theorem dX2_tail_14 : decode cX2_tail 14 = .ok (.aload 4, 2) := by decide +kernel
theorem dX2_tail_16 : decode cX2_tail 16 = .ok (.iload_n 2, 1) := by decide +kernel
theorem dX2_tail_17 : decode cX2_tail 17 = .ok (.invokestatic 77, 3) := by decide +kernel
theorem dX2_tail_20 : decode cX2_tail 20 = .ok (.aload_n 0, 1) := by decide +kernel
theorem dX2_tail_21 : decode cX2_tail 21 = .ok (.aload 4, 2) := by decide +kernel
theorem dX2_tail_23 : decode cX2_tail 23 = .ok (.iload_n 2, 1) := by decide +kernel
theorem dX2_tail_24 : decode cX2_tail 24 = .ok (.aload 4, 2) := by decide +kernel
theorem dX2_tail_26 : decode cX2_tail 26 = .ok (.invokevirtual 66, 3) := by decide +kernel
theorem dX2_tail_29 : decode cX2_tail 29 = .ok (.aload 5, 2) := by decide +kernel
theorem dX2_tail_31 : decode cX2_tail 31 = .ok (.invokevirtual 70, 3) := by decide +kernel
theorem dX2_tail_34 : decode cX2_tail 34 = .ok (.ireturn, 1) := by decide +kernel
theorem dX2_join_0 : decode cX2_join 0 = .ok (.aload_n 0, 1) := by decide +kernel
theorem dX2_join_1 : decode cX2_join 1 = .ok (.aload_n 0, 1) := by decide +kernel
theorem dX2_join_2 : decode cX2_join 2 = .ok (.iload_n 1, 1) := by decide +kernel
theorem dX2_join_3 : decode cX2_join 3 = .ok (.invokevirtual 51, 3) := by decide +kernel
theorem dX2_join_6 : decode cX2_join 6 = .ok (.aload_n 0, 1) := by decide +kernel
theorem dX2_join_7 : decode cX2_join 7 = .ok (.iload_n 2, 1) := by decide +kernel
theorem dX2_join_8 : decode cX2_join 8 = .ok (.invokevirtual 51, 3) := by decide +kernel
theorem dX2_join_11 : decode cX2_join 11 = .ok (.aload_n 0, 1) := by decide +kernel
theorem dX2_join_12 : decode cX2_join 12 = .ok (.iload_n 3, 1) := by decide +kernel
theorem dX2_join_13 : decode cX2_join 13 = .ok (.invokevirtual 51, 3) := by decide +kernel
theorem dX2_join_16 : decode cX2_join 16 = .ok (.invokevirtual 62, 3) := by decide +kernel
theorem dX2_join_19 : decode cX2_join 19 = .ok (.ireturn, 1) := by decide +kernel
theorem dX2_trim_0 : decode cX2_trim 0 = .ok (.aload_n 0, 1) := by decide +kernel
theorem dX2_trim_1 : decode cX2_trim 1 = .ok (.iload_n 1, 1) := by decide +kernel
theorem dX2_trim_2 : decode cX2_trim 2 = .ok (.invokevirtual 51, 3) := by decide +kernel
theorem dX2_trim_5 : decode cX2_trim 5 = .ok (.astore 4, 2) := by decide +kernel
theorem dX2_trim_7 : decode cX2_trim 7 = .ok (.aload_n 0, 1) := by decide +kernel
theorem dX2_trim_8 : decode cX2_trim 8 = .ok (.aload 4, 2) := by decide +kernel
theorem dX2_trim_10 : decode cX2_trim 10 = .ok (.aload 4, 2) := by decide +kernel
theorem dX2_trim_12 : decode cX2_trim 12 = .ok (.iload_n 2, 1) := by decide +kernel
theorem dX2_trim_13 : decode cX2_trim 13 = .ok (.invokevirtual 94, 3) := by decide +kernel
theorem dX2_trim_16 : decode cX2_trim 16 = .ok (.aload 4, 2) := by decide +kernel
theorem dX2_trim_18 : decode cX2_trim 18 = .ok (.iload_n 2, 1) := by decide +kernel
theorem dX2_trim_19 : decode cX2_trim 19 = .ok (.invokevirtual 98, 3) := by decide +kernel
theorem dX2_trim_22 : decode cX2_trim 22 = .ok (.aload_n 0, 1) := by decide +kernel
theorem dX2_trim_23 : decode cX2_trim 23 = .ok (.iload_n 3, 1) := by decide +kernel
theorem dX2_trim_24 : decode cX2_trim 24 = .ok (.invokevirtual 51, 3) := by decide +kernel
theorem dX2_trim_27 : decode cX2_trim 27 = .ok (.invokevirtual 70, 3) := by decide +kernel
theorem dX2_trim_30 : decode cX2_trim 30 = .ok (.ireturn, 1) := by decide +kernel
theorem dX2_known_0 : decode cX2_known 0 = .ok (.aload_n 0, 1) := by decide +kernel
theorem dX2_known_1 : decode cX2_known 1 = .ok (.iload_n 1, 1) := by decide +kernel
theorem dX2_known_2 : decode cX2_known 2 = .ok (.invokevirtual 51, 3) := by decide +kernel
theorem dX2_known_5 : decode cX2_known 5 = .ok (.astore_n 3, 1) := by decide +kernel
theorem dX2_known_6 : decode cX2_known 6 = .ok (.aload_n 0, 1) := by decide +kernel
theorem dX2_known_7 : decode cX2_known 7 = .ok (.aload_n 3, 1) := by decide +kernel
theorem dX2_known_8 : decode cX2_known 8 = .ok (.aload_n 0, 1) := by decide +kernel
theorem dX2_known_9 : decode cX2_known 9 = .ok (.iload_n 2, 1) := by decide +kernel
theorem dX2_known_10 : decode cX2_known 10 = .ok (.invokevirtual 122, 3) := by decide +kernel
theorem dX2_known_13 : decode cX2_known 13 = .ok (.aload_n 3, 1) := by decide +kernel
theorem dX2_known_14 : decode cX2_known 14 = .ok (.invokevirtual 62, 3) := by decide +kernel
theorem dX2_known_17 : decode cX2_known 17 = .ok (.ireturn, 1) := by decide +kernel
theorem dX2_lay_0 : decode cX2_lay 0 = .ok (.aload_n 0, 1) := by decide +kernel
theorem dX2_lay_1 : decode cX2_lay 1 = .ok (.getfield 19, 3) := by decide +kernel
theorem dX2_lay_4 : decode cX2_lay 4 = .ok (.aload_n 0, 1) := by decide +kernel
theorem dX2_lay_5 : decode cX2_lay 5 = .ok (.iload_n 1, 1) := by decide +kernel
theorem dX2_lay_6 : decode cX2_lay 6 = .ok (.invokevirtual 51, 3) := by decide +kernel
theorem dX2_lay_9 : decode cX2_lay 9 = .ok (.invokevirtual 91, 3) := by decide +kernel
theorem dX2_lay_12 : decode cX2_lay 12 = .ok (.aload_n 0, 1) := by decide +kernel
theorem dX2_lay_13 : decode cX2_lay 13 = .ok (.getfield 19, 3) := by decide +kernel
theorem dX2_lay_16 : decode cX2_lay 16 = .ok (.invokevirtual 66, 3) := by decide +kernel
theorem dX2_lay_19 : decode cX2_lay 19 = .ok (.ireturn, 1) := by decide +kernel
theorem dX2_set_0 : decode cX2_set 0 = .ok (.aload_n 0, 1) := by decide +kernel
theorem dX2_set_1 : decode cX2_set 1 = .ok (.getfield 19, 3) := by decide +kernel
theorem dX2_set_4 : decode cX2_set 4 = .ok (.iload_n 1, 1) := by decide +kernel
theorem dX2_set_5 : decode cX2_set 5 = .ok (.invokestatic 125, 3) := by decide +kernel
theorem dX2_set_8 : decode cX2_set 8 = .ok (.iload_n 2, 1) := by decide +kernel
theorem dX2_set_9 : decode cX2_set 9 = .ok (.invokestatic 115, 3) := by decide +kernel
theorem dX2_set_12 : decode cX2_set 12 = .ok (.istore_n 3, 1) := by decide +kernel
theorem dX2_set_13 : decode cX2_set 13 = .ok (.aload_n 0, 1) := by decide +kernel
theorem dX2_set_14 : decode cX2_set 14 = .ok (.getfield 19, 3) := by decide +kernel
theorem dX2_set_17 : decode cX2_set 17 = .ok (.iload_n 1, 1) := by decide +kernel
theorem dX2_set_18 : decode cX2_set 18 = .ok (.invokevirtual 128, 3) := by decide +kernel
theorem dX2_set_21 : decode cX2_set 21 = .ok (.istore 4, 2) := by decide +kernel
theorem dX2_set_23 : decode cX2_set 23 = .ok (.aload_n 0, 1) := by decide +kernel
theorem dX2_set_24 : decode cX2_set 24 = .ok (.getfield 19, 3) := by decide +kernel
theorem dX2_set_27 : decode cX2_set 27 = .ok (.iload_n 1, 1) := by decide +kernel
theorem dX2_set_28 : decode cX2_set 28 = .ok (.iload_n 3, 1) := by decide +kernel
theorem dX2_set_29 : decode cX2_set 29 = .ok (.invokevirtual 131, 3) := by decide +kernel
theorem dX2_set_32 : decode cX2_set 32 = .ok (.iload 4, 2) := by decide +kernel
theorem dX2_set_34 : decode cX2_set 34 = .ok (.ireturn, 1) := by decide +kernel
theorem dX2_take_0 : decode cX2_take 0 = .ok (.aload_n 0, 1) := by decide +kernel
theorem dX2_take_1 : decode cX2_take 1 = .ok (.aload_n 0, 1) := by decide +kernel
theorem dX2_take_2 : decode cX2_take 2 = .ok (.getfield 19, 3) := by decide +kernel
theorem dX2_take_5 : decode cX2_take 5 = .ok (.iconst 0, 1) := by decide +kernel
theorem dX2_take_6 : decode cX2_take 6 = .ok (.aload_n 0, 1) := by decide +kernel
theorem dX2_take_7 : decode cX2_take 7 = .ok (.getfield 19, 3) := by decide +kernel
theorem dX2_take_10 : decode cX2_take 10 = .ok (.invokevirtual 66, 3) := by decide +kernel
theorem dX2_take_13 : decode cX2_take 13 = .ok (.aload_n 0, 1) := by decide +kernel
theorem dX2_take_14 : decode cX2_take 14 = .ok (.iload_n 1, 1) := by decide +kernel
theorem dX2_take_15 : decode cX2_take 15 = .ok (.invokevirtual 51, 3) := by decide +kernel
theorem dX2_take_18 : decode cX2_take 18 = .ok (.invokevirtual 70, 3) := by decide +kernel
theorem dX2_take_21 : decode cX2_take 21 = .ok (.ireturn, 1) := by decide +kernel
theorem dX2_takePiece_0 : decode cX2_takePiece 0 = .ok (.aload_n 0, 1) := by decide +kernel
theorem dX2_takePiece_1 : decode cX2_takePiece 1 = .ok (.iload_n 1, 1) := by decide +kernel
theorem dX2_takePiece_2 : decode cX2_takePiece 2 = .ok (.invokevirtual 139, 3) := by decide +kernel
theorem dX2_takePiece_5 : decode cX2_takePiece 5 = .ok (.aload_n 0, 1) := by decide +kernel
theorem dX2_takePiece_6 : decode cX2_takePiece 6 = .ok (.iload_n 1, 1) := by decide +kernel
theorem dX2_takePiece_7 : decode cX2_takePiece 7 = .ok (.aload_n 0, 1) := by decide +kernel
theorem dX2_takePiece_8 : decode cX2_takePiece 8 = .ok (.iload_n 2, 1) := by decide +kernel
theorem dX2_takePiece_9 : decode cX2_takePiece 9 = .ok (.invokevirtual 51, 3) := by decide +kernel
theorem dX2_takePiece_12 : decode cX2_takePiece 12 = .ok (.invokevirtual 142, 3) := by decide +kernel
theorem dX2_takePiece_15 : decode cX2_takePiece 15 = .ok (.ireturn, 1) := by decide +kernel
theorem dX2_knock_0 : decode cX2_knock 0 = .ok (.aload_n 0, 1) := by decide +kernel
theorem dX2_knock_1 : decode cX2_knock 1 = .ok (.dup, 1) := by decide +kernel
theorem dX2_knock_2 : decode cX2_knock 2 = .ok (.getfield 30, 3) := by decide +kernel
theorem dX2_knock_5 : decode cX2_knock 5 = .ok (.iconst 1, 1) := by decide +kernel
theorem dX2_knock_6 : decode cX2_knock 6 = .ok (.iadd, 1) := by decide +kernel
theorem dX2_knock_7 : decode cX2_knock 7 = .ok (.putfield 30, 3) := by decide +kernel
theorem dX2_knock_10 : decode cX2_knock 10 = .ok (.aload_n 0, 1) := by decide +kernel
theorem dX2_knock_11 : decode cX2_knock 11 = .ok (.getfield 30, 3) := by decide +kernel
theorem dX2_knock_14 : decode cX2_knock 14 = .ok (.ireturn, 1) := by decide +kernel
abbrev rmX2_knock : Room := { frames := 1, cells := 0, slots := 0, locals := 20 }
theorem mX2_knock {l : Launch} {G : Cx} {A : Nat → Prop} {SA : Nat → Nat} {X : Nat → List Nat} {es : List Nat} {k : Int32} (hAS : ∀ i : Nat, i < 39 → A (SA i)) : Met l yX2_knock (.code yX2_knock cX2_knock 1 (some .int) :: GW) rmX2_knock (PC G A [.ref (SA 0)] (SS G SA X es k)) (qI A (fun r H => r = k + 1 ∧ SS G SA X es (k + 1) H)) 0 0 (A) := by
  refine mstart "Signtext" (by decide +kernel) rfl (Nat.le_of_ble_eq_true rfl) ?_
  intro p e s m below meth c ls hx hb hr hts hown hml hlocks hname hC hA hW hl
  have hl : lv_has ls 1 [(0, .ref (SA 0))] := hl
  have hK := hC.1
  have hS : va_S A s.heap s.heap [] := va_S.rf
  obtain ⟨T, es2, hW, hF⟩ := hW
  have hO := hW.2.1
  have hR1 := hW.2.2.1
  have hR2 := hW.2.2.2.1
  refine lv_aload_n hx hb dX2_knock_0 rfl (lv_at hl 0 rfl) ?_
  refine lv_dup hx hb dX2_knock_1 rfl ?_
  refine va_get (D := G.1) (ci := 6) (C := RX2) (T := TX2) (N := 8) hx hb hts inX2 hown hK (at_P hO) 0 rfl rfl 4 (by decide) (hts _ tw_1_141) (fun _ h9 => h9) rfl dX2_knock_2 ?_
  refine lv_iconst (v := nI 1) hx hb dX2_knock_5 (by decide) ?_
  refine lv_iadd hx hb dX2_knock_6 ?_
  refine h_put (D := G.1) (ci := 6) (C := RX2) (T := TX2) (N := 8) hx hb hts inX2 tyX2 tyX2_ok nmX2 hown hK hO hS (hAS 0 (by decide)) rfl 4 (by decide) (hts _ tw_1_141) (fun _ h9 => h9) rfl (tyX2_ok 4 (by decide)) rfl rfl (Nat.le_of_ble_eq_true rfl) dX2_knock_7 (fun H1 L1 hO z1 o1 hS => ?_)
  have hO : va_at G.1 vwCl (SA 0, .inr (6, [.ref (SA 1), .ref (SA 2), .ref (SA 29), .ref (SA 3), .int (k + 1), .ref (SA 31), .ref (SA 33), .ref (SA 5)])) H1 := hO
  have hZ1 := hS.1
  refine lv_aload_n hx hb dX2_knock_10 rfl (lv_at hl 0 rfl) ?_
  refine va_get (D := G.1) (ci := 6) (C := RX2) (T := TX2) (N := 8) hx hb hts inX2 hown hK (at_P hO) 0 rfl rfl 4 (by decide) (hts _ tw_1_141) (fun _ h9 => h9) rfl dX2_knock_11 ?_
  exact q_i hx hb hr hlocks dX2_knock_14 hS (Nat.le_refl _) (Nat.le_refl _) ⟨rfl, _, _, hW.knock hO o1 z1, hF⟩

abbrev rmX2_clear : Room := { frames := 7, cells := 1, slots := 6, locals := 110 }
theorem mX2_clear {l : Launch} {G : Cx} {A : Nat → Prop} (hst : l.stackTraces = false) {SA : Nat → Nat} {X : Nat → List Nat} {es : List Nat} {k : Int32} {x : Int32} (hAS : ∀ i : Nat, i < 39 → A (SA i)) : vx_Met l yX2_clear (.code yX2_clear cX2_clear 4 (some .int) :: GW) rmX2_clear (PC G A [.ref (SA 0), .int x] (SS G SA X es k)) (qI A (fun r H => ∃ i : Nat, i < 4 ∧ x = nI i ∧ r = nI (X i).length ∧ SS G SA (updT X i []) es k H)) (xE A (fun E H => (E = "java/lang/IndexOutOfBoundsException" ∧ NT x) ∧ SS G SA X es k H)) 1 6 A := by
  refine mstartX "Signtext" (by decide +kernel) rfl (Nat.le_of_ble_eq_true rfl) ?_
  intro p e s m below meth c ls hx hb hr hts hown hml hlocks hnx hC hA hW hl
  have hl : lv_has ls 4 [(0, .ref (SA 0)), (1, .int x)] := hl
  have hK := hC.1
  have hS : va_S A s.heap s.heap [] := va_S.rf
  obtain ⟨T, es2, hW, hF⟩ := hW
  have hO := hW.2.1
  have hR1 := hW.2.2.1
  have hR2 := hW.2.2.2.1
  refine lv_aload_n hx hb dX2_clear_0 rfl (lv_at hl 0 rfl) ?_
  refine lv_iload_n hx hb dX2_clear_1 rfl (lv_at hl 1 rfl) ?_
  refine xR_V (A := A) (A1 := A) (b := (SA 0)) (As := [.int x]) (rest := []) ⟨hx, hb, hml, hown, hts⟩ (mX2_textOf (A := A) hst ) (cwV 1 hts (gV tw_3_4 tw_3_6 sel_X2_textOf tw_1_1 tw_3_7) rfl rfl rfl (by decide +kernel) ⟨Nat.le_of_ble_eq_true rfl, Nat.le_of_ble_eq_true rfl⟩) hC hS (fun _ h => h) (fun q h => hA q (Nat.le_trans hS.1 h)) (hW.recv hK) hW rfl rfl hl.1 (Nat.le_of_ble_eq_true rfl) ⟨Nat.le_trans (show 0 + 1 ≤ 1 by omega) (Nat.le_of_ble_eq_true rfl), Nat.le_trans (show 0 + 6 ≤ 6 by omega) (Nat.le_of_ble_eq_true rfl)⟩ dX2_clear_2 hnx hlocks (by omega) (by omega) (fun E H9 q _ => ⟨⟨q.1, q.2.1⟩, _, _, q.2.2, hF⟩) (fun rv2 H2 L2 hP2 hk2 hS => ?_)
  have hZ2 := hS.1
  obtain ⟨⟨i, hi, hxi, hrv⟩, hW⟩ := hP2
  subst hrv
  have hO := hW.2.1
  have hR1 := hW.2.2.1
  have hR2 := hW.2.2.2.1
  have ei := hF i (Or.inl hi)
  refine lv_astore_n (lv' := [(2, .ref (SA (7 + 2 * i))), (0, .ref (SA 0)), (1, .int x)]) hx hb dX2_clear_5 rfl hl (by decide) rfl (fun ls hl => ?_)
  refine lv_aload_n hx hb dX2_clear_6 rfl (lv_at hl 0 rfl) ?_
  refine kV_i (A := A) (b := (SA (7 + 2 * i))) (As := []) (rest := []) ⟨hx, hb, hml, hown, hts⟩ (mX0_size (A := A) (ca := SA (8 + 2 * i))) (cwV 0 hts (gV tw_2_30 tw_2_12 tw_2_13 tw_1_2 tw_2_14) rfl rfl rfl (by decide +kernel) ⟨Nat.le_of_ble_eq_true rfl, Nat.le_of_ble_eq_true rfl⟩) hC hS hA ((hW.line (i := i) (by omega)).recv hK) (hW.line (i := i) (by omega)) rfl rfl hl.1 (Nat.le_of_ble_eq_true rfl) ⟨Nat.le_trans (show (0 + 1) ≤ 1 by omega) (Nat.le_of_ble_eq_true rfl), Nat.le_trans (show (0 + 6) ≤ 6 by omega) (Nat.le_of_ble_eq_true rfl)⟩ dX2_clear_7 (fun r9 h9 => lv_cv h9 ?_)
  refine lv_istore_n (lv' := [(3, .int (nI ((T i).length))), (2, .ref (SA (7 + 2 * i))), (0, .ref (SA 0)), (1, .int x)]) hx hb dX2_clear_10 rfl hl (by decide) rfl (fun ls hl => ?_)
  refine lv_aload_n hx hb dX2_clear_11 rfl (lv_at hl 1 rfl) ?_
  refine qV_V (A := A) (A1 := ow (SA (7 + 2 * i)) (SA (8 + 2 * i)) H2.size) (b := (SA (7 + 2 * i))) (As := []) (rest := []) ⟨hx, hb, hml, hown, hts⟩ (mX0_empty (A := ow (SA (7 + 2 * i)) (SA (8 + 2 * i)) H2.size) (ca := SA (8 + 2 * i)) (hAa := Or.inl rfl)) (cwV 0 hts (gV tw_2_31 tw_2_32 tw_2_33 tw_1_2 tw_2_34) rfl rfl rfl (by decide +kernel) ⟨Nat.le_of_ble_eq_true rfl, Nat.le_of_ble_eq_true rfl⟩) hC hS (ow_in (hAS _ (by omega)) (hAS _ (by omega)) hA hS.1) ow_n ((hW.line (i := i) (by omega)).recv hK) (hW.line (i := i) (by omega)) rfl rfl hl.1 (Nat.le_of_ble_eq_true rfl) ⟨Nat.le_trans (show (0 + 1) ≤ 1 by omega) (Nat.le_of_ble_eq_true rfl), Nat.le_trans (show (0 + 6) ≤ 6 by omega) (Nat.le_of_ble_eq_true rfl)⟩ dX2_clear_12 (fun H3 L3 hP3 hk3 hS => ?_)
  have hZ3 := hS.1
  have hW := hW.put (q := i) (t := []) (by omega) hk3 hP3
  refine lv_iload_n hx hb dX2_clear_15 rfl (lv_at hl 0 rfl) ?_
  exact vx_ret (q_i hx hb hr hlocks dX2_clear_16 hS (by omega) (by omega) ⟨i, hi, hxi, by rw [ei], _, _, hW, (FR.up hF)⟩)

abbrev rmX2_copy : Room := { frames := 7, cells := 2, slots := 12, locals := 110 }
theorem mX2_copy {l : Launch} {G : Cx} {A : Nat → Prop} (hst : l.stackTraces = false) {SA : Nat → Nat} {X : Nat → List Nat} {es : List Nat} {k : Int32} {x y : Int32} (hAS : ∀ i : Nat, i < 39 → A (SA i)) : vx_Met l yX2_copy (.code yX2_copy cX2_copy 4 (some .int) :: GW) rmX2_copy (PC G A [.ref (SA 0), .int x, .int y] (SS G SA X es k)) (qI A (fun r H => ∃ i j : Nat, i < 4 ∧ x = nI i ∧ j < 4 ∧ y = nI j ∧ r = nI (X i).length ∧ SS G SA (updT X j (X i)) es k H)) (xE A (fun E H => (E = "java/lang/IndexOutOfBoundsException" ∧ (NT x ∨ NT y)) ∧ SS G SA X es k H)) 2 12 A := by
  refine mstartX "Signtext" (by decide +kernel) rfl (Nat.le_of_ble_eq_true rfl) ?_
  intro p e s m below meth c ls hx hb hr hts hown hml hlocks hnx hC hA hW hl
  have hl : lv_has ls 4 [(0, .ref (SA 0)), (1, .int x), (2, .int y)] := hl
  have hK := hC.1
  have hS : va_S A s.heap s.heap [] := va_S.rf
  obtain ⟨T, es2, hW, hF⟩ := hW
  have hO := hW.2.1
  have hR1 := hW.2.2.1
  have hR2 := hW.2.2.2.1
  refine lv_aload_n hx hb dX2_copy_0 rfl (lv_at hl 0 rfl) ?_
  refine lv_iload_n hx hb dX2_copy_1 rfl (lv_at hl 1 rfl) ?_
  refine xR_V (A := A) (A1 := A) (b := (SA 0)) (As := [.int x]) (rest := []) ⟨hx, hb, hml, hown, hts⟩ (mX2_textOf (A := A) hst ) (cwV 1 hts (gV tw_3_4 tw_3_6 sel_X2_textOf tw_1_1 tw_3_7) rfl rfl rfl (by decide +kernel) ⟨Nat.le_of_ble_eq_true rfl, Nat.le_of_ble_eq_true rfl⟩) hC hS (fun _ h => h) (fun q h => hA q (Nat.le_trans hS.1 h)) (hW.recv hK) hW rfl rfl hl.1 (Nat.le_of_ble_eq_true rfl) ⟨Nat.le_trans (show 0 + 1 ≤ 2 by omega) (Nat.le_of_ble_eq_true rfl), Nat.le_trans (show 0 + 6 ≤ 12 by omega) (Nat.le_of_ble_eq_true rfl)⟩ dX2_copy_2 hnx hlocks (by omega) (by omega) (fun E H9 q _ => ⟨⟨q.1, Or.inl q.2.1⟩, _, _, q.2.2, hF⟩) (fun rv4 H4 L4 hP4 hk4 hS => ?_)
  have hZ4 := hS.1
  obtain ⟨⟨i, hi, hxi, hrv⟩, hW⟩ := hP4
  subst hrv
  have hO := hW.2.1
  have hR1 := hW.2.2.1
  have hR2 := hW.2.2.2.1
  have ei := hF i (Or.inl hi)
  refine lv_astore_n (lv' := [(3, .ref (SA (7 + 2 * i))), (0, .ref (SA 0)), (1, .int x), (2, .int y)]) hx hb dX2_copy_5 rfl hl (by decide) rfl (fun ls hl => ?_)
  refine lv_aload_n hx hb dX2_copy_6 rfl (lv_at hl 1 rfl) ?_
  refine lv_aload_n hx hb dX2_copy_7 rfl (lv_at hl 0 rfl) ?_
  refine lv_iconst (v := nI 0) hx hb dX2_copy_8 (by decide) ?_
  refine lv_aload_n hx hb dX2_copy_9 rfl (lv_at hl 0 rfl) ?_
  refine kV_i (A := A) (b := (SA (7 + 2 * i))) (As := []) (rest := .int (nI 0) :: .ref (SA (7 + 2 * i)) :: .ref (SA 0) :: []) ⟨hx, hb, hml, hown, hts⟩ (mX0_size (A := A) (ca := SA (8 + 2 * i))) (cwV 0 hts (gV tw_2_30 tw_2_12 tw_2_13 tw_1_2 tw_2_14) rfl rfl rfl (by decide +kernel) ⟨Nat.le_of_ble_eq_true rfl, Nat.le_of_ble_eq_true rfl⟩) hC hS hA ((hW.line (i := i) (by omega)).recv hK) (hW.line (i := i) (by omega)) rfl rfl hl.1 (Nat.le_of_ble_eq_true rfl) ⟨Nat.le_trans (show (0 + 1) ≤ 2 by omega) (Nat.le_of_ble_eq_true rfl), Nat.le_trans (show (0 + 6) ≤ 12 by omega) (Nat.le_of_ble_eq_true rfl)⟩ dX2_copy_10 (fun r9 h9 => lv_cv h9 ?_)
  refine lv_aload_n hx hb dX2_copy_13 rfl (lv_at hl 1 rfl) ?_
  refine lv_iload_n hx hb dX2_copy_14 rfl (lv_at hl 3 rfl) ?_
  refine xR_V (A := A) (A1 := A) (b := (SA 0)) (As := [.int y]) (rest := .int (nI ((T i).length)) :: .int (nI 0) :: .ref (SA (7 + 2 * i)) :: .ref (SA 0) :: []) ⟨hx, hb, hml, hown, hts⟩ (mX2_textOf (A := A) hst ) (cwV 1 hts (gV tw_3_4 tw_3_6 sel_X2_textOf tw_1_1 tw_3_7) rfl rfl rfl (by decide +kernel) ⟨Nat.le_of_ble_eq_true rfl, Nat.le_of_ble_eq_true rfl⟩) hC hS (fun _ h => h) (fun q h => hA q (Nat.le_trans hS.1 h)) (hW.recv hK) hW rfl rfl hl.1 (Nat.le_of_ble_eq_true rfl) ⟨Nat.le_trans (show (0 + 1) + 1 ≤ 2 by omega) (Nat.le_of_ble_eq_true rfl), Nat.le_trans (show (0 + 6) + 6 ≤ 12 by omega) (Nat.le_of_ble_eq_true rfl)⟩ dX2_copy_15 hnx hlocks (by omega) (by omega) (fun E H9 q _ => ⟨⟨q.1, Or.inr q.2.1⟩, _, _, q.2.2, hF⟩) (fun rv5 H5 L5 hP5 hk5 hS => ?_)
  have hZ5 := hS.1
  obtain ⟨⟨j, hj, hxj, hrv⟩, hW⟩ := hP5
  subst hrv
  have hO := hW.2.1
  have hR1 := hW.2.2.1
  have hR2 := hW.2.2.2.1
  have ej := hF j (Or.inl hj)
  refine qI_V (A := A) (A1 := A) (b := (SA 0)) (As := [.ref (SA (7 + 2 * i)), .int (nI 0), .int (nI ((T i).length)), .ref (SA (7 + 2 * j))]) (rest := []) ⟨hx, hb, hml, hown, hts⟩ (mX2_partInto (A := A) (i := i) (q := j) (a9 := 0) (b9 := (T i).length) hAS (by omega) (by omega) (by omega) (Nat.zero_le _) (Nat.le_refl _)) (cwV 4 hts (gV tw_2_55 tw_2_57 sel_X2_partInto tw_1_1 tw_2_58) rfl rfl rfl (by decide +kernel) ⟨Nat.le_of_ble_eq_true rfl, Nat.le_of_ble_eq_true rfl⟩) hC hS (fun _ h => h) (fun q h => hA q (Nat.le_trans hS.1 h)) (hW.recv hK) hW rfl rfl hl.1 (Nat.le_of_ble_eq_true rfl) ⟨Nat.le_trans (show ((0 + 1) + 1) ≤ 2 by omega) (Nat.le_of_ble_eq_true rfl), Nat.le_trans (show ((0 + 6) + 6) ≤ 12 by omega) (Nat.le_of_ble_eq_true rfl)⟩ dX2_copy_18 (fun rv6 H6 L6 hP6 hk6 hS => ?_)
  have hZ6 := hS.1
  rw [cutL_all, ei] at hP6
  exact vx_ret (q_i hx hb hr hlocks dX2_copy_21 hS (by omega) (by omega) ⟨i, j, hi, hxi, hj, hxj, hP6.1, _, _, hP6.2, (FR.up (FR.s13 hF))⟩)

abbrev rmX2_part : Room := { frames := 7, cells := 3, slots := 18, locals := 110 }
theorem mX2_part {l : Launch} {G : Cx} {A : Nat → Prop} (hst : l.stackTraces = false) {SA : Nat → Nat} {X : Nat → List Nat} {es : List Nat} {k : Int32} {x f9 t9 y : Int32} (hAS : ∀ i : Nat, i < 39 → A (SA i)) : vx_Met l yX2_part (.code yX2_part cX2_part 7 (some .int) :: GW) rmX2_part (PC G A [.ref (SA 0), .int x, .int f9, .int t9, .int y] (SS G SA X es k)) (qI A (fun r H => ∃ i j a9 b9 : Nat, i < 4 ∧ x = nI i ∧ j < 4 ∧ y = nI j ∧ f9 = nI a9 ∧ t9 = nI b9 ∧ a9 ≤ b9 ∧ b9 ≤ (X i).length ∧ r = nI (cutL (X i) a9 b9).length ∧ SS G SA (updT X j (cutL (X i) a9 b9)) es k H)) (xE A (fun E H => (E = "java/lang/IndexOutOfBoundsException" ∧ (NT x ∨ NT y ∨ ¬ (∃ i a9 b9 : Nat, i < 4 ∧ x = nI i ∧ f9 = nI a9 ∧ t9 = nI b9 ∧ a9 ≤ b9 ∧ b9 ≤ (X i).length))) ∧ SS G SA X es k H)) 3 18 A := by
  refine mstartX "Signtext" (by decide +kernel) rfl (Nat.le_of_ble_eq_true rfl) ?_
  intro p e s m below meth c ls hx hb hr hts hown hml hlocks hnx hC hA hW hl
  have hl : lv_has ls 7 [(0, .ref (SA 0)), (1, .int x), (2, .int f9), (3, .int t9), (4, .int y)] := hl
  have hK := hC.1
  have hS : va_S A s.heap s.heap [] := va_S.rf
  obtain ⟨T, es2, hW, hF⟩ := hW
  have hO := hW.2.1
  have hR1 := hW.2.2.1
  have hR2 := hW.2.2.2.1
  refine lv_aload_n hx hb dX2_part_0 rfl (lv_at hl 0 rfl) ?_
  refine lv_iload_n hx hb dX2_part_1 rfl (lv_at hl 1 rfl) ?_
  refine xR_V (A := A) (A1 := A) (b := (SA 0)) (As := [.int x]) (rest := []) ⟨hx, hb, hml, hown, hts⟩ (mX2_textOf (A := A) hst ) (cwV 1 hts (gV tw_3_4 tw_3_6 sel_X2_textOf tw_1_1 tw_3_7) rfl rfl rfl (by decide +kernel) ⟨Nat.le_of_ble_eq_true rfl, Nat.le_of_ble_eq_true rfl⟩) hC hS (fun _ h => h) (fun q h => hA q (Nat.le_trans hS.1 h)) (hW.recv hK) hW rfl rfl hl.1 (Nat.le_of_ble_eq_true rfl) ⟨Nat.le_trans (show 0 + 1 ≤ 3 by omega) (Nat.le_of_ble_eq_true rfl), Nat.le_trans (show 0 + 6 ≤ 18 by omega) (Nat.le_of_ble_eq_true rfl)⟩ dX2_part_2 hnx hlocks (by omega) (by omega) (fun E H9 q _ => ⟨⟨q.1, Or.inl q.2.1⟩, _, _, q.2.2, hF⟩) (fun rv7 H7 L7 hP7 hk7 hS => ?_)
  have hZ7 := hS.1
  obtain ⟨⟨i, hi, hxi, hrv⟩, hW⟩ := hP7
  subst hrv
  have hO := hW.2.1
  have hR1 := hW.2.2.1
  have hR2 := hW.2.2.2.1
  have ei := hF i (Or.inl hi)
  refine lv_astore (lv' := [(5, .ref (SA (7 + 2 * i))), (0, .ref (SA 0)), (1, .int x), (2, .int f9), (3, .int t9), (4, .int y)]) hx hb dX2_part_5 hl (by decide) rfl (fun ls hl => ?_)
  refine lv_aload_n hx hb dX2_part_7 rfl (lv_at hl 1 rfl) ?_
  refine lv_iload hx hb dX2_part_8 (lv_at hl 5 rfl) ?_
  refine xR_V (A := A) (A1 := A) (b := (SA 0)) (As := [.int y]) (rest := []) ⟨hx, hb, hml, hown, hts⟩ (mX2_textOf (A := A) hst ) (cwV 1 hts (gV tw_3_4 tw_3_6 sel_X2_textOf tw_1_1 tw_3_7) rfl rfl rfl (by decide +kernel) ⟨Nat.le_of_ble_eq_true rfl, Nat.le_of_ble_eq_true rfl⟩) hC hS (fun _ h => h) (fun q h => hA q (Nat.le_trans hS.1 h)) (hW.recv hK) hW rfl rfl hl.1 (Nat.le_of_ble_eq_true rfl) ⟨Nat.le_trans (show (0 + 1) + 1 ≤ 3 by omega) (Nat.le_of_ble_eq_true rfl), Nat.le_trans (show (0 + 6) + 6 ≤ 18 by omega) (Nat.le_of_ble_eq_true rfl)⟩ dX2_part_10 hnx hlocks (by omega) (by omega) (fun E H9 q _ => ⟨⟨q.1, Or.inr (Or.inl q.2.1)⟩, _, _, q.2.2, hF⟩) (fun rv8 H8 L8 hP8 hk8 hS => ?_)
  have hZ8 := hS.1
  obtain ⟨⟨j, hj, hxj, hrv⟩, hW⟩ := hP8
  subst hrv
  have hO := hW.2.1
  have hR1 := hW.2.2.1
  have hR2 := hW.2.2.2.1
  have ej := hF j (Or.inl hj)
  have i60 := (hW.line (i := i) (by omega)).1
  refine lv_astore (lv' := [(6, .ref (SA (7 + 2 * j))), (5, .ref (SA (7 + 2 * i))), (0, .ref (SA 0)), (1, .int x), (2, .int f9), (3, .int t9), (4, .int y)]) hx hb dX2_part_13 hl (by decide) rfl (fun ls hl => ?_)
  refine lv_iload_n hx hb dX2_part_15 rfl (lv_at hl 4 rfl) ?_
  refine lv_if_lt (tgt := 33) hx hb dX2_part_16 (by decide) (fun c_9 => ?_) (fun c_9 => ?_)
  · exact t_new (nL := 7) (cls := "java/lang/IndexOutOfBoundsException") (ik := 74) (ic := 76) hx hb hst hown hts hC hS hl.1 hml (by decide +kernel) tw_3_8 tw_1_16 tA76 tB76 tG76 hnx hlocks (Nat.le_of_ble_eq_true rfl) (Nat.le_of_ble_eq_true rfl) (Nat.le_trans (show ((0 + 1) + 1) + 1 ≤ 3 by omega) (Nat.le_of_ble_eq_true rfl)) (Nat.le_trans (show ((0 + 6) + 6) + 6 ≤ 18 by omega) (Nat.le_of_ble_eq_true rfl)) (by omega) (by omega) dX2_part_33 dX2_part_36 dX2_part_37 dX2_part_40 (fun H9 hk9 => ⟨⟨rfl, Or.inr (Or.inr (fun ⟨i9, a0, b0, w1, w2, w3, w4, w5, w6⟩ => by rw [w3] at c_9; exact nI_pos (by have w7 : i9 = i := (nI_eq (by omega) (by omega)).mp (w2.symm.trans hxi); rw [w7, ← ei] at w6; omega) c_9))⟩, _, _, hW.nw hk9, hF⟩)
  · obtain ⟨a9, ha31, rfl⟩ := nI_of c_9
    refine lv_iload_n hx hb dX2_part_19 rfl (lv_at hl 5 rfl) ?_
    refine lv_iload_n hx hb dX2_part_20 rfl (lv_at hl 4 rfl) ?_
    refine lv_icmp_lt (tgt := 33) hx hb dX2_part_21 (by decide) (fun c_10 => ?_) (fun c_10 => ?_)
    · exact t_new (nL := 7) (cls := "java/lang/IndexOutOfBoundsException") (ik := 74) (ic := 76) hx hb hst hown hts hC hS hl.1 hml (by decide +kernel) tw_3_8 tw_1_16 tA76 tB76 tG76 hnx hlocks (Nat.le_of_ble_eq_true rfl) (Nat.le_of_ble_eq_true rfl) (Nat.le_trans (show ((0 + 1) + 1) + 1 ≤ 3 by omega) (Nat.le_of_ble_eq_true rfl)) (Nat.le_trans (show ((0 + 6) + 6) + 6 ≤ 18 by omega) (Nat.le_of_ble_eq_true rfl)) (by omega) (by omega) dX2_part_33 dX2_part_36 dX2_part_37 dX2_part_40 (fun H9 hk9 => ⟨⟨rfl, Or.inr (Or.inr (fun ⟨i9, a0, b0, w1, w2, w3, w4, w5, w6⟩ => by rw [w3, w4] at c_10; exact nI_nlt w5 (by have w7 : i9 = i := (nI_eq (by omega) (by omega)).mp (w2.symm.trans hxi); rw [w7, ← ei] at w6; omega) c_10))⟩, _, _, hW.nw hk9, hF⟩)
    · obtain ⟨b9, hb31, rfl⟩ := nI_of (x := t9) (fun q => c_10 (Int32.lt_of_lt_of_le q (nI_pos' (by omega))))
      have hab : a9 ≤ b9 := Nat.le_of_not_lt (fun q => c_10 (nI_lt q (by omega)))
      refine lv_iload_n hx hb dX2_part_24 rfl (lv_at hl 5 rfl) ?_
      refine lv_aload hx hb dX2_part_25 (lv_at hl 1 rfl) ?_
      refine kV_i (A := A) (b := (SA (7 + 2 * i))) (As := []) (rest := .int (nI b9) :: []) ⟨hx, hb, hml, hown, hts⟩ (mX0_size (A := A) (ca := SA (8 + 2 * i))) (cwV 0 hts (gV tw_2_30 tw_2_12 tw_2_13 tw_1_2 tw_2_14) rfl rfl rfl (by decide +kernel) ⟨Nat.le_of_ble_eq_true rfl, Nat.le_of_ble_eq_true rfl⟩) hC hS hA ((hW.line (i := i) (by omega)).recv hK) (hW.line (i := i) (by omega)) rfl rfl hl.1 (Nat.le_of_ble_eq_true rfl) ⟨Nat.le_trans (show ((0 + 1) + 1) ≤ 3 by omega) (Nat.le_of_ble_eq_true rfl), Nat.le_trans (show ((0 + 6) + 6) ≤ 18 by omega) (Nat.le_of_ble_eq_true rfl)⟩ dX2_part_27 (fun r9 h9 => lv_cv h9 ?_)
      refine b_le (tgt := 41) hx hb dX2_part_30 (by decide) (by omega) (by omega) (fun c_11 => ?_) (fun c_11 => ?_)
      · refine lv_aload_n hx hb dX2_part_41 rfl (lv_at hl 2 rfl) ?_
        refine lv_aload hx hb dX2_part_42 (lv_at hl 1 rfl) ?_
        refine lv_iload_n hx hb dX2_part_44 rfl (lv_at hl 4 rfl) ?_
        refine lv_iload_n hx hb dX2_part_45 rfl (lv_at hl 5 rfl) ?_
        refine lv_aload hx hb dX2_part_46 (lv_at hl 0 rfl) ?_
        refine qI_V (A := A) (A1 := A) (b := (SA 0)) (As := [.ref (SA (7 + 2 * i)), .int (nI a9), .int (nI b9), .ref (SA (7 + 2 * j))]) (rest := []) ⟨hx, hb, hml, hown, hts⟩ (mX2_partInto (A := A) (i := i) (q := j) (a9 := a9) (b9 := b9) hAS (by omega) (by omega) (by omega) hab c_11) (cwV 4 hts (gV tw_2_55 tw_2_57 sel_X2_partInto tw_1_1 tw_2_58) rfl rfl rfl (by decide +kernel) ⟨Nat.le_of_ble_eq_true rfl, Nat.le_of_ble_eq_true rfl⟩) hC hS (fun _ h => h) (fun q h => hA q (Nat.le_trans hS.1 h)) (hW.recv hK) hW rfl rfl hl.1 (Nat.le_of_ble_eq_true rfl) ⟨Nat.le_trans (show ((0 + 1) + 1) ≤ 3 by omega) (Nat.le_of_ble_eq_true rfl), Nat.le_trans (show ((0 + 6) + 6) ≤ 18 by omega) (Nat.le_of_ble_eq_true rfl)⟩ dX2_part_48 (fun rv12 H12 L12 hP12 hk12 hS => ?_)
        have hZ12 := hS.1
        rw [ei] at hP12 c_11
        exact vx_ret (q_i hx hb hr hlocks dX2_part_51 hS (by omega) (by omega) ⟨i, j, a9, b9, hi, hxi, hj, hxj, rfl, rfl, hab, c_11, hP12.1, _, _, hP12.2, (FR.up (FR.s13 hF))⟩)
      · exact t_new (nL := 7) (cls := "java/lang/IndexOutOfBoundsException") (ik := 74) (ic := 76) hx hb hst hown hts hC hS hl.1 hml (by decide +kernel) tw_3_8 tw_1_16 tA76 tB76 tG76 hnx hlocks (Nat.le_of_ble_eq_true rfl) (Nat.le_of_ble_eq_true rfl) (Nat.le_trans (show ((0 + 1) + 1) + 1 ≤ 3 by omega) (Nat.le_of_ble_eq_true rfl)) (Nat.le_trans (show ((0 + 6) + 6) + 6 ≤ 18 by omega) (Nat.le_of_ble_eq_true rfl)) (by omega) (by omega) dX2_part_33 dX2_part_36 dX2_part_37 dX2_part_40 (fun H9 hk9 => ⟨⟨rfl, Or.inr (Or.inr (fun ⟨i9, a0, b0, w1, w2, w3, w4, w5, w6⟩ => by have w7 : i9 = i := (nI_eq (by omega) (by omega)).mp (w2.symm.trans hxi); have w8 : b0 = b9 := (nI_eq (by rw [w7, ← ei] at w6; omega) (by omega)).mp w4.symm; rw [w7, w8, ← ei] at w6; omega))⟩, _, _, hW.nw hk9, hF⟩)

abbrev rmX2_tail : Room := { frames := 7, cells := 3, slots := 18, locals := 110 }
theorem mX2_tail {l : Launch} {G : Cx} {A : Nat → Prop} (hst : l.stackTraces = false) {SA : Nat → Nat} {X : Nat → List Nat} {es : List Nat} {k : Int32} {x f9 y : Int32} (hAS : ∀ i : Nat, i < 39 → A (SA i)) : vx_Met l yX2_tail (.code yX2_tail cX2_tail 6 (some .int) :: GW) rmX2_tail (PC G A [.ref (SA 0), .int x, .int f9, .int y] (SS G SA X es k)) (qI A (fun r H => ∃ i j a9 : Nat, i < 4 ∧ x = nI i ∧ j < 4 ∧ y = nI j ∧ f9 = nI a9 ∧ a9 ≤ (X i).length ∧ r = nI (cutL (X i) a9 (X i).length).length ∧ SS G SA (updT X j (cutL (X i) a9 (X i).length)) es k H)) (xE A (fun E H => (E = "java/lang/IndexOutOfBoundsException" ∧ (NT x ∨ NT y ∨ ¬ ∃ i a9 : Nat, i < 4 ∧ x = nI i ∧ f9 = nI a9 ∧ a9 ≤ (X i).length)) ∧ SS G SA X es k H)) 3 18 A := by
  refine mstartX "Signtext" (by decide +kernel) rfl (Nat.le_of_ble_eq_true rfl) ?_
  intro p e s m below meth c ls hx hb hr hts hown hml hlocks hnx hC hA hW hl
  have hl : lv_has ls 6 [(0, .ref (SA 0)), (1, .int x), (2, .int f9), (3, .int y)] := hl
  have hK := hC.1
  have hS : va_S A s.heap s.heap [] := va_S.rf
  obtain ⟨T, es2, hW, hF⟩ := hW
  have hO := hW.2.1
  have hR1 := hW.2.2.1
  have hR2 := hW.2.2.2.1
  refine lv_aload_n hx hb dX2_tail_0 rfl (lv_at hl 0 rfl) ?_
  refine lv_iload_n hx hb dX2_tail_1 rfl (lv_at hl 1 rfl) ?_
  refine xR_V (A := A) (A1 := A) (b := (SA 0)) (As := [.int x]) (rest := []) ⟨hx, hb, hml, hown, hts⟩ (mX2_textOf (A := A) hst ) (cwV 1 hts (gV tw_3_4 tw_3_6 sel_X2_textOf tw_1_1 tw_3_7) rfl rfl rfl (by decide +kernel) ⟨Nat.le_of_ble_eq_true rfl, Nat.le_of_ble_eq_true rfl⟩) hC hS (fun _ h => h) (fun q h => hA q (Nat.le_trans hS.1 h)) (hW.recv hK) hW rfl rfl hl.1 (Nat.le_of_ble_eq_true rfl) ⟨Nat.le_trans (show 0 + 1 ≤ 3 by omega) (Nat.le_of_ble_eq_true rfl), Nat.le_trans (show 0 + 6 ≤ 18 by omega) (Nat.le_of_ble_eq_true rfl)⟩ dX2_tail_2 hnx hlocks (by omega) (by omega) (fun E H9 q _ => ⟨⟨q.1, Or.inl q.2.1⟩, _, _, q.2.2, hF⟩) (fun rv13 H13 L13 hP13 hk13 hS => ?_)
  have hZ13 := hS.1
  obtain ⟨⟨i, hi, hxi, hrv⟩, hW⟩ := hP13
  subst hrv
  have hO := hW.2.1
  have hR1 := hW.2.2.1
  have hR2 := hW.2.2.2.1
  have ei := hF i (Or.inl hi)
  refine lv_astore (lv' := [(4, .ref (SA (7 + 2 * i))), (0, .ref (SA 0)), (1, .int x), (2, .int f9), (3, .int y)]) hx hb dX2_tail_5 hl (by decide) rfl (fun ls hl => ?_)
  refine lv_aload_n hx hb dX2_tail_7 rfl (lv_at hl 1 rfl) ?_
  refine lv_iload_n hx hb dX2_tail_8 rfl (lv_at hl 4 rfl) ?_
  refine xR_V (A := A) (A1 := A) (b := (SA 0)) (As := [.int y]) (rest := []) ⟨hx, hb, hml, hown, hts⟩ (mX2_textOf (A := A) hst ) (cwV 1 hts (gV tw_3_4 tw_3_6 sel_X2_textOf tw_1_1 tw_3_7) rfl rfl rfl (by decide +kernel) ⟨Nat.le_of_ble_eq_true rfl, Nat.le_of_ble_eq_true rfl⟩) hC hS (fun _ h => h) (fun q h => hA q (Nat.le_trans hS.1 h)) (hW.recv hK) hW rfl rfl hl.1 (Nat.le_of_ble_eq_true rfl) ⟨Nat.le_trans (show (0 + 1) + 1 ≤ 3 by omega) (Nat.le_of_ble_eq_true rfl), Nat.le_trans (show (0 + 6) + 6 ≤ 18 by omega) (Nat.le_of_ble_eq_true rfl)⟩ dX2_tail_9 hnx hlocks (by omega) (by omega) (fun E H9 q _ => ⟨⟨q.1, Or.inr (Or.inl q.2.1)⟩, _, _, q.2.2, hF⟩) (fun rv14 H14 L14 hP14 hk14 hS => ?_)
  have hZ14 := hS.1
  obtain ⟨⟨j, hj, hxj, hrv⟩, hW⟩ := hP14
  subst hrv
  have hO := hW.2.1
  have hR1 := hW.2.2.1
  have hR2 := hW.2.2.2.1
  have ej := hF j (Or.inl hj)
  refine lv_astore (lv' := [(5, .ref (SA (7 + 2 * j))), (4, .ref (SA (7 + 2 * i))), (0, .ref (SA 0)), (1, .int x), (2, .int f9), (3, .int y)]) hx hb dX2_tail_12 hl (by decide) rfl (fun ls hl => ?_)
  refine lv_aload hx hb dX2_tail_14 (lv_at hl 1 rfl) ?_
  refine lv_iload_n hx hb dX2_tail_16 rfl (lv_at hl 4 rfl) ?_
  refine xV_S (A := A) (A1 := A)  (As := [.ref (SA (7 + 2 * i)), .int f9]) (rest := []) ⟨hx, hb, hml, hown, hts⟩ (mX2_needPlaceOrEnd (A := A) hst (q := i) (by omega)) (va_cwS 2 hts (gS tw_3_87 tw_3_88 tw_1_1 tw_3_89) rfl rfl rfl (by decide +kernel) ⟨Nat.le_of_ble_eq_true rfl, Nat.le_of_ble_eq_true rfl⟩) hC hS (fun _ h => h) (fun q h => hA q (Nat.le_trans hS.1 h))  hW rfl rfl hl.1 (Nat.le_of_ble_eq_true rfl) ⟨Nat.le_trans (show ((0 + 1) + 1) + 1 ≤ 3 by omega) (Nat.le_of_ble_eq_true rfl), Nat.le_trans (show ((0 + 6) + 6) + 6 ≤ 18 by omega) (Nat.le_of_ble_eq_true rfl)⟩ dX2_tail_17 hnx hlocks (by omega) (by omega) (fun E H9 q _ => ⟨⟨q.1, Or.inr (Or.inr (fun ⟨i9, a0, w1, w2, w3, w4⟩ => q.2.1 ⟨a0, by have w7 : i9 = i := (nI_eq (by omega) (by omega)).mp (w2.symm.trans hxi); rw [w7, ← ei] at w4; exact w4, w3⟩))⟩, _, _, q.2.2, hF⟩) (fun H15 L15 hP15 hk15 hS => ?_)
  have hZ15 := hS.1
  obtain ⟨⟨a9, ha9, rfl⟩, hW⟩ := hP15
  refine lv_aload_n hx hb dX2_tail_20 rfl (lv_at hl 2 rfl) ?_
  refine lv_aload hx hb dX2_tail_21 (lv_at hl 1 rfl) ?_
  refine lv_iload_n hx hb dX2_tail_23 rfl (lv_at hl 4 rfl) ?_
  refine lv_aload hx hb dX2_tail_24 (lv_at hl 1 rfl) ?_
  refine kV_i (A := A) (b := (SA (7 + 2 * i))) (As := []) (rest := .int (nI a9) :: .ref (SA (7 + 2 * i)) :: .ref (SA 0) :: []) ⟨hx, hb, hml, hown, hts⟩ (mX0_size (A := A) (ca := SA (8 + 2 * i))) (cwV 0 hts (gV tw_2_30 tw_2_12 tw_2_13 tw_1_2 tw_2_14) rfl rfl rfl (by decide +kernel) ⟨Nat.le_of_ble_eq_true rfl, Nat.le_of_ble_eq_true rfl⟩) hC hS hA ((hW.line (i := i) (by omega)).recv hK) (hW.line (i := i) (by omega)) rfl rfl hl.1 (Nat.le_of_ble_eq_true rfl) ⟨Nat.le_trans (show (((0 + 1) + 1) + 1) ≤ 3 by omega) (Nat.le_of_ble_eq_true rfl), Nat.le_trans (show (((0 + 6) + 6) + 6) ≤ 18 by omega) (Nat.le_of_ble_eq_true rfl)⟩ dX2_tail_26 (fun r9 h9 => lv_cv h9 ?_)
  refine lv_aload hx hb dX2_tail_29 (lv_at hl 0 rfl) ?_
  refine qI_V (A := A) (A1 := A) (b := (SA 0)) (As := [.ref (SA (7 + 2 * i)), .int (nI a9), .int (nI ((T i).length)), .ref (SA (7 + 2 * j))]) (rest := []) ⟨hx, hb, hml, hown, hts⟩ (mX2_partInto (A := A) (i := i) (q := j) (a9 := a9) (b9 := (T i).length) hAS (by omega) (by omega) (by omega) ha9 (Nat.le_refl _)) (cwV 4 hts (gV tw_2_55 tw_2_57 sel_X2_partInto tw_1_1 tw_2_58) rfl rfl rfl (by decide +kernel) ⟨Nat.le_of_ble_eq_true rfl, Nat.le_of_ble_eq_true rfl⟩) hC hS (fun _ h => h) (fun q h => hA q (Nat.le_trans hS.1 h)) (hW.recv hK) hW rfl rfl hl.1 (Nat.le_of_ble_eq_true rfl) ⟨Nat.le_trans (show (((0 + 1) + 1) + 1) ≤ 3 by omega) (Nat.le_of_ble_eq_true rfl), Nat.le_trans (show (((0 + 6) + 6) + 6) ≤ 18 by omega) (Nat.le_of_ble_eq_true rfl)⟩ dX2_tail_31 (fun rv16 H16 L16 hP16 hk16 hS => ?_)
  have hZ16 := hS.1
  rw [ei] at hP16 ha9
  exact vx_ret (q_i hx hb hr hlocks dX2_tail_34 hS (by omega) (by omega) ⟨i, j, a9, hi, hxi, hj, hxj, rfl, ha9, hP16.1, _, _, hP16.2, (FR.up (FR.s13 hF))⟩)

abbrev rmX2_join : Room := { frames := 8, cells := 4, slots := 24, locals := 132 }
theorem mX2_join {l : Launch} {G : Cx} {A : Nat → Prop} (hst : l.stackTraces = false) {SA : Nat → Nat} {X : Nat → List Nat} {es : List Nat} {k : Int32} {x y z : Int32} (hAS : ∀ i : Nat, i < 39 → A (SA i)) : vx_Met l yX2_join (.code yX2_join cX2_join 4 (some .int) :: GW) rmX2_join (PC G A [.ref (SA 0), .int x, .int y, .int z] (SS G SA X es k)) (qI A (fun r H => ∃ i j q : Nat, i < 4 ∧ x = nI i ∧ j < 4 ∧ y = nI j ∧ q < 4 ∧ z = nI q ∧ (X i ++ X j).length ≤ 60 ∧ r = nI (X i ++ X j).length ∧ SS G SA (updT X q (X i ++ X j)) es k H)) (xE A (fun E H => ((E = "java/lang/IndexOutOfBoundsException" ∧ (NT x ∨ NT y ∨ NT z)) ∨ (E = "java/lang/IllegalStateException" ∧ ∃ i j q : Nat, i < 4 ∧ x = nI i ∧ j < 4 ∧ y = nI j ∧ q < 4 ∧ z = nI q ∧ 60 < (X i ++ X j).length)) ∧ SS G SA X es k H)) 4 24 A := by
  refine mstartX "Signtext" (by decide +kernel) rfl (Nat.le_of_ble_eq_true rfl) ?_
  intro p e s m below meth c ls hx hb hr hts hown hml hlocks hnx hC hA hW hl
  have hl : lv_has ls 4 [(0, .ref (SA 0)), (1, .int x), (2, .int y), (3, .int z)] := hl
  have hK := hC.1
  have hS : va_S A s.heap s.heap [] := va_S.rf
  obtain ⟨T, es2, hW, hF⟩ := hW
  have hO := hW.2.1
  have hR1 := hW.2.2.1
  have hR2 := hW.2.2.2.1
  refine lv_aload_n hx hb dX2_join_0 rfl (lv_at hl 0 rfl) ?_
  refine lv_aload_n hx hb dX2_join_1 rfl (lv_at hl 0 rfl) ?_
  refine lv_iload_n hx hb dX2_join_2 rfl (lv_at hl 1 rfl) ?_
  refine xR_V (A := A) (A1 := A) (b := (SA 0)) (As := [.int x]) (rest := .ref (SA 0) :: []) ⟨hx, hb, hml, hown, hts⟩ (mX2_textOf (A := A) hst ) (cwV 1 hts (gV tw_3_4 tw_3_6 sel_X2_textOf tw_1_1 tw_3_7) rfl rfl rfl (by decide +kernel) ⟨Nat.le_of_ble_eq_true rfl, Nat.le_of_ble_eq_true rfl⟩) hC hS (fun _ h => h) (fun q h => hA q (Nat.le_trans hS.1 h)) (hW.recv hK) hW rfl rfl hl.1 (Nat.le_of_ble_eq_true rfl) ⟨Nat.le_trans (show 0 + 1 ≤ 4 by omega) (Nat.le_of_ble_eq_true rfl), Nat.le_trans (show 0 + 6 ≤ 24 by omega) (Nat.le_of_ble_eq_true rfl)⟩ dX2_join_3 hnx hlocks (by omega) (by omega) (fun E H9 q _ => ⟨Or.inl ⟨q.1, Or.inl q.2.1⟩, _, _, q.2.2, hF⟩) (fun rv17 H17 L17 hP17 hk17 hS => ?_)
  have hZ17 := hS.1
  obtain ⟨⟨i, hi, hxi, hrv⟩, hW⟩ := hP17
  subst hrv
  have hO := hW.2.1
  have hR1 := hW.2.2.1
  have hR2 := hW.2.2.2.1
  have ei := hF i (Or.inl hi)
  refine lv_aload_n hx hb dX2_join_6 rfl (lv_at hl 0 rfl) ?_
  refine lv_iload_n hx hb dX2_join_7 rfl (lv_at hl 2 rfl) ?_
  refine xR_V (A := A) (A1 := A) (b := (SA 0)) (As := [.int y]) (rest := .ref (SA (7 + 2 * i)) :: .ref (SA 0) :: []) ⟨hx, hb, hml, hown, hts⟩ (mX2_textOf (A := A) hst ) (cwV 1 hts (gV tw_3_4 tw_3_6 sel_X2_textOf tw_1_1 tw_3_7) rfl rfl rfl (by decide +kernel) ⟨Nat.le_of_ble_eq_true rfl, Nat.le_of_ble_eq_true rfl⟩) hC hS (fun _ h => h) (fun q h => hA q (Nat.le_trans hS.1 h)) (hW.recv hK) hW rfl rfl hl.1 (Nat.le_of_ble_eq_true rfl) ⟨Nat.le_trans (show (0 + 1) + 1 ≤ 4 by omega) (Nat.le_of_ble_eq_true rfl), Nat.le_trans (show (0 + 6) + 6 ≤ 24 by omega) (Nat.le_of_ble_eq_true rfl)⟩ dX2_join_8 hnx hlocks (by omega) (by omega) (fun E H9 q _ => ⟨Or.inl ⟨q.1, Or.inr (Or.inl q.2.1)⟩, _, _, q.2.2, hF⟩) (fun rv18 H18 L18 hP18 hk18 hS => ?_)
  have hZ18 := hS.1
  obtain ⟨⟨j, hj, hxj, hrv⟩, hW⟩ := hP18
  subst hrv
  have hO := hW.2.1
  have hR1 := hW.2.2.1
  have hR2 := hW.2.2.2.1
  have ej := hF j (Or.inl hj)
  refine lv_aload_n hx hb dX2_join_11 rfl (lv_at hl 0 rfl) ?_
  refine lv_iload_n hx hb dX2_join_12 rfl (lv_at hl 3 rfl) ?_
  refine xR_V (A := A) (A1 := A) (b := (SA 0)) (As := [.int z]) (rest := .ref (SA (7 + 2 * j)) :: .ref (SA (7 + 2 * i)) :: .ref (SA 0) :: []) ⟨hx, hb, hml, hown, hts⟩ (mX2_textOf (A := A) hst ) (cwV 1 hts (gV tw_3_4 tw_3_6 sel_X2_textOf tw_1_1 tw_3_7) rfl rfl rfl (by decide +kernel) ⟨Nat.le_of_ble_eq_true rfl, Nat.le_of_ble_eq_true rfl⟩) hC hS (fun _ h => h) (fun q h => hA q (Nat.le_trans hS.1 h)) (hW.recv hK) hW rfl rfl hl.1 (Nat.le_of_ble_eq_true rfl) ⟨Nat.le_trans (show ((0 + 1) + 1) + 1 ≤ 4 by omega) (Nat.le_of_ble_eq_true rfl), Nat.le_trans (show ((0 + 6) + 6) + 6 ≤ 24 by omega) (Nat.le_of_ble_eq_true rfl)⟩ dX2_join_13 hnx hlocks (by omega) (by omega) (fun E H9 q _ => ⟨Or.inl ⟨q.1, Or.inr (Or.inr q.2.1)⟩, _, _, q.2.2, hF⟩) (fun rv19 H19 L19 hP19 hk19 hS => ?_)
  have hZ19 := hS.1
  obtain ⟨⟨q, hq, hxq, hrv⟩, hW⟩ := hP19
  subst hrv
  have hO := hW.2.1
  have hR1 := hW.2.2.1
  have hR2 := hW.2.2.2.1
  have eq := hF q (Or.inl hq)
  refine xI_V (A := A) (A1 := A) (b := (SA 0)) (As := [.ref (SA (7 + 2 * i)), .ref (SA (7 + 2 * j)), .ref (SA (7 + 2 * q))]) (rest := []) ⟨hx, hb, hml, hown, hts⟩ (mX2_joinInto (A := A) hst (i := i) (j := j) (q := q) hAS (by omega) (by omega) (by omega) (by omega) (by omega)) (cwV 3 hts (gV tw_3_32 tw_3_34 sel_X2_joinInto tw_1_1 tw_3_35) rfl rfl rfl (by decide +kernel) ⟨Nat.le_of_ble_eq_true rfl, Nat.le_of_ble_eq_true rfl⟩) hC hS (fun _ h => h) (fun q h => hA q (Nat.le_trans hS.1 h)) (hW.recv hK) hW rfl rfl hl.1 (Nat.le_of_ble_eq_true rfl) ⟨Nat.le_trans (show (((0 + 1) + 1) + 1) + 1 ≤ 4 by omega) (Nat.le_of_ble_eq_true rfl), Nat.le_trans (show (((0 + 6) + 6) + 6) + 6 ≤ 24 by omega) (Nat.le_of_ble_eq_true rfl)⟩ dX2_join_16 hnx hlocks (by omega) (by omega) (fun E H9 w _ => ⟨Or.inr ⟨w.1, i, j, q, hi, hxi, hj, hxj, hq, hxq, by rw [← ei, ← ej]; exact w.2.1⟩, _, _, w.2.2, hF⟩) (fun rv20 H20 L20 hP20 hk20 hS => ?_)
  have hZ20 := hS.1
  rw [ei, ej] at hP20
  exact vx_ret (q_i hx hb hr hlocks dX2_join_19 hS (by omega) (by omega) ⟨i, j, q, hi, hxi, hj, hxj, hq, hxq, hP20.2.1, hP20.1, _, _, hP20.2.2, (FR.up (FR.s13 hF))⟩)

abbrev rmX2_trim : Room := { frames := 7, cells := 2, slots := 12, locals := 110 }
theorem mX2_trim {l : Launch} {G : Cx} {A : Nat → Prop} (hst : l.stackTraces = false) {SA : Nat → Nat} {X : Nat → List Nat} {es : List Nat} {k : Int32} {x y : Int32} {b : Bool} (hAS : ∀ i : Nat, i < 39 → A (SA i)) : vx_Met l yX2_trim (.code yX2_trim cX2_trim 5 (some .int) :: GW) rmX2_trim (PC G A [.ref (SA 0), .int x, .int (bI b), .int y] (SS G SA X es k)) (qI A (fun r H => ∃ i j e9 : Nat, i < 4 ∧ x = nI i ∧ j < 4 ∧ y = nI j ∧ isTe b (X i) e9 ∧ r = nI (cutL (X i) (tbL b (X i)) e9).length ∧ SS G SA (updT X j (cutL (X i) (tbL b (X i)) e9)) es k H)) (xE A (fun E H => (E = "java/lang/IndexOutOfBoundsException" ∧ (NT x ∨ NT y)) ∧ SS G SA X es k H)) 2 12 A := by
  refine mstartX "Signtext" (by decide +kernel) rfl (Nat.le_of_ble_eq_true rfl) ?_
  intro p e s m below meth c ls hx hb hr hts hown hml hlocks hnx hC hA hW hl
  have hl : lv_has ls 5 [(0, .ref (SA 0)), (1, .int x), (2, .int (bI b)), (3, .int y)] := hl
  have hK := hC.1
  have hS : va_S A s.heap s.heap [] := va_S.rf
  obtain ⟨T, es2, hW, hF⟩ := hW
  have hO := hW.2.1
  have hR1 := hW.2.2.1
  have hR2 := hW.2.2.2.1
  refine lv_aload_n hx hb dX2_trim_0 rfl (lv_at hl 0 rfl) ?_
  refine lv_iload_n hx hb dX2_trim_1 rfl (lv_at hl 1 rfl) ?_
  refine xR_V (A := A) (A1 := A) (b := (SA 0)) (As := [.int x]) (rest := []) ⟨hx, hb, hml, hown, hts⟩ (mX2_textOf (A := A) hst ) (cwV 1 hts (gV tw_3_4 tw_3_6 sel_X2_textOf tw_1_1 tw_3_7) rfl rfl rfl (by decide +kernel) ⟨Nat.le_of_ble_eq_true rfl, Nat.le_of_ble_eq_true rfl⟩) hC hS (fun _ h => h) (fun q h => hA q (Nat.le_trans hS.1 h)) (hW.recv hK) hW rfl rfl hl.1 (Nat.le_of_ble_eq_true rfl) ⟨Nat.le_trans (show 0 + 1 ≤ 2 by omega) (Nat.le_of_ble_eq_true rfl), Nat.le_trans (show 0 + 6 ≤ 12 by omega) (Nat.le_of_ble_eq_true rfl)⟩ dX2_trim_2 hnx hlocks (by omega) (by omega) (fun E H9 q _ => ⟨⟨q.1, Or.inl q.2.1⟩, _, _, q.2.2, hF⟩) (fun rv21 H21 L21 hP21 hk21 hS => ?_)
  have hZ21 := hS.1
  obtain ⟨⟨i, hi, hxi, hrv⟩, hW⟩ := hP21
  subst hrv
  have hO := hW.2.1
  have hR1 := hW.2.2.1
  have hR2 := hW.2.2.2.1
  have ei := hF i (Or.inl hi)
  refine lv_astore (lv' := [(4, .ref (SA (7 + 2 * i))), (0, .ref (SA 0)), (1, .int x), (2, .int (bI b)), (3, .int y)]) hx hb dX2_trim_5 hl (by decide) rfl (fun ls hl => ?_)
  refine lv_aload_n hx hb dX2_trim_7 rfl (lv_at hl 1 rfl) ?_
  refine lv_aload hx hb dX2_trim_8 (lv_at hl 0 rfl) ?_
  refine lv_aload hx hb dX2_trim_10 (lv_at hl 0 rfl) ?_
  refine lv_iload_n hx hb dX2_trim_12 rfl (lv_at hl 3 rfl) ?_
  have i60 := (hW.line (i := i) (by omega)).1
  have tb9 := tbL_le b (T i)
  refine kV_i (A := A) (b := (SA (7 + 2 * i))) (As := [.int (bI b)]) (rest := .ref (SA (7 + 2 * i)) :: .ref (SA 0) :: []) ⟨hx, hb, hml, hown, hts⟩ (mX0_trimmedBegin (A := A) (ca := SA (8 + 2 * i)) (b := b)) (cwV 1 hts (gV tw_2_43 tw_2_44 tw_2_45 tw_1_2 tw_2_46) rfl rfl rfl (by decide +kernel) ⟨Nat.le_of_ble_eq_true rfl, Nat.le_of_ble_eq_true rfl⟩) hC hS hA ((hW.line (i := i) (by omega)).recv hK) (hW.line (i := i) (by omega)) rfl rfl hl.1 (Nat.le_of_ble_eq_true rfl) ⟨Nat.le_trans (show (0 + 1) ≤ 2 by omega) (Nat.le_of_ble_eq_true rfl), Nat.le_trans (show (0 + 6) ≤ 12 by omega) (Nat.le_of_ble_eq_true rfl)⟩ dX2_trim_13 (fun r9 h9 => lv_cv h9 ?_)
  refine lv_aload hx hb dX2_trim_16 (lv_at hl 0 rfl) ?_
  refine lv_iload_n hx hb dX2_trim_18 rfl (lv_at hl 3 rfl) ?_
  refine kV_i (A := A) (b := (SA (7 + 2 * i))) (As := [.int (bI b)]) (rest := .int (nI (tbL b (T i))) :: .ref (SA (7 + 2 * i)) :: .ref (SA 0) :: []) ⟨hx, hb, hml, hown, hts⟩ (mX0_trimmedEnd (A := A) (ca := SA (8 + 2 * i)) (b := b)) (cwV 1 hts (gV tw_2_50 tw_2_51 tw_2_52 tw_1_2 tw_2_53) rfl rfl rfl (by decide +kernel) ⟨Nat.le_of_ble_eq_true rfl, Nat.le_of_ble_eq_true rfl⟩) hC hS hA ((hW.line (i := i) (by omega)).recv hK) (hW.line (i := i) (by omega)) rfl rfl hl.1 (Nat.le_of_ble_eq_true rfl) ⟨Nat.le_trans (show (0 + 1) ≤ 2 by omega) (Nat.le_of_ble_eq_true rfl), Nat.le_trans (show (0 + 6) ≤ 12 by omega) (Nat.le_of_ble_eq_true rfl)⟩ dX2_trim_19 (fun r_22 hr_22 => ?_)
  obtain ⟨e9, he9, rfl⟩ := hr_22
  refine lv_aload_n hx hb dX2_trim_22 rfl (lv_at hl 1 rfl) ?_
  refine lv_iload_n hx hb dX2_trim_23 rfl (lv_at hl 4 rfl) ?_
  refine xR_V (A := A) (A1 := A) (b := (SA 0)) (As := [.int y]) (rest := .int (nI e9) :: .int (nI (tbL b (T i))) :: .ref (SA (7 + 2 * i)) :: .ref (SA 0) :: []) ⟨hx, hb, hml, hown, hts⟩ (mX2_textOf (A := A) hst ) (cwV 1 hts (gV tw_3_4 tw_3_6 sel_X2_textOf tw_1_1 tw_3_7) rfl rfl rfl (by decide +kernel) ⟨Nat.le_of_ble_eq_true rfl, Nat.le_of_ble_eq_true rfl⟩) hC hS (fun _ h => h) (fun q h => hA q (Nat.le_trans hS.1 h)) (hW.recv hK) hW rfl rfl hl.1 (Nat.le_of_ble_eq_true rfl) ⟨Nat.le_trans (show (0 + 1) + 1 ≤ 2 by omega) (Nat.le_of_ble_eq_true rfl), Nat.le_trans (show (0 + 6) + 6 ≤ 12 by omega) (Nat.le_of_ble_eq_true rfl)⟩ dX2_trim_24 hnx hlocks (by omega) (by omega) (fun E H9 q _ => ⟨⟨q.1, Or.inr q.2.1⟩, _, _, q.2.2, hF⟩) (fun rv23 H23 L23 hP23 hk23 hS => ?_)
  have hZ23 := hS.1
  obtain ⟨⟨j, hj, hxj, hrv⟩, hW⟩ := hP23
  subst hrv
  have hO := hW.2.1
  have hR1 := hW.2.2.1
  have hR2 := hW.2.2.2.1
  have ej := hF j (Or.inl hj)
  refine qI_V (A := A) (A1 := A) (b := (SA 0)) (As := [.ref (SA (7 + 2 * i)), .int (nI (tbL b (T i))), .int (nI e9), .ref (SA (7 + 2 * j))]) (rest := []) ⟨hx, hb, hml, hown, hts⟩ (mX2_partInto (A := A) (i := i) (q := j) (a9 := tbL b (T i)) (b9 := e9) hAS (by omega) (by omega) (by omega) he9.1 he9.2.1) (cwV 4 hts (gV tw_2_55 tw_2_57 sel_X2_partInto tw_1_1 tw_2_58) rfl rfl rfl (by decide +kernel) ⟨Nat.le_of_ble_eq_true rfl, Nat.le_of_ble_eq_true rfl⟩) hC hS (fun _ h => h) (fun q h => hA q (Nat.le_trans hS.1 h)) (hW.recv hK) hW rfl rfl hl.1 (Nat.le_of_ble_eq_true rfl) ⟨Nat.le_trans (show ((0 + 1) + 1) ≤ 2 by omega) (Nat.le_of_ble_eq_true rfl), Nat.le_trans (show ((0 + 6) + 6) ≤ 12 by omega) (Nat.le_of_ble_eq_true rfl)⟩ dX2_trim_27 (fun rv24 H24 L24 hP24 hk24 hS => ?_)
  have hZ24 := hS.1
  rw [ei] at hP24 he9
  exact vx_ret (q_i hx hb hr hlocks dX2_trim_30 hS (by omega) (by omega) ⟨i, j, e9, hi, hxi, hj, hxj, he9, hP24.1, _, _, hP24.2, (FR.up (FR.s13 hF))⟩)

abbrev rmX2_lay : Room := { frames := 7, cells := 1, slots := 6, locals := 110 }
theorem mX2_lay {l : Launch} {G : Cx} {A : Nat → Prop} (hst : l.stackTraces = false) {SA : Nat → Nat} {X : Nat → List Nat} {es : List Nat} {k : Int32} {x : Int32} (hAS : ∀ i : Nat, i < 39 → A (SA i)) : vx_Met l yX2_lay (.code yX2_lay cX2_lay 2 (some .int) :: GW) rmX2_lay (PC G A [.ref (SA 0), .int x] (SS G SA X es k)) (qI A (fun r H => ∃ i : Nat, i < 4 ∧ x = nI i ∧ r = nI (X i).length ∧ SS G SA (updT X 11 (X i)) es k H)) (xE A (fun E H => (E = "java/lang/IndexOutOfBoundsException" ∧ NT x) ∧ SS G SA X es k H)) 1 6 A := by
  refine mstartX "Signtext" (by decide +kernel) rfl (Nat.le_of_ble_eq_true rfl) ?_
  intro p e s m below meth c ls hx hb hr hts hown hml hlocks hnx hC hA hW hl
  have hl : lv_has ls 2 [(0, .ref (SA 0)), (1, .int x)] := hl
  have hK := hC.1
  have hS : va_S A s.heap s.heap [] := va_S.rf
  obtain ⟨T, es2, hW, hF⟩ := hW
  have hO := hW.2.1
  have hR1 := hW.2.2.1
  have hR2 := hW.2.2.2.1
  refine lv_aload_n hx hb dX2_lay_0 rfl (lv_at hl 0 rfl) ?_
  refine va_get (D := G.1) (ci := 6) (C := RX2) (T := TX2) (N := 8) hx hb hts inX2 hown hK (at_P hO) 0 rfl rfl 2 (by decide) (hts _ tw_1_139) (fun _ h9 => h9) rfl dX2_lay_1 ?_
  refine lv_aload_n hx hb dX2_lay_4 rfl (lv_at hl 0 rfl) ?_
  refine lv_iload_n hx hb dX2_lay_5 rfl (lv_at hl 1 rfl) ?_
  refine xR_V (A := A) (A1 := A) (b := (SA 0)) (As := [.int x]) (rest := .ref (SA 29) :: []) ⟨hx, hb, hml, hown, hts⟩ (mX2_textOf (A := A) hst ) (cwV 1 hts (gV tw_3_4 tw_3_6 sel_X2_textOf tw_1_1 tw_3_7) rfl rfl rfl (by decide +kernel) ⟨Nat.le_of_ble_eq_true rfl, Nat.le_of_ble_eq_true rfl⟩) hC hS (fun _ h => h) (fun q h => hA q (Nat.le_trans hS.1 h)) (hW.recv hK) hW rfl rfl hl.1 (Nat.le_of_ble_eq_true rfl) ⟨Nat.le_trans (show 0 + 1 ≤ 1 by omega) (Nat.le_of_ble_eq_true rfl), Nat.le_trans (show 0 + 6 ≤ 6 by omega) (Nat.le_of_ble_eq_true rfl)⟩ dX2_lay_6 hnx hlocks (by omega) (by omega) (fun E H9 q _ => ⟨⟨q.1, q.2.1⟩, _, _, q.2.2, hF⟩) (fun rv25 H25 L25 hP25 hk25 hS => ?_)
  have hZ25 := hS.1
  obtain ⟨⟨i, hi, hxi, hrv⟩, hW⟩ := hP25
  subst hrv
  have hO := hW.2.1
  have hR1 := hW.2.2.1
  have hR2 := hW.2.2.2.1
  have ei := hF i (Or.inl hi)
  refine qV_V (A := A) (A1 := ow (SA (7 + 2 * 11)) (SA (8 + 2 * 11)) H25.size) (b := (SA 29)) (As := [.ref (SA (7 + 2 * i))]) (rest := []) ⟨hx, hb, hml, hown, hts⟩ (mX0_become (A := ow (SA (7 + 2 * 11)) (SA (8 + 2 * 11)) H25.size) (ca := SA (8 + 2 * 11)) (cb := SA (8 + 2 * i)) (t := T 11) (u := T i) (Or.inl rfl) (Or.inr (Or.inl rfl)) ⟨hW.ne (i := 7 + 2 * i) (j := 7 + 2 * 11) (by omega) (by omega) (by omega), hW.ne (i := 7 + 2 * i) (j := 8 + 2 * 11) (by omega) (by omega) (by omega), hW.ne (i := 8 + 2 * i) (j := 7 + 2 * 11) (by omega) (by omega) (by omega), hW.ne (i := 8 + 2 * i) (j := 8 + 2 * 11) (by omega) (by omega) (by omega)⟩) (cwV 1 hts (gV tw_2_3 tw_2_4 tw_2_5 tw_1_2 tw_2_6) rfl rfl rfl (by decide +kernel) ⟨Nat.le_of_ble_eq_true rfl, Nat.le_of_ble_eq_true rfl⟩) hC hS (ow_in (hAS _ (by omega)) (hAS _ (by omega)) hA hS.1) ow_n ((hW.line (i := 11) (by omega)).recv hK) ⟨hW.line (i := 11) (by omega), hW.line (i := i) (by omega)⟩ rfl rfl hl.1 (Nat.le_of_ble_eq_true rfl) ⟨Nat.le_trans (show (0 + 1) ≤ 1 by omega) (Nat.le_of_ble_eq_true rfl), Nat.le_trans (show (0 + 6) ≤ 6 by omega) (Nat.le_of_ble_eq_true rfl)⟩ dX2_lay_9 (fun H26 L26 hP26 hk26 hS => ?_)
  have hZ26 := hS.1
  have hW := hW.put (q := 11) (t := T i) (by omega) hk26 hP26.1
  have hO := hW.2.1
  have hR1 := hW.2.2.1
  have hR2 := hW.2.2.2.1
  refine lv_aload_n hx hb dX2_lay_12 rfl (lv_at hl 0 rfl) ?_
  refine va_get (D := G.1) (ci := 6) (C := RX2) (T := TX2) (N := 8) hx hb hts inX2 hown hK (at_P hO) 0 rfl rfl 2 (by decide) (hts _ tw_1_139) (fun _ h9 => h9) rfl dX2_lay_13 ?_
  have hLq := hW.line (i := 11) (by omega)
  rw [updT_s] at hLq
  refine kV_i (A := A) (b := (SA 29)) (As := []) (rest := []) ⟨hx, hb, hml, hown, hts⟩ (mX0_size (A := A) (ca := SA (8 + 2 * 11))) (cwV 0 hts (gV tw_2_30 tw_2_12 tw_2_13 tw_1_2 tw_2_14) rfl rfl rfl (by decide +kernel) ⟨Nat.le_of_ble_eq_true rfl, Nat.le_of_ble_eq_true rfl⟩) hC hS hA (hLq.recv hK) hLq rfl rfl hl.1 (Nat.le_of_ble_eq_true rfl) ⟨Nat.le_trans (show (0 + 1) ≤ 1 by omega) (Nat.le_of_ble_eq_true rfl), Nat.le_trans (show (0 + 6) ≤ 6 by omega) (Nat.le_of_ble_eq_true rfl)⟩ dX2_lay_16 (fun r9 h9 => lv_cv h9 ?_)
  rw [ei] at hW ⊢
  exact vx_ret (q_i hx hb hr hlocks dX2_lay_19 hS (by omega) (by omega) ⟨i, hi, hxi, rfl, _, _, hW, (FR.up hF)⟩)

abbrev rmX2_take : Room := { frames := 7, cells := 1, slots := 6, locals := 110 }
theorem mX2_take {l : Launch} {G : Cx} {A : Nat → Prop} (hst : l.stackTraces = false) {SA : Nat → Nat} {X : Nat → List Nat} {es : List Nat} {k : Int32} {x : Int32} (hAS : ∀ i : Nat, i < 39 → A (SA i)) : vx_Met l yX2_take (.code yX2_take cX2_take 2 (some .int) :: GW) rmX2_take (PC G A [.ref (SA 0), .int x] (SS G SA X es k)) (qI A (fun r H => ∃ i : Nat, i < 4 ∧ x = nI i ∧ r = nI (X 11).length ∧ SS G SA (updT X i (X 11)) es k H)) (xE A (fun E H => (E = "java/lang/IndexOutOfBoundsException" ∧ NT x) ∧ SS G SA X es k H)) 1 6 A := by
  refine mstartX "Signtext" (by decide +kernel) rfl (Nat.le_of_ble_eq_true rfl) ?_
  intro p e s m below meth c ls hx hb hr hts hown hml hlocks hnx hC hA hW hl
  have hl : lv_has ls 2 [(0, .ref (SA 0)), (1, .int x)] := hl
  have hK := hC.1
  have hS : va_S A s.heap s.heap [] := va_S.rf
  obtain ⟨T, es2, hW, hF⟩ := hW
  have hO := hW.2.1
  have hR1 := hW.2.2.1
  have hR2 := hW.2.2.2.1
  have e11 := hF 11 (Or.inr (Or.inl rfl))
  refine lv_aload_n hx hb dX2_take_0 rfl (lv_at hl 0 rfl) ?_
  refine lv_aload_n hx hb dX2_take_1 rfl (lv_at hl 0 rfl) ?_
  refine va_get (D := G.1) (ci := 6) (C := RX2) (T := TX2) (N := 8) hx hb hts inX2 hown hK (at_P hO) 0 rfl rfl 2 (by decide) (hts _ tw_1_139) (fun _ h9 => h9) rfl dX2_take_2 ?_
  refine lv_iconst (v := nI 0) hx hb dX2_take_5 (by decide) ?_
  refine lv_aload_n hx hb dX2_take_6 rfl (lv_at hl 0 rfl) ?_
  refine va_get (D := G.1) (ci := 6) (C := RX2) (T := TX2) (N := 8) hx hb hts inX2 hown hK (at_P hO) 0 rfl rfl 2 (by decide) (hts _ tw_1_139) (fun _ h9 => h9) rfl dX2_take_7 ?_
  refine kV_i (A := A) (b := (SA 29)) (As := []) (rest := .int (nI 0) :: .ref (SA 29) :: .ref (SA 0) :: []) ⟨hx, hb, hml, hown, hts⟩ (mX0_size (A := A) (ca := SA (8 + 2 * 11))) (cwV 0 hts (gV tw_2_30 tw_2_12 tw_2_13 tw_1_2 tw_2_14) rfl rfl rfl (by decide +kernel) ⟨Nat.le_of_ble_eq_true rfl, Nat.le_of_ble_eq_true rfl⟩) hC hS hA ((hW.line (i := 11) (by omega)).recv hK) (hW.line (i := 11) (by omega)) rfl rfl hl.1 (Nat.le_of_ble_eq_true rfl) ⟨Nat.zero_le _, Nat.zero_le _⟩ dX2_take_10 (fun r9 h9 => lv_cv h9 ?_)
  refine lv_aload_n hx hb dX2_take_13 rfl (lv_at hl 0 rfl) ?_
  refine lv_iload_n hx hb dX2_take_14 rfl (lv_at hl 1 rfl) ?_
  refine xR_V (A := A) (A1 := A) (b := (SA 0)) (As := [.int x]) (rest := .int (nI ((T 11).length)) :: .int (nI 0) :: .ref (SA 29) :: .ref (SA 0) :: []) ⟨hx, hb, hml, hown, hts⟩ (mX2_textOf (A := A) hst ) (cwV 1 hts (gV tw_3_4 tw_3_6 sel_X2_textOf tw_1_1 tw_3_7) rfl rfl rfl (by decide +kernel) ⟨Nat.le_of_ble_eq_true rfl, Nat.le_of_ble_eq_true rfl⟩) hC hS (fun _ h => h) (fun q h => hA q (Nat.le_trans hS.1 h)) (hW.recv hK) hW rfl rfl hl.1 (Nat.le_of_ble_eq_true rfl) ⟨Nat.le_trans (show 0 + 1 ≤ 1 by omega) (Nat.le_of_ble_eq_true rfl), Nat.le_trans (show 0 + 6 ≤ 6 by omega) (Nat.le_of_ble_eq_true rfl)⟩ dX2_take_15 hnx hlocks (by omega) (by omega) (fun E H9 q _ => ⟨⟨q.1, q.2.1⟩, _, _, q.2.2, hF⟩) (fun rv27 H27 L27 hP27 hk27 hS => ?_)
  have hZ27 := hS.1
  obtain ⟨⟨i, hi, hxi, hrv⟩, hW⟩ := hP27
  subst hrv
  have hO := hW.2.1
  have hR1 := hW.2.2.1
  have hR2 := hW.2.2.2.1
  have ei := hF i (Or.inl hi)
  refine qI_V (A := A) (A1 := A) (b := (SA 0)) (As := [.ref (SA 29), .int (nI 0), .int (nI ((T 11).length)), .ref (SA (7 + 2 * i))]) (rest := []) ⟨hx, hb, hml, hown, hts⟩ (mX2_partInto (A := A) (i := 11) (q := i) (a9 := 0) (b9 := (T 11).length) hAS (by omega) (by omega) (by omega) (Nat.zero_le _) (Nat.le_refl _)) (cwV 4 hts (gV tw_2_55 tw_2_57 sel_X2_partInto tw_1_1 tw_2_58) rfl rfl rfl (by decide +kernel) ⟨Nat.le_of_ble_eq_true rfl, Nat.le_of_ble_eq_true rfl⟩) hC hS (fun _ h => h) (fun q h => hA q (Nat.le_trans hS.1 h)) (hW.recv hK) hW rfl rfl hl.1 (Nat.le_of_ble_eq_true rfl) ⟨Nat.le_trans (show (0 + 1) ≤ 1 by omega) (Nat.le_of_ble_eq_true rfl), Nat.le_trans (show (0 + 6) ≤ 6 by omega) (Nat.le_of_ble_eq_true rfl)⟩ dX2_take_18 (fun rv28 H28 L28 hP28 hk28 hS => ?_)
  have hZ28 := hS.1
  rw [cutL_all, e11] at hP28
  exact vx_ret (q_i hx hb hr hlocks dX2_take_21 hS (by omega) (by omega) ⟨i, hi, hxi, hP28.1, _, _, hP28.2, (FR.up (FR.s13 hF))⟩)

abbrev rmX2_set : Room := { frames := 7, cells := 2, slots := 12, locals := 110 }
theorem mX2_set {l : Launch} {G : Cx} {A : Nat → Prop} (hst : l.stackTraces = false) {SA : Nat → Nat} {X : Nat → List Nat} {es : List Nat} {k : Int32} {x y : Int32} (hAS : ∀ i : Nat, i < 39 → A (SA i)) : vx_Met l yX2_set (.code yX2_set cX2_set 5 (some .int) :: GW) rmX2_set (PC G A [.ref (SA 0), .int x, .int y] (SS G SA X es k)) (qI A (fun r H => ∃ a9 j : Nat, a9 < (X 11).length ∧ x = nI a9 ∧ j < 24 ∧ y = nI j ∧ r = nI ((X 11).getD a9 0) ∧ SS G SA (updT X 11 ((X 11).set a9 (codeT.getD j 0))) es k H)) (xE A (fun E H => ((E = "java/lang/IndexOutOfBoundsException" ∧ ¬ ∃ a9 : Nat, a9 < (X 11).length ∧ x = nI a9) ∨ (E = "java/lang/IllegalArgumentException" ∧ (∃ a9 : Nat, a9 < (X 11).length ∧ x = nI a9) ∧ NS y)) ∧ SS G SA X es k H)) 2 12 A := by
  refine mstartX "Signtext" (by decide +kernel) rfl (Nat.le_of_ble_eq_true rfl) ?_
  intro p e s m below meth c ls hx hb hr hts hown hml hlocks hnx hC hA hW hl
  have hl : lv_has ls 5 [(0, .ref (SA 0)), (1, .int x), (2, .int y)] := hl
  have hK := hC.1
  have hS : va_S A s.heap s.heap [] := va_S.rf
  obtain ⟨T, es2, hW, hF⟩ := hW
  have hO := hW.2.1
  have hR1 := hW.2.2.1
  have hR2 := hW.2.2.2.1
  have e11 := hF 11 (Or.inr (Or.inl rfl))
  refine lv_aload_n hx hb dX2_set_0 rfl (lv_at hl 0 rfl) ?_
  refine va_get (D := G.1) (ci := 6) (C := RX2) (T := TX2) (N := 8) hx hb hts inX2 hown hK (at_P hO) 0 rfl rfl 2 (by decide) (hts _ tw_1_139) (fun _ h9 => h9) rfl dX2_set_1 ?_
  refine lv_iload_n hx hb dX2_set_4 rfl (lv_at hl 1 rfl) ?_
  refine xV_S (A := A) (A1 := A)  (As := [.ref (SA 29), .int x]) (rest := []) ⟨hx, hb, hml, hown, hts⟩ (mX2_needPlace (A := A) hst (q := 11) (by decide)) (va_cwS 2 hts (gS tw_3_180 tw_3_181 tw_1_1 tw_3_182) rfl rfl rfl (by decide +kernel) ⟨Nat.le_of_ble_eq_true rfl, Nat.le_of_ble_eq_true rfl⟩) hC hS (fun _ h => h) (fun q h => hA q (Nat.le_trans hS.1 h))  hW rfl rfl hl.1 (Nat.le_of_ble_eq_true rfl) ⟨Nat.le_trans (show 0 + 1 ≤ 2 by omega) (Nat.le_of_ble_eq_true rfl), Nat.le_trans (show 0 + 6 ≤ 12 by omega) (Nat.le_of_ble_eq_true rfl)⟩ dX2_set_5 hnx hlocks (by omega) (by omega) (fun E H9 q _ => ⟨Or.inl ⟨q.1, by rw [← e11]; exact q.2.1⟩, _, _, q.2.2, hF⟩) (fun H29 L29 hP29 hk29 hS => ?_)
  have hZ29 := hS.1
  obtain ⟨⟨a9, ha9, rfl⟩, hW⟩ := hP29
  have hO := hW.2.1
  have hR1 := hW.2.2.1
  have hR2 := hW.2.2.2.1
  refine lv_iload_n hx hb dX2_set_8 rfl (lv_at hl 2 rfl) ?_
  refine xI_S (A := A) (A1 := A)  (As := [.int y]) (rest := []) ⟨hx, hb, hml, hown, hts⟩ (mX2_codeOf (A := A) hst ) (va_cwS 1 hts (gS tw_3_27 tw_3_28 tw_1_1 tw_3_29) rfl rfl rfl (by decide +kernel) ⟨Nat.le_of_ble_eq_true rfl, Nat.le_of_ble_eq_true rfl⟩) hC hS (fun _ h => h) (fun q h => hA q (Nat.le_trans hS.1 h))  hW rfl rfl hl.1 (Nat.le_of_ble_eq_true rfl) ⟨Nat.le_trans (show (0 + 1) + 1 ≤ 2 by omega) (Nat.le_of_ble_eq_true rfl), Nat.le_trans (show (0 + 6) + 6 ≤ 12 by omega) (Nat.le_of_ble_eq_true rfl)⟩ dX2_set_9 hnx hlocks (by omega) (by omega) (fun E H9 q _ => ⟨Or.inr ⟨q.1, ⟨a9, by rw [← e11]; exact ha9, rfl⟩, q.2.1⟩, _, _, q.2.2, hF⟩) (fun rv30 H30 L30 hP30 hk30 hS => ?_)
  have hZ30 := hS.1
  obtain ⟨⟨j, hj, hyj, hrv⟩, hW⟩ := hP30
  subst hrv
  have hO := hW.2.1
  have hR1 := hW.2.2.1
  have hR2 := hW.2.2.2.1
  refine lv_istore_n (lv' := [(3, .int (nI (codeT.getD j 0))), (0, .ref (SA 0)), (1, .int (nI a9)), (2, .int y)]) hx hb dX2_set_12 rfl hl (by decide) rfl (fun ls hl => ?_)
  refine lv_aload_n hx hb dX2_set_13 rfl (lv_at hl 1 rfl) ?_
  refine va_get (D := G.1) (ci := 6) (C := RX2) (T := TX2) (N := 8) hx hb hts inX2 hown hK (at_P hO) 0 rfl rfl 2 (by decide) (hts _ tw_1_139) (fun _ h9 => h9) rfl dX2_set_14 ?_
  refine lv_iload_n hx hb dX2_set_17 rfl (lv_at hl 2 rfl) ?_
  have i60 := (hW.line (i := 11) (by omega)).1
  refine kV_i (A := A) (b := (SA 29)) (As := [.int (nI a9)]) (rest := []) ⟨hx, hb, hml, hown, hts⟩ (mX0_codeAt (A := A) (ca := SA (8 + 2 * 11)) (i := a9) ha9) (cwV 1 hts (gV tw_2_93 tw_2_20 tw_2_21 tw_1_2 tw_2_22) rfl rfl rfl (by decide +kernel) ⟨Nat.le_of_ble_eq_true rfl, Nat.le_of_ble_eq_true rfl⟩) hC hS hA ((hW.line (i := 11) (by omega)).recv hK) (hW.line (i := 11) (by omega)) rfl rfl hl.1 (Nat.le_of_ble_eq_true rfl) ⟨Nat.le_trans (show ((0 + 1) + 1) ≤ 2 by omega) (Nat.le_of_ble_eq_true rfl), Nat.le_trans (show ((0 + 6) + 6) ≤ 12 by omega) (Nat.le_of_ble_eq_true rfl)⟩ dX2_set_18 (fun r9 h9 => lv_cv h9 ?_)
  refine lv_istore (lv' := [(4, .int (nI ((T 11).getD a9 0))), (3, .int (nI (codeT.getD j 0))), (0, .ref (SA 0)), (1, .int (nI a9)), (2, .int y)]) hx hb dX2_set_21 hl (by decide) rfl (fun ls hl => ?_)
  refine lv_aload_n hx hb dX2_set_23 rfl (lv_at hl 2 rfl) ?_
  refine va_get (D := G.1) (ci := 6) (C := RX2) (T := TX2) (N := 8) hx hb hts inX2 hown hK (at_P hO) 0 rfl rfl 2 (by decide) (hts _ tw_1_139) (fun _ h9 => h9) rfl dX2_set_24 ?_
  refine lv_iload_n hx hb dX2_set_27 rfl (lv_at hl 3 rfl) ?_
  refine lv_iload_n hx hb dX2_set_28 rfl (lv_at hl 1 rfl) ?_
  refine qV_V (A := A) (A1 := ow (SA (7 + 2 * 11)) (SA (8 + 2 * 11)) H30.size) (b := (SA 29)) (As := [.int (nI a9), .int (nI (codeT.getD j 0))]) (rest := []) ⟨hx, hb, hml, hown, hts⟩ (mX0_change (A := ow (SA (7 + 2 * 11)) (SA (8 + 2 * 11)) H30.size) (ca := SA (8 + 2 * 11)) (i := a9) (k0 := codeT.getD j 0) (Or.inr (Or.inl rfl)) ha9 (codeT_lt j)) (cwV 2 hts (gV tw_3_183 tw_3_184 tw_3_185 tw_1_2 tw_3_186) rfl rfl rfl (by decide +kernel) ⟨Nat.le_of_ble_eq_true rfl, Nat.le_of_ble_eq_true rfl⟩) hC hS (ow_in (hAS _ (by omega)) (hAS _ (by omega)) hA hS.1) ow_n ((hW.line (i := 11) (by omega)).recv hK) (hW.line (i := 11) (by omega)) rfl rfl hl.1 (Nat.le_of_ble_eq_true rfl) ⟨Nat.le_trans (show ((0 + 1) + 1) ≤ 2 by omega) (Nat.le_of_ble_eq_true rfl), Nat.le_trans (show ((0 + 6) + 6) ≤ 12 by omega) (Nat.le_of_ble_eq_true rfl)⟩ dX2_set_29 (fun H31 L31 hP31 hk31 hS => ?_)
  have hZ31 := hS.1
  have hW := hW.put (q := 11) (t := (T 11).set a9 (codeT.getD j 0)) (by omega) hk31 hP31
  rw [e11] at hW ha9
  refine lv_iload hx hb dX2_set_32 (lv_at hl 0 rfl) ?_
  exact vx_ret (q_i hx hb hr hlocks dX2_set_34 hS (by omega) (by omega) ⟨a9, j, ha9, rfl, hj, hyj, by rw [e11], _, _, hW, (FR.up hF)⟩)

abbrev rmX2_known : Room := { frames := 8, cells := 3, slots := 18, locals := 132 }
theorem mX2_known {l : Launch} {G : Cx} {A : Nat → Prop} (hst : l.stackTraces = false) {SA : Nat → Nat} {X : Nat → List Nat} {es : List Nat} {k : Int32} {x y : Int32} (hAS : ∀ i : Nat, i < 39 → A (SA i)) : vx_Met l yX2_known (.code yX2_known cX2_known 4 (some .int) :: GW) rmX2_known (PC G A [.ref (SA 0), .int x, .int y] (SS G SA X es k)) (qI A (fun r H => ∃ i j : Nat, i < 4 ∧ x = nI i ∧ j < 7 ∧ y = nI j ∧ (X i ++ knT j).length ≤ 60 ∧ r = nI (X i ++ knT j).length ∧ SS G SA (updT X i (X i ++ knT j)) es k H)) (xE A (fun E H => ((E = "java/lang/IndexOutOfBoundsException" ∧ NT x) ∨ (E = "java/lang/IllegalArgumentException" ∧ (∃ i : Nat, i < 4 ∧ x = nI i) ∧ NK y) ∨ (E = "java/lang/IllegalStateException" ∧ ∃ i j : Nat, i < 4 ∧ x = nI i ∧ j < 7 ∧ y = nI j ∧ 60 < (X i ++ knT j).length)) ∧ SS G SA X es k H)) 3 18 A := by
  refine mstartX "Signtext" (by decide +kernel) rfl (Nat.le_of_ble_eq_true rfl) ?_
  intro p e s m below meth c ls hx hb hr hts hown hml hlocks hnx hC hA hW hl
  have hl : lv_has ls 4 [(0, .ref (SA 0)), (1, .int x), (2, .int y)] := hl
  have hK := hC.1
  have hS : va_S A s.heap s.heap [] := va_S.rf
  obtain ⟨T, es2, hW, hF⟩ := hW
  have hO := hW.2.1
  have hR1 := hW.2.2.1
  have hR2 := hW.2.2.2.1
  refine lv_aload_n hx hb dX2_known_0 rfl (lv_at hl 0 rfl) ?_
  refine lv_iload_n hx hb dX2_known_1 rfl (lv_at hl 1 rfl) ?_
  refine xR_V (A := A) (A1 := A) (b := (SA 0)) (As := [.int x]) (rest := []) ⟨hx, hb, hml, hown, hts⟩ (mX2_textOf (A := A) hst ) (cwV 1 hts (gV tw_3_4 tw_3_6 sel_X2_textOf tw_1_1 tw_3_7) rfl rfl rfl (by decide +kernel) ⟨Nat.le_of_ble_eq_true rfl, Nat.le_of_ble_eq_true rfl⟩) hC hS (fun _ h => h) (fun q h => hA q (Nat.le_trans hS.1 h)) (hW.recv hK) hW rfl rfl hl.1 (Nat.le_of_ble_eq_true rfl) ⟨Nat.le_trans (show 0 + 1 ≤ 3 by omega) (Nat.le_of_ble_eq_true rfl), Nat.le_trans (show 0 + 6 ≤ 18 by omega) (Nat.le_of_ble_eq_true rfl)⟩ dX2_known_2 hnx hlocks (by omega) (by omega) (fun E H9 q _ => ⟨Or.inl ⟨q.1, q.2.1⟩, _, _, q.2.2, hF⟩) (fun rv32 H32 L32 hP32 hk32 hS => ?_)
  have hZ32 := hS.1
  obtain ⟨⟨i, hi, hxi, hrv⟩, hW⟩ := hP32
  subst hrv
  have hO := hW.2.1
  have hR1 := hW.2.2.1
  have hR2 := hW.2.2.2.1
  have ei := hF i (Or.inl hi)
  refine lv_astore_n (lv' := [(3, .ref (SA (7 + 2 * i))), (0, .ref (SA 0)), (1, .int x), (2, .int y)]) hx hb dX2_known_5 rfl hl (by decide) rfl (fun ls hl => ?_)
  refine lv_aload_n hx hb dX2_known_6 rfl (lv_at hl 1 rfl) ?_
  refine lv_aload_n hx hb dX2_known_7 rfl (lv_at hl 0 rfl) ?_
  refine lv_aload_n hx hb dX2_known_8 rfl (lv_at hl 1 rfl) ?_
  refine lv_iload_n hx hb dX2_known_9 rfl (lv_at hl 3 rfl) ?_
  refine xR_V (A := A) (A1 := A) (b := (SA 0)) (As := [.int y]) (rest := .ref (SA (7 + 2 * i)) :: .ref (SA 0) :: []) ⟨hx, hb, hml, hown, hts⟩ (mX2_knownOf (A := A) hst ) (cwV 1 hts (gV tw_3_162 tw_3_164 sel_X2_knownOf tw_1_1 tw_3_165) rfl rfl rfl (by decide +kernel) ⟨Nat.le_of_ble_eq_true rfl, Nat.le_of_ble_eq_true rfl⟩) hC hS (fun _ h => h) (fun q h => hA q (Nat.le_trans hS.1 h)) (hW.recv hK) hW rfl rfl hl.1 (Nat.le_of_ble_eq_true rfl) ⟨Nat.le_trans (show (0 + 1) + 1 ≤ 3 by omega) (Nat.le_of_ble_eq_true rfl), Nat.le_trans (show (0 + 6) + 6 ≤ 18 by omega) (Nat.le_of_ble_eq_true rfl)⟩ dX2_known_10 hnx hlocks (by omega) (by omega) (fun E H9 q _ => ⟨Or.inr (Or.inl ⟨q.1, ⟨i, hi, hxi⟩, q.2.1⟩), _, _, q.2.2, hF⟩) (fun rv33 H33 L33 hP33 hk33 hS => ?_)
  have hZ33 := hS.1
  obtain ⟨⟨j, hj, hyj, hrv⟩, hW⟩ := hP33
  rw [show 15 + 2 * j = 7 + 2 * (4 + j) by omega] at hrv
  subst hrv
  have ek := hW.2.2.2.2.2.2.2.2.2 j hj
  refine lv_aload_n hx hb dX2_known_13 rfl (lv_at hl 0 rfl) ?_
  refine xI_V (A := A) (A1 := A) (b := (SA 0)) (As := [.ref (SA (7 + 2 * i)), .ref (SA (7 + 2 * (4 + j))), .ref (SA (7 + 2 * i))]) (rest := []) ⟨hx, hb, hml, hown, hts⟩ (mX2_joinInto (A := A) hst (i := i) (j := 4 + j) (q := i) hAS (by omega) (by omega) (by omega) (by omega) (by omega)) (cwV 3 hts (gV tw_3_32 tw_3_34 sel_X2_joinInto tw_1_1 tw_3_35) rfl rfl rfl (by decide +kernel) ⟨Nat.le_of_ble_eq_true rfl, Nat.le_of_ble_eq_true rfl⟩) hC hS (fun _ h => h) (fun q h => hA q (Nat.le_trans hS.1 h)) (hW.recv hK) hW rfl rfl hl.1 (Nat.le_of_ble_eq_true rfl) ⟨Nat.le_trans (show ((0 + 1) + 1) + 1 ≤ 3 by omega) (Nat.le_of_ble_eq_true rfl), Nat.le_trans (show ((0 + 6) + 6) + 6 ≤ 18 by omega) (Nat.le_of_ble_eq_true rfl)⟩ dX2_known_14 hnx hlocks (by omega) (by omega) (fun E H9 w _ => ⟨Or.inr (Or.inr ⟨w.1, i, j, hi, hxi, hj, hyj, by rw [← ei, ← ek]; exact w.2.1⟩), _, _, w.2.2, hF⟩) (fun rv34 H34 L34 hP34 hk34 hS => ?_)
  have hZ34 := hS.1
  rw [ei, ek] at hP34
  exact vx_ret (q_i hx hb hr hlocks dX2_known_17 hS (by omega) (by omega) ⟨i, j, hi, hxi, hj, hyj, hP34.2.1, hP34.1, _, _, hP34.2.2, (FR.up (FR.s13 hF))⟩)

abbrev rmX2_takePiece : Room := { frames := 7, cells := 2, slots := 12, locals := 111 }
theorem mX2_takePiece {l : Launch} {G : Cx} {A : Nat → Prop} (hst : l.stackTraces = false) {SA : Nat → Nat} {X : Nat → List Nat} {es : List Nat} {k : Int32} {x y : Int32} (hAS : ∀ i : Nat, i < 39 → A (SA i)) : vx_Met l yX2_takePiece (.code yX2_takePiece cX2_takePiece 3 (some .int) :: GW) rmX2_takePiece (PC G A [.ref (SA 0), .int x, .int y] (SS G SA X es k)) (qI A (fun r H => ∃ j i : Nat, j < es.length ∧ x = nI j ∧ i < 4 ∧ y = nI i ∧ r = nI (cutL (X 14) (bgE es j) (es.getD j 0)).length ∧ SS G SA (updT X i (cutL (X 14) (bgE es j) (es.getD j 0))) es k H)) (xE A (fun E H => (E = "java/lang/IndexOutOfBoundsException" ∧ ((¬ ∃ j : Nat, j < es.length ∧ x = nI j) ∨ NT y)) ∧ SS G SA X es k H)) 2 12 A := by
  refine mstartX "Signtext" (by decide +kernel) rfl (Nat.le_of_ble_eq_true rfl) ?_
  intro p e s m below meth c ls hx hb hr hts hown hml hlocks hnx hC hA hW hl
  have hl : lv_has ls 3 [(0, .ref (SA 0)), (1, .int x), (2, .int y)] := hl
  have hK := hC.1
  have hS : va_S A s.heap s.heap [] := va_S.rf
  obtain ⟨T, es2, hW, hF⟩ := hW
  have hO := hW.2.1
  have hR1 := hW.2.2.1
  have hR2 := hW.2.2.2.1
  have e14 := hF 14 (Or.inr (Or.inr rfl))
  refine lv_aload_n hx hb dX2_takePiece_0 rfl (lv_at hl 0 rfl) ?_
  refine lv_iload_n hx hb dX2_takePiece_1 rfl (lv_at hl 1 rfl) ?_
  refine xV_V (A := A) (A1 := A) (b := (SA 0)) (As := [.int x]) (rest := []) ⟨hx, hb, hml, hown, hts⟩ (mX2_needPiece (A := A) hst ) (cwV 1 hts (gV tw_3_215 tw_3_217 sel_X2_needPiece tw_1_1 tw_3_218) rfl rfl rfl (by decide +kernel) ⟨Nat.le_of_ble_eq_true rfl, Nat.le_of_ble_eq_true rfl⟩) hC hS (fun _ h => h) (fun q h => hA q (Nat.le_trans hS.1 h)) (hW.recv hK) hW rfl rfl hl.1 (Nat.le_of_ble_eq_true rfl) ⟨Nat.le_trans (show 0 + 1 ≤ 2 by omega) (Nat.le_of_ble_eq_true rfl), Nat.le_trans (show 0 + 6 ≤ 12 by omega) (Nat.le_of_ble_eq_true rfl)⟩ dX2_takePiece_2 hnx hlocks (by omega) (by omega) (fun E H9 q _ => ⟨⟨q.1, Or.inl q.2.1⟩, _, _, q.2.2, hF⟩) (fun H35 L35 hP35 hk35 hS => ?_)
  have hZ35 := hS.1
  obtain ⟨⟨j, hj, rfl⟩, hW⟩ := hP35
  have hO := hW.2.1
  have hR1 := hW.2.2.1
  have hR2 := hW.2.2.2.1
  refine lv_aload_n hx hb dX2_takePiece_5 rfl (lv_at hl 0 rfl) ?_
  refine lv_iload_n hx hb dX2_takePiece_6 rfl (lv_at hl 1 rfl) ?_
  refine lv_aload_n hx hb dX2_takePiece_7 rfl (lv_at hl 0 rfl) ?_
  refine lv_iload_n hx hb dX2_takePiece_8 rfl (lv_at hl 2 rfl) ?_
  refine xR_V (A := A) (A1 := A) (b := (SA 0)) (As := [.int y]) (rest := .int (nI j) :: .ref (SA 0) :: []) ⟨hx, hb, hml, hown, hts⟩ (mX2_textOf (A := A) hst ) (cwV 1 hts (gV tw_3_4 tw_3_6 sel_X2_textOf tw_1_1 tw_3_7) rfl rfl rfl (by decide +kernel) ⟨Nat.le_of_ble_eq_true rfl, Nat.le_of_ble_eq_true rfl⟩) hC hS (fun _ h => h) (fun q h => hA q (Nat.le_trans hS.1 h)) (hW.recv hK) hW rfl rfl hl.1 (Nat.le_of_ble_eq_true rfl) ⟨Nat.le_trans (show (0 + 1) + 1 ≤ 2 by omega) (Nat.le_of_ble_eq_true rfl), Nat.le_trans (show (0 + 6) + 6 ≤ 12 by omega) (Nat.le_of_ble_eq_true rfl)⟩ dX2_takePiece_9 hnx hlocks (by omega) (by omega) (fun E H9 q _ => ⟨⟨q.1, Or.inr q.2.1⟩, _, _, q.2.2, hF⟩) (fun rv36 H36 L36 hP36 hk36 hS => ?_)
  have hZ36 := hS.1
  obtain ⟨⟨i, hi, hxi, hrv⟩, hW⟩ := hP36
  subst hrv
  have hO := hW.2.1
  have hR1 := hW.2.2.1
  have hR2 := hW.2.2.2.1
  have ei := hF i (Or.inl hi)
  refine qI_V (A := A) (A1 := A) (b := (SA 0)) (As := [.int (nI j), .ref (SA (7 + 2 * i))]) (rest := []) ⟨hx, hb, hml, hown, hts⟩ (mX2_pieceInto (A := A) (q := i) (j := j) hAS (by omega) hj) (cwV 2 hts (gV tw_3_219 tw_3_221 sel_X2_pieceInto tw_1_1 tw_3_222) rfl rfl rfl (by decide +kernel) ⟨Nat.le_of_ble_eq_true rfl, Nat.le_of_ble_eq_true rfl⟩) hC hS (fun _ h => h) (fun q h => hA q (Nat.le_trans hS.1 h)) (hW.recv hK) hW rfl rfl hl.1 (Nat.le_of_ble_eq_true rfl) ⟨Nat.le_trans (show ((0 + 1) + 1) ≤ 2 by omega) (Nat.le_of_ble_eq_true rfl), Nat.le_trans (show ((0 + 6) + 6) ≤ 12 by omega) (Nat.le_of_ble_eq_true rfl)⟩ dX2_takePiece_12 (fun rv37 H37 L37 hP37 hk37 hS => ?_)
  have hZ37 := hS.1
  rw [e14] at hP37
  exact vx_ret (q_i hx hb hr hlocks dX2_takePiece_15 hS (by omega) (by omega) ⟨j, i, hj, rfl, hi, hxi, hP37.1, _, _, hP37.2, (FR.up (FR.s13 hF))⟩)
end
section
/-! The class, 4: more calls that change -/
def repL (t : List Nat) : Nat → List Nat
  | 0 => []
  | m + 1 => repL t m ++ t
theorem repL_len (t : List Nat) (m : Nat) : (repL t m).length = t.length * m := by
  induction m with
  | zero => rfl
  | succ m ih => show (repL t m ++ t).length = _; rw [List.length_append, ih, Nat.mul_succ]
def badS (x : Int32) : Prop := x ≠ -1 ∧ NS x
def comeS (a b c d e : Int32) (w : List Nat) : Prop := ∃ w1 w2 w3 w4, addS [] a w1 ∧ addS w1 b w2 ∧ addS w2 c w3 ∧ addS w3 d w4 ∧ addS w4 e w
def oP (SA : Nat → Nat) (a b c d n : Nat) : Nat → Prop := fun q => q = SA a ∨ q = SA b ∨ q = SA c ∨ q = SA d ∨ n ≤ q
theorem oP_n {SA : Nat → Nat} {a b c d n : Nat} : ∀ q : Nat, n ≤ q → oP SA a b c d n q := fun _ h => Or.inr (Or.inr (Or.inr (Or.inr h)))
theorem oP_in {A : Nat → Prop} {SA : Nat → Nat} {a b c d n n0 : Nat} (ha : A (SA a)) (hb : A (SA b)) (hc : A (SA c)) (hd : A (SA d)) (hA : ∀ q : Nat, n0 ≤ q → A q) (hn : n0 ≤ n) : ∀ q, oP SA a b c d n q → A q := fun q h => by
  rcases h with rfl | rfl | rfl | rfl | h
  · exact ha
  · exact hb
  · exact hc
  · exact hd
  · exact hA q (Nat.le_trans hn h)
theorem SW.oPn {G : Cx} {SA : Nat → Nat} {T : Nat → List Nat} {es es2 : List Nat} {k : Int32} {H : Heap} (h : SW G SA T es es2 k H) {a b c d i : Nat} (hi : i < 39) (ha : a < 39) (hb : b < 39) (hc : c < 39) (hd : d < 39) (h1 : i ≠ a) (h2 : i ≠ b) (h3 : i ≠ c) (h4 : i ≠ d) : ¬ oP SA a b c d H.size (SA i) := fun q => by
  rcases q with q | q | q | q | q
  · exact h.ne hi ha h1 q
  · exact h.ne hi hb h2 q
  · exact h.ne hi hc h3 q
  · exact h.ne hi hd h4 q
  · exact absurd (h.lt i hi) (Nat.not_lt_of_le q)
theorem SW.putP {G : Cx} {SA : Nat → Nat} {T : Nat → List Nat} {es es1 es2 : List Nat} {k : Int32} {H H1 : Heap} {u : List Nat} (h : SW G SA T es es2 k H) (hk : Pilot.CSigntextLaw_law_r5956_0de32b.kp (oP SA 3 35 36 4 H.size) H H1) (hP : PA G (SA 3) (SA 35) (SA 36) (SA 4) u es1 H1) : SW G SA (updT T 14 u) es1 es2 k H1 := by
  have hX : ∀ i : Nat, i < 39 → i ≠ 3 → i ≠ 35 → i ≠ 36 → i ≠ 4 → ¬ oP SA 3 35 36 4 H.size (SA i) := fun i hi h1 h2 h3 h4 => h.oPn hi (by decide) (by decide) (by decide) (by decide) h1 h2 h3 h4
  refine ⟨h.1, at_kp h.2.1 hk (hX 0 (by decide) (by decide) (by decide) (by decide) (by decide)), at_kp h.2.2.1 hk (hX 1 (by decide) (by decide) (by decide) (by decide) (by decide)), at_kp h.2.2.2.1 hk (hX 2 (by decide) (by decide) (by decide) (by decide) (by decide)), fun i hi => ?_, hP.1, by rw [updT_s]; exact hP.2.2.1, h.trd.1.kp hk (hX 5 (by decide) (by decide) (by decide) (by decide) (by decide)) (hX 6 (by decide) (by decide) (by decide) (by decide) (by decide)), by rw [updT_n (by decide)]; exact h.trd.2.2.1, fun i hi => by rw [updT_n (by omega)]; exact h.2.2.2.2.2.2.2.2.2 i hi⟩
  by_cases e : i = 14
  · subst e; rw [updT_s]; exact hP.2.1
  · rw [updT_n e]; exact (h.line hi).kp hk (hX _ (by omega) (by omega) (by omega) (by omega) (by omega)) (hX _ (by omega) (by omega) (by omega) (by omega) (by omega))
theorem SW.putTr {G : Cx} {SA : Nat → Nat} {T : Nat → List Nat} {es es1 es2 : List Nat} {k : Int32} {H H1 : Heap} {u : List Nat} (h : SW G SA T es es2 k H) (hk : Pilot.CSigntextLaw_law_r5956_0de32b.kp (oP SA 5 37 38 6 H.size) H H1) (hP : PA G (SA 5) (SA 37) (SA 38) (SA 6) u es1 H1) : SW G SA (updT T 15 u) es es1 k H1 := by
  have hX : ∀ i : Nat, i < 39 → i ≠ 5 → i ≠ 37 → i ≠ 38 → i ≠ 6 → ¬ oP SA 5 37 38 6 H.size (SA i) := fun i hi h1 h2 h3 h4 => h.oPn hi (by decide) (by decide) (by decide) (by decide) h1 h2 h3 h4
  refine ⟨h.1, at_kp h.2.1 hk (hX 0 (by decide) (by decide) (by decide) (by decide) (by decide)), at_kp h.2.2.1 hk (hX 1 (by decide) (by decide) (by decide) (by decide) (by decide)), at_kp h.2.2.2.1 hk (hX 2 (by decide) (by decide) (by decide) (by decide) (by decide)), fun i hi => ?_, h.pcs.1.kp hk (hX 3 (by decide) (by decide) (by decide) (by decide) (by decide)) (hX 4 (by decide) (by decide) (by decide) (by decide) (by decide)), by rw [updT_n (by decide)]; exact h.pcs.2.2.1, hP.1, by rw [updT_s]; exact hP.2.2.1, fun i hi => by rw [updT_n (by omega)]; exact h.2.2.2.2.2.2.2.2.2 i hi⟩
  by_cases e : i = 15
  · subst e; rw [updT_s]; exact hP.2.1
  · rw [updT_n e]; exact (h.line hi).kp hk (hX _ (by omega) (by omega) (by omega) (by omega) (by omega)) (hX _ (by omega) (by omega) (by omega) (by omega) (by omega))
theorem dX2_put_0 : decode cX2_put 0 = .ok (.aload_n 0, 1) := by decide +kernel
theorem dX2_put_1 : decode cX2_put 1 = .ok (.iload_n 1, 1) := by decide +kernel
theorem dX2_put_2 : decode cX2_put 2 = .ok (.invokevirtual 51, 3) := by decide +kernel
theorem dX2_put_5 : decode cX2_put 5 = .ok (.astore 7, 2) := by decide +kernel
theorem dX2_put_7 : decode cX2_put 7 = .ok (.aload_n 0, 1) := by decide +kernel
theorem dX2_put_8 : decode cX2_put 8 = .ok (.getfield 34, 3) := by decide +kernel
theorem dX2_put_11 : decode cX2_put 11 = .ok (.invokevirtual 55, 3) := by decide +kernel
theorem dX2_put_14 : decode cX2_put 14 = .ok (.aload_n 0, 1) := by decide +kernel
theorem dX2_put_15 : decode cX2_put 15 = .ok (.iload_n 2, 1) := by decide +kernel
theorem dX2_put_16 : decode cX2_put 16 = .ok (.invokevirtual 58, 3) := by decide +kernel
theorem dX2_put_19 : decode cX2_put 19 = .ok (.aload_n 0, 1) := by decide +kernel
theorem dX2_put_20 : decode cX2_put 20 = .ok (.iload_n 3, 1) := by decide +kernel
theorem dX2_put_21 : decode cX2_put 21 = .ok (.invokevirtual 58, 3) := by decide +kernel
theorem dX2_put_24 : decode cX2_put 24 = .ok (.aload_n 0, 1) := by decide +kernel
theorem dX2_put_25 : decode cX2_put 25 = .ok (.iload 4, 2) := by decide +kernel
theorem dX2_put_27 : decode cX2_put 27 = .ok (.invokevirtual 58, 3) := by decide +kernel
theorem dX2_put_30 : decode cX2_put 30 = .ok (.aload_n 0, 1) := by decide +kernel
theorem dX2_put_31 : decode cX2_put 31 = .ok (.iload 5, 2) := by decide +kernel
theorem dX2_put_33 : decode cX2_put 33 = .ok (.invokevirtual 58, 3) := by decide +kernel
theorem dX2_put_36 : decode cX2_put 36 = .ok (.aload_n 0, 1) := by decide +kernel
theorem dX2_put_37 : decode cX2_put 37 = .ok (.iload 6, 2) := by decide +kernel
theorem dX2_put_39 : decode cX2_put 39 = .ok (.invokevirtual 58, 3) := by decide +kernel
theorem dX2_put_42 : decode cX2_put 42 = .ok (.aload_n 0, 1) := by decide +kernel
theorem dX2_put_43 : decode cX2_put 43 = .ok (.aload 7, 2) := by decide +kernel
theorem dX2_put_45 : decode cX2_put 45 = .ok (.aload_n 0, 1) := by decide +kernel
theorem dX2_put_46 : decode cX2_put 46 = .ok (.getfield 34, 3) := by decide +kernel
theorem dX2_put_49 : decode cX2_put 49 = .ok (.aload 7, 2) := by decide +kernel
theorem dX2_put_51 : decode cX2_put 51 = .ok (.invokevirtual 62, 3) := by decide +kernel
theorem dX2_put_54 : decode cX2_put 54 = .ok (.ireturn, 1) := by decide +kernel
theorem dX2_times_0 : decode cX2_times 0 = .ok (.aload_n 0, 1) := by decide +kernel
theorem dX2_times_1 : decode cX2_times 1 = .ok (.iload_n 1, 1) := by decide +kernel
theorem dX2_times_2 : decode cX2_times 2 = .ok (.invokevirtual 51, 3) := by decide +kernel
theorem dX2_times_5 : decode cX2_times 5 = .ok (.astore 4, 2) := by decide +kernel
theorem dX2_times_7 : decode cX2_times 7 = .ok (.aload_n 0, 1) := by decide +kernel
theorem dX2_times_8 : decode cX2_times 8 = .ok (.iload_n 3, 1) := by decide +kernel
theorem dX2_times_9 : decode cX2_times 9 = .ok (.invokevirtual 51, 3) := by decide +kernel
theorem dX2_times_12 : decode cX2_times 12 = .ok (.astore 5, 2) := by decide +kernel
theorem dX2_times_14 : decode cX2_times 14 = .ok (.iload_n 2, 1) := by decide +kernel
theorem dX2_times_15 : decode cX2_times 15 = .ok (.ifCond .lt 9, 3) := by decide +kernel
theorem dX2_times_18 : decode cX2_times 18 = .ok (.iload_n 2, 1) := by decide +kernel
theorem dX2_times_19 : decode cX2_times 19 = .ok (.bipush 60, 2) := by decide +kernel
theorem dX2_times_21 : decode cX2_times 21 = .ok (.if_icmp .le 11, 3) := by decide +kernel
theorem dX2_times_24 : decode cX2_times 24 = .ok (.new 81, 3) := by decide +kernel
theorem dX2_times_27 : decode cX2_times 27 = .ok (.dup, 1) := by decide +kernel
theorem dX2_times_28 : decode cX2_times 28 = .ok (.invokespecial 83, 3) := by decide +kernel
theorem dX2_times_31 : decode cX2_times 31 = .ok (.athrow, 1) := by decide +kernel
theorem dX2_times_32 : decode cX2_times 32 = .ok (.aload 4, 2) := by decide +kernel
theorem dX2_times_34 : decode cX2_times 34 = .ok (.invokevirtual 66, 3) := by decide +kernel
theorem dX2_times_37 : decode cX2_times 37 = .ok (.iload_n 2, 1) := by decide +kernel
theorem dX2_times_38 : decode cX2_times 38 = .ok (.imul, 1) := by decide +kernel
theorem dX2_times_39 : decode cX2_times 39 = .ok (.invokestatic 84, 3) := by decide +kernel
theorem dX2_times_42 : decode cX2_times 42 = .ok (.aload_n 0, 1) := by decide +kernel
theorem dX2_times_43 : decode cX2_times 43 = .ok (.getfield 37, 3) := by decide +kernel
theorem dX2_times_46 : decode cX2_times 46 = .ok (.invokevirtual 55, 3) := by decide +kernel
theorem dX2_times_49 : decode cX2_times 49 = .ok (.iconst 0, 1) := by decide +kernel
theorem dX2_times_50 : decode cX2_times 50 = .ok (.istore 6, 2) := by decide +kernel
theorem dX2_times_52 : decode cX2_times 52 = .ok (.iload 6, 2) := by decide +kernel
theorem dX2_times_54 : decode cX2_times 54 = .ok (.iload_n 2, 1) := by decide +kernel
theorem dX2_times_55 : decode cX2_times 55 = .ok (.if_icmp .ge 18, 3) := by decide +kernel
theorem dX2_times_58 : decode cX2_times 58 = .ok (.aload_n 0, 1) := by decide +kernel
theorem dX2_times_59 : decode cX2_times 59 = .ok (.getfield 37, 3) := by decide +kernel
theorem dX2_times_62 : decode cX2_times 62 = .ok (.aload 4, 2) := by decide +kernel
theorem dX2_times_64 : decode cX2_times 64 = .ok (.invokevirtual 87, 3) := by decide +kernel
theorem dX2_times_67 : decode cX2_times 67 = .ok (.iinc 6 1, 3) := by decide +kernel
theorem dX2_times_70 : decode cX2_times 70 = .ok (.goto (-18), 3) := by decide +kernel
theorem dX2_times_73 : decode cX2_times 73 = .ok (.aload 5, 2) := by decide +kernel
theorem dX2_times_75 : decode cX2_times 75 = .ok (.aload_n 0, 1) := by decide +kernel
theorem dX2_times_76 : decode cX2_times 76 = .ok (.getfield 37, 3) := by decide +kernel
theorem dX2_times_79 : decode cX2_times 79 = .ok (.invokevirtual 91, 3) := by decide +kernel
theorem dX2_times_82 : decode cX2_times 82 = .ok (.aload 5, 2) := by decide +kernel
theorem dX2_times_84 : decode cX2_times 84 = .ok (.invokevirtual 66, 3) := by decide +kernel
theorem dX2_times_87 : decode cX2_times 87 = .ok (.ireturn, 1) := by decide +kernel
theorem dX2_number_0 : decode cX2_number 0 = .ok (.aload_n 0, 1) := by decide +kernel
theorem dX2_number_1 : decode cX2_number 1 = .ok (.iload_n 1, 1) := by decide +kernel
theorem dX2_number_2 : decode cX2_number 2 = .ok (.invokevirtual 51, 3) := by decide +kernel
theorem dX2_number_5 : decode cX2_number 5 = .ok (.astore 4, 2) := by decide +kernel
theorem dX2_number_7 : decode cX2_number 7 = .ok (.aload_n 0, 1) := by decide +kernel
theorem dX2_number_8 : decode cX2_number 8 = .ok (.getfield 34, 3) := by decide +kernel
theorem dX2_number_11 : decode cX2_number 11 = .ok (.invokevirtual 55, 3) := by decide +kernel
theorem dX2_number_14 : decode cX2_number 14 = .ok (.aload_n 0, 1) := by decide +kernel
theorem dX2_number_15 : decode cX2_number 15 = .ok (.getfield 34, 3) := by decide +kernel
theorem dX2_number_18 : decode cX2_number 18 = .ok (.iload_n 2, 1) := by decide +kernel
theorem dX2_number_19 : decode cX2_number 19 = .ok (.i2l, 1) := by decide +kernel
theorem dX2_number_20 : decode cX2_number 20 = .ok (.invokevirtual 101, 3) := by decide +kernel
theorem dX2_number_23 : decode cX2_number 23 = .ok (.aload_n 0, 1) := by decide +kernel
theorem dX2_number_24 : decode cX2_number 24 = .ok (.aload 4, 2) := by decide +kernel
theorem dX2_number_26 : decode cX2_number 26 = .ok (.iload_n 3, 1) := by decide +kernel
theorem dX2_number_27 : decode cX2_number 27 = .ok (.invokevirtual 105, 3) := by decide +kernel
theorem dX2_number_30 : decode cX2_number 30 = .ok (.ireturn, 1) := by decide +kernel
theorem dX2_great_0 : decode cX2_great 0 = .ok (.aload_n 0, 1) := by decide +kernel
theorem dX2_great_1 : decode cX2_great 1 = .ok (.iload_n 1, 1) := by decide +kernel
theorem dX2_great_2 : decode cX2_great 2 = .ok (.invokevirtual 51, 3) := by decide +kernel
theorem dX2_great_5 : decode cX2_great 5 = .ok (.astore 4, 2) := by decide +kernel
theorem dX2_great_7 : decode cX2_great 7 = .ok (.aload_n 0, 1) := by decide +kernel
theorem dX2_great_8 : decode cX2_great 8 = .ok (.getfield 34, 3) := by decide +kernel
theorem dX2_great_11 : decode cX2_great 11 = .ok (.invokevirtual 55, 3) := by decide +kernel
theorem dX2_great_14 : decode cX2_great 14 = .ok (.aload_n 0, 1) := by decide +kernel
theorem dX2_great_15 : decode cX2_great 15 = .ok (.getfield 34, 3) := by decide +kernel
theorem dX2_great_18 : decode cX2_great 18 = .ok (.iload_n 2, 1) := by decide +kernel
theorem dX2_great_19 : decode cX2_great 19 = .ok (.i2l, 1) := by decide +kernel
theorem dX2_great_20 : decode cX2_great 20 = .ok (.bipush 32, 2) := by decide +kernel
theorem dX2_great_22 : decode cX2_great 22 = .ok (.lshl, 1) := by decide +kernel
theorem dX2_great_23 : decode cX2_great 23 = .ok (.iload_n 3, 1) := by decide +kernel
theorem dX2_great_24 : decode cX2_great 24 = .ok (.i2l, 1) := by decide +kernel
theorem dX2_great_25 : decode cX2_great 25 = .ok (.ldc2_w 109, 3) := by decide +kernel
theorem dX2_great_28 : decode cX2_great 28 = .ok (.land, 1) := by decide +kernel
theorem dX2_great_29 : decode cX2_great 29 = .ok (.lor, 1) := by decide +kernel
theorem dX2_great_30 : decode cX2_great 30 = .ok (.invokevirtual 101, 3) := by decide +kernel
theorem dX2_great_33 : decode cX2_great 33 = .ok (.aload_n 0, 1) := by decide +kernel
theorem dX2_great_34 : decode cX2_great 34 = .ok (.aload 4, 2) := by decide +kernel
theorem dX2_great_36 : decode cX2_great 36 = .ok (.iconst 0, 1) := by decide +kernel
theorem dX2_great_37 : decode cX2_great 37 = .ok (.invokevirtual 105, 3) := by decide +kernel
theorem dX2_great_40 : decode cX2_great 40 = .ok (.ireturn, 1) := by decide +kernel
theorem dX2_truth_0 : decode cX2_truth 0 = .ok (.aload_n 0, 1) := by decide +kernel
theorem dX2_truth_1 : decode cX2_truth 1 = .ok (.iload_n 1, 1) := by decide +kernel
theorem dX2_truth_2 : decode cX2_truth 2 = .ok (.invokevirtual 51, 3) := by decide +kernel
theorem dX2_truth_5 : decode cX2_truth 5 = .ok (.astore 4, 2) := by decide +kernel
theorem dX2_truth_7 : decode cX2_truth 7 = .ok (.aload_n 0, 1) := by decide +kernel
theorem dX2_truth_8 : decode cX2_truth 8 = .ok (.getfield 34, 3) := by decide +kernel
theorem dX2_truth_11 : decode cX2_truth 11 = .ok (.invokevirtual 55, 3) := by decide +kernel
theorem dX2_truth_14 : decode cX2_truth 14 = .ok (.aload_n 0, 1) := by decide +kernel
theorem dX2_truth_15 : decode cX2_truth 15 = .ok (.getfield 34, 3) := by decide +kernel
theorem dX2_truth_18 : decode cX2_truth 18 = .ok (.iload_n 2, 1) := by decide +kernel
theorem dX2_truth_19 : decode cX2_truth 19 = .ok (.ifCond .eq 8, 3) := by decide +kernel
theorem dX2_truth_22 : decode cX2_truth 22 = .ok (.ldc 111, 2) := by decide +kernel
theorem dX2_truth_24 : decode cX2_truth 24 = .ok (.goto 5, 3) := by decide +kernel
theorem dX2_truth_27 : decode cX2_truth 27 = .ok (.ldc 113, 2) := by decide +kernel
theorem dX2_truth_29 : decode cX2_truth 29 = .ok (.invokevirtual 47, 3) := by decide +kernel
theorem dX2_truth_32 : decode cX2_truth 32 = .ok (.aload_n 0, 1) := by decide +kernel
theorem dX2_truth_33 : decode cX2_truth 33 = .ok (.aload 4, 2) := by decide +kernel
theorem dX2_truth_35 : decode cX2_truth 35 = .ok (.iload_n 3, 1) := by decide +kernel
theorem dX2_truth_36 : decode cX2_truth 36 = .ok (.invokevirtual 105, 3) := by decide +kernel
theorem dX2_truth_39 : decode cX2_truth 39 = .ok (.ireturn, 1) := by decide +kernel
theorem dX2_ahead_0 : decode cX2_ahead 0 = .ok (.aload_n 0, 1) := by decide +kernel
theorem dX2_ahead_1 : decode cX2_ahead 1 = .ok (.iload_n 1, 1) := by decide +kernel
theorem dX2_ahead_2 : decode cX2_ahead 2 = .ok (.invokevirtual 51, 3) := by decide +kernel
theorem dX2_ahead_5 : decode cX2_ahead 5 = .ok (.astore_n 3, 1) := by decide +kernel
theorem dX2_ahead_6 : decode cX2_ahead 6 = .ok (.aload_n 0, 1) := by decide +kernel
theorem dX2_ahead_7 : decode cX2_ahead 7 = .ok (.getfield 34, 3) := by decide +kernel
theorem dX2_ahead_10 : decode cX2_ahead 10 = .ok (.invokevirtual 55, 3) := by decide +kernel
theorem dX2_ahead_13 : decode cX2_ahead 13 = .ok (.aload_n 0, 1) := by decide +kernel
theorem dX2_ahead_14 : decode cX2_ahead 14 = .ok (.getfield 34, 3) := by decide +kernel
theorem dX2_ahead_17 : decode cX2_ahead 17 = .ok (.iload_n 2, 1) := by decide +kernel
theorem dX2_ahead_18 : decode cX2_ahead 18 = .ok (.invokestatic 115, 3) := by decide +kernel
theorem dX2_ahead_21 : decode cX2_ahead 21 = .ok (.invokevirtual 119, 3) := by decide +kernel
theorem dX2_ahead_24 : decode cX2_ahead 24 = .ok (.aload_n 0, 1) := by decide +kernel
theorem dX2_ahead_25 : decode cX2_ahead 25 = .ok (.aload_n 3, 1) := by decide +kernel
theorem dX2_ahead_26 : decode cX2_ahead 26 = .ok (.iconst 1, 1) := by decide +kernel
theorem dX2_ahead_27 : decode cX2_ahead 27 = .ok (.invokevirtual 105, 3) := by decide +kernel
theorem dX2_ahead_30 : decode cX2_ahead 30 = .ok (.ireturn, 1) := by decide +kernel
theorem dX2_takePart_0 : decode cX2_takePart 0 = .ok (.aload_n 0, 1) := by decide +kernel
theorem dX2_takePart_1 : decode cX2_takePart 1 = .ok (.iload_n 1, 1) := by decide +kernel
theorem dX2_takePart_2 : decode cX2_takePart 2 = .ok (.invokevirtual 51, 3) := by decide +kernel
theorem dX2_takePart_5 : decode cX2_takePart 5 = .ok (.astore 4, 2) := by decide +kernel
theorem dX2_takePart_7 : decode cX2_takePart 7 = .ok (.aload_n 0, 1) := by decide +kernel
theorem dX2_takePart_8 : decode cX2_takePart 8 = .ok (.getfield 19, 3) := by decide +kernel
theorem dX2_takePart_11 : decode cX2_takePart 11 = .ok (.iload_n 2, 1) := by decide +kernel
theorem dX2_takePart_12 : decode cX2_takePart 12 = .ok (.invokestatic 77, 3) := by decide +kernel
theorem dX2_takePart_15 : decode cX2_takePart 15 = .ok (.iload_n 3, 1) := by decide +kernel
theorem dX2_takePart_16 : decode cX2_takePart 16 = .ok (.ifCond .lt 16, 3) := by decide +kernel
theorem dX2_takePart_19 : decode cX2_takePart 19 = .ok (.iload_n 3, 1) := by decide +kernel
theorem dX2_takePart_20 : decode cX2_takePart 20 = .ok (.aload_n 0, 1) := by decide +kernel
theorem dX2_takePart_21 : decode cX2_takePart 21 = .ok (.getfield 19, 3) := by decide +kernel
theorem dX2_takePart_24 : decode cX2_takePart 24 = .ok (.invokevirtual 66, 3) := by decide +kernel
theorem dX2_takePart_27 : decode cX2_takePart 27 = .ok (.iload_n 2, 1) := by decide +kernel
theorem dX2_takePart_28 : decode cX2_takePart 28 = .ok (.isub, 1) := by decide +kernel
theorem dX2_takePart_29 : decode cX2_takePart 29 = .ok (.if_icmp .le 11, 3) := by decide +kernel
theorem dX2_takePart_32 : decode cX2_takePart 32 = .ok (.new 74, 3) := by decide +kernel
theorem dX2_takePart_35 : decode cX2_takePart 35 = .ok (.dup, 1) := by decide +kernel
theorem dX2_takePart_36 : decode cX2_takePart 36 = .ok (.invokespecial 76, 3) := by decide +kernel
theorem dX2_takePart_39 : decode cX2_takePart 39 = .ok (.athrow, 1) := by decide +kernel
theorem dX2_takePart_40 : decode cX2_takePart 40 = .ok (.aload_n 0, 1) := by decide +kernel
theorem dX2_takePart_41 : decode cX2_takePart 41 = .ok (.aload_n 0, 1) := by decide +kernel
theorem dX2_takePart_42 : decode cX2_takePart 42 = .ok (.getfield 19, 3) := by decide +kernel
theorem dX2_takePart_45 : decode cX2_takePart 45 = .ok (.iload_n 2, 1) := by decide +kernel
theorem dX2_takePart_46 : decode cX2_takePart 46 = .ok (.iload_n 2, 1) := by decide +kernel
theorem dX2_takePart_47 : decode cX2_takePart 47 = .ok (.iload_n 3, 1) := by decide +kernel
theorem dX2_takePart_48 : decode cX2_takePart 48 = .ok (.iadd, 1) := by decide +kernel
theorem dX2_takePart_49 : decode cX2_takePart 49 = .ok (.aload 4, 2) := by decide +kernel
theorem dX2_takePart_51 : decode cX2_takePart 51 = .ok (.invokevirtual 70, 3) := by decide +kernel
theorem dX2_takePart_54 : decode cX2_takePart 54 = .ok (.ireturn, 1) := by decide +kernel
theorem dX2_cut_0 : decode cX2_cut 0 = .ok (.aload_n 0, 1) := by decide +kernel
theorem dX2_cut_1 : decode cX2_cut 1 = .ok (.getfield 26, 3) := by decide +kernel
theorem dX2_cut_4 : decode cX2_cut 4 = .ok (.aload_n 0, 1) := by decide +kernel
theorem dX2_cut_5 : decode cX2_cut 5 = .ok (.iload_n 1, 1) := by decide +kernel
theorem dX2_cut_6 : decode cX2_cut 6 = .ok (.invokevirtual 51, 3) := by decide +kernel
theorem dX2_cut_9 : decode cX2_cut 9 = .ok (.invokevirtual 135, 3) := by decide +kernel
theorem dX2_cut_12 : decode cX2_cut 12 = .ok (.aload_n 0, 1) := by decide +kernel
theorem dX2_cut_13 : decode cX2_cut 13 = .ok (.getfield 26, 3) := by decide +kernel
theorem dX2_cut_16 : decode cX2_cut 16 = .ok (.invokevirtual 138, 3) := by decide +kernel
theorem dX2_cut_19 : decode cX2_cut 19 = .ok (.ireturn, 1) := by decide +kernel
abbrev rmX2_takePart : Room := { frames := 7, cells := 3, slots := 18, locals := 110 }
theorem mX2_takePart {l : Launch} {G : Cx} {A : Nat → Prop} (hst : l.stackTraces = false) {SA : Nat → Nat} {X : Nat → List Nat} {es : List Nat} {k : Int32} {x f9 m9 : Int32} (hAS : ∀ i : Nat, i < 39 → A (SA i)) : vx_Met l yX2_takePart (.code yX2_takePart cX2_takePart 5 (some .int) :: GW) rmX2_takePart (PC G A [.ref (SA 0), .int x, .int f9, .int m9] (SS G SA X es k)) (qI A (fun r H => ∃ i a9 b9 : Nat, i < 4 ∧ x = nI i ∧ f9 = nI a9 ∧ m9 = nI b9 ∧ a9 + b9 ≤ (X 11).length ∧ r = nI (cutL (X 11) a9 (a9 + b9)).length ∧ SS G SA (updT X i (cutL (X 11) a9 (a9 + b9))) es k H)) (xE A (fun E H => (E = "java/lang/IndexOutOfBoundsException" ∧ (NT x ∨ ¬ ∃ a9 b9 : Nat, f9 = nI a9 ∧ m9 = nI b9 ∧ a9 + b9 ≤ (X 11).length)) ∧ SS G SA X es k H)) 3 18 A := by
  refine mstartX "Signtext" (by decide +kernel) rfl (Nat.le_of_ble_eq_true rfl) ?_
  intro p e s m below meth c ls hx hb hr hts hown hml hlocks hnx hC hA hW hl
  have hl : lv_has ls 5 [(0, .ref (SA 0)), (1, .int x), (2, .int f9), (3, .int m9)] := hl
  have hK := hC.1
  have hS : va_S A s.heap s.heap [] := va_S.rf
  obtain ⟨T, es2, hW, hF⟩ := hW
  have hO := hW.2.1
  have hR1 := hW.2.2.1
  have hR2 := hW.2.2.2.1
  have e11 := hF 11 (Or.inr (Or.inl rfl))
  have r60 := (hW.line (i := 11) (by omega)).1
  refine lv_aload_n hx hb dX2_takePart_0 rfl (lv_at hl 0 rfl) ?_
  refine lv_iload_n hx hb dX2_takePart_1 rfl (lv_at hl 1 rfl) ?_
  refine xR_V (A := A) (A1 := A) (b := (SA 0)) (As := [.int x]) (rest := []) ⟨hx, hb, hml, hown, hts⟩ (mX2_textOf (A := A) hst ) (cwV 1 hts (gV tw_3_4 tw_3_6 sel_X2_textOf tw_1_1 tw_3_7) rfl rfl rfl (by decide +kernel) ⟨Nat.le_of_ble_eq_true rfl, Nat.le_of_ble_eq_true rfl⟩) hC hS (fun _ h => h) (fun q h => hA q (Nat.le_trans hS.1 h)) (hW.recv hK) hW rfl rfl hl.1 (Nat.le_of_ble_eq_true rfl) ⟨Nat.le_trans (show 0 + 1 ≤ 3 by omega) (Nat.le_of_ble_eq_true rfl), Nat.le_trans (show 0 + 6 ≤ 18 by omega) (Nat.le_of_ble_eq_true rfl)⟩ dX2_takePart_2 hnx hlocks (by omega) (by omega) (fun E H9 q _ => ⟨⟨q.1, Or.inl q.2.1⟩, _, _, q.2.2, hF⟩) (fun rv1 H1 L1 hP1 hk1 hS => ?_)
  have hZ1 := hS.1
  obtain ⟨⟨i, hi, hxi, hrv⟩, hW⟩ := hP1
  subst hrv
  have hO := hW.2.1
  have hR1 := hW.2.2.1
  have hR2 := hW.2.2.2.1
  have ei := hF i (Or.inl hi)
  refine lv_astore (lv' := [(4, .ref (SA (7 + 2 * i))), (0, .ref (SA 0)), (1, .int x), (2, .int f9), (3, .int m9)]) hx hb dX2_takePart_5 hl (by decide) rfl (fun ls hl => ?_)
  refine lv_aload_n hx hb dX2_takePart_7 rfl (lv_at hl 1 rfl) ?_
  refine va_get (D := G.1) (ci := 6) (C := RX2) (T := TX2) (N := 8) hx hb hts inX2 hown hK (at_P hO) 0 rfl rfl 2 (by decide) (hts _ tw_1_139) (fun _ h9 => h9) rfl dX2_takePart_8 ?_
  refine lv_iload_n hx hb dX2_takePart_11 rfl (lv_at hl 3 rfl) ?_
  refine xV_S (A := A) (A1 := A)  (As := [.ref (SA 29), .int f9]) (rest := []) ⟨hx, hb, hml, hown, hts⟩ (mX2_needPlaceOrEnd (A := A) hst (q := 11) (by omega)) (va_cwS 2 hts (gS tw_3_87 tw_3_88 tw_1_1 tw_3_89) rfl rfl rfl (by decide +kernel) ⟨Nat.le_of_ble_eq_true rfl, Nat.le_of_ble_eq_true rfl⟩) hC hS (fun _ h => h) (fun q h => hA q (Nat.le_trans hS.1 h))  hW rfl rfl hl.1 (Nat.le_of_ble_eq_true rfl) ⟨Nat.le_trans (show (0 + 1) + 1 ≤ 3 by omega) (Nat.le_of_ble_eq_true rfl), Nat.le_trans (show (0 + 6) + 6 ≤ 18 by omega) (Nat.le_of_ble_eq_true rfl)⟩ dX2_takePart_12 hnx hlocks (by omega) (by omega) (fun E H9 q _ => ⟨⟨q.1, Or.inr (fun ⟨a0, b0, w1, w2, w3⟩ => q.2.1 ⟨a0, by rw [e11]; omega, w1⟩)⟩, _, _, q.2.2, hF⟩) (fun H2 L2 hP2 hk2 hS => ?_)
  have hZ2 := hS.1
  obtain ⟨⟨a9, ha9, rfl⟩, hW⟩ := hP2
  have hO := hW.2.1
  have hR1 := hW.2.2.1
  have hR2 := hW.2.2.2.1
  refine lv_iload_n hx hb dX2_takePart_15 rfl (lv_at hl 4 rfl) ?_
  refine lv_if_lt (tgt := 32) hx hb dX2_takePart_16 (by decide) (fun c_3 => ?_) (fun c_3 => ?_)
  · exact t_new (nL := 5) (cls := "java/lang/IndexOutOfBoundsException") (ik := 74) (ic := 76) hx hb hst hown hts hC hS hl.1 hml (by decide +kernel) tw_3_8 tw_1_16 tA76 tB76 tG76 hnx hlocks (Nat.le_of_ble_eq_true rfl) (Nat.le_of_ble_eq_true rfl) (Nat.le_trans (show ((0 + 1) + 1) + 1 ≤ 3 by omega) (Nat.le_of_ble_eq_true rfl)) (Nat.le_trans (show ((0 + 6) + 6) + 6 ≤ 18 by omega) (Nat.le_of_ble_eq_true rfl)) (by omega) (by omega) dX2_takePart_32 dX2_takePart_35 dX2_takePart_36 dX2_takePart_39 (fun H9 hk9 => ⟨⟨rfl, Or.inr (fun ⟨a0, b0, w1, w2, w3⟩ => by rw [w2] at c_3; rw [← e11] at w3; exact nI_pos (by omega) c_3)⟩, _, _, hW.nw hk9, hF⟩)
  · obtain ⟨b9, hb31, rfl⟩ := nI_of c_3
    refine lv_iload_n hx hb dX2_takePart_19 rfl (lv_at hl 4 rfl) ?_
    refine lv_aload_n hx hb dX2_takePart_20 rfl (lv_at hl 1 rfl) ?_
    refine va_get (D := G.1) (ci := 6) (C := RX2) (T := TX2) (N := 8) hx hb hts inX2 hown hK (at_P hO) 0 rfl rfl 2 (by decide) (hts _ tw_1_139) (fun _ h9 => h9) rfl dX2_takePart_21 ?_
    refine kV_i (A := A) (b := (SA 29)) (As := []) (rest := .int (nI b9) :: []) ⟨hx, hb, hml, hown, hts⟩ (mX0_size (A := A) (ca := SA (8 + 2 * 11))) (cwV 0 hts (gV tw_2_30 tw_2_12 tw_2_13 tw_1_2 tw_2_14) rfl rfl rfl (by decide +kernel) ⟨Nat.le_of_ble_eq_true rfl, Nat.le_of_ble_eq_true rfl⟩) hC hS hA ((hW.line (i := 11) (by omega)).recv hK) (hW.line (i := 11) (by omega)) rfl rfl hl.1 (Nat.le_of_ble_eq_true rfl) ⟨Nat.le_trans (show ((0 + 1) + 1) ≤ 3 by omega) (Nat.le_of_ble_eq_true rfl), Nat.le_trans (show ((0 + 6) + 6) ≤ 18 by omega) (Nat.le_of_ble_eq_true rfl)⟩ dX2_takePart_24 (fun r9 h9 => lv_cv h9 ?_)
    refine lv_iload_n hx hb dX2_takePart_27 rfl (lv_at hl 3 rfl) ?_
    refine lv_isub hx hb dX2_takePart_28 ?_
    refine lv_cv (pk_sub (a := (T 11).length) (b := a9) (by omega)) ?_
    refine b_le (tgt := 40) hx hb dX2_takePart_29 (by decide) (by omega) (by omega) (fun c_4 => ?_) (fun c_4 => ?_)
    · refine lv_aload_n hx hb dX2_takePart_40 rfl (lv_at hl 1 rfl) ?_
      refine lv_aload_n hx hb dX2_takePart_41 rfl (lv_at hl 1 rfl) ?_
      refine va_get (D := G.1) (ci := 6) (C := RX2) (T := TX2) (N := 8) hx hb hts inX2 hown hK (at_P hO) 0 rfl rfl 2 (by decide) (hts _ tw_1_139) (fun _ h9 => h9) rfl dX2_takePart_42 ?_
      refine lv_iload_n hx hb dX2_takePart_45 rfl (lv_at hl 3 rfl) ?_
      refine lv_iload_n hx hb dX2_takePart_46 rfl (lv_at hl 3 rfl) ?_
      refine lv_iload_n hx hb dX2_takePart_47 rfl (lv_at hl 4 rfl) ?_
      refine lv_iadd hx hb dX2_takePart_48 ?_
      refine lv_cv (nI_add a9 b9) ?_
      refine lv_aload hx hb dX2_takePart_49 (lv_at hl 0 rfl) ?_
      refine qI_V (A := A) (A1 := A) (b := (SA 0)) (As := [.ref (SA 29), .int (nI a9), .int (nI (a9 + b9)), .ref (SA (7 + 2 * i))]) (rest := []) ⟨hx, hb, hml, hown, hts⟩ (mX2_partInto (A := A) (i := 11) (q := i) (a9 := a9) (b9 := (a9 + b9)) hAS (by omega) (by omega) (by omega) (by omega) (by omega)) (cwV 4 hts (gV tw_2_55 tw_2_57 sel_X2_partInto tw_1_1 tw_2_58) rfl rfl rfl (by decide +kernel) ⟨Nat.le_of_ble_eq_true rfl, Nat.le_of_ble_eq_true rfl⟩) hC hS (fun _ h => h) (fun q h => hA q (Nat.le_trans hS.1 h)) (hW.recv hK) hW rfl rfl hl.1 (Nat.le_of_ble_eq_true rfl) ⟨Nat.le_trans (show ((0 + 1) + 1) ≤ 3 by omega) (Nat.le_of_ble_eq_true rfl), Nat.le_trans (show ((0 + 6) + 6) ≤ 18 by omega) (Nat.le_of_ble_eq_true rfl)⟩ dX2_takePart_51 (fun rv5 H5 L5 hP5 hk5 hS => ?_)
      have hZ5 := hS.1
      rw [e11] at hP5 c_4 ha9
      exact vx_ret (q_i hx hb hr hlocks dX2_takePart_54 hS (by omega) (by omega) ⟨i, a9, b9, hi, hxi, rfl, rfl, by omega, hP5.1, _, _, hP5.2, (FR.up (FR.s13 hF))⟩)
    · exact t_new (nL := 5) (cls := "java/lang/IndexOutOfBoundsException") (ik := 74) (ic := 76) hx hb hst hown hts hC hS hl.1 hml (by decide +kernel) tw_3_8 tw_1_16 tA76 tB76 tG76 hnx hlocks (Nat.le_of_ble_eq_true rfl) (Nat.le_of_ble_eq_true rfl) (Nat.le_trans (show ((0 + 1) + 1) + 1 ≤ 3 by omega) (Nat.le_of_ble_eq_true rfl)) (Nat.le_trans (show ((0 + 6) + 6) + 6 ≤ 18 by omega) (Nat.le_of_ble_eq_true rfl)) (by omega) (by omega) dX2_takePart_32 dX2_takePart_35 dX2_takePart_36 dX2_takePart_39 (fun H9 hk9 => ⟨⟨rfl, Or.inr (fun ⟨a0, b0, w1, w2, w3⟩ => by have w4 := (nI_eq (by omega) (by rw [← e11] at w3; omega)).mp w1; have w5 := (nI_eq (by omega) (by rw [← e11] at w3; omega)).mp w2; rw [← e11] at w3; omega)⟩, _, _, hW.nw hk9, hF⟩)

abbrev rmX2_cut : Room := { frames := 7, cells := 1, slots := 6, locals := 110 }
theorem mX2_cut {l : Launch} {G : Cx} {A : Nat → Prop} (hst : l.stackTraces = false) {SA : Nat → Nat} {X : Nat → List Nat} {es : List Nat} {k : Int32} {x : Int32} (hAS : ∀ i : Nat, i < 39 → A (SA i)) : vx_Met l yX2_cut (.code yX2_cut cX2_cut 2 (some .int) :: GW) rmX2_cut (PC G A [.ref (SA 0), .int x] (SS G SA X es k)) (qI A (fun r H => ∃ (i : Nat) (es1 : List Nat), i < 4 ∧ x = nI i ∧ isCut (X i) es1 ∧ r = nI es1.length ∧ SS G SA (updT X 14 (X i)) es1 k H)) (xE A (fun E H => (E = "java/lang/IndexOutOfBoundsException" ∧ NT x) ∧ SS G SA X es k H)) 1 6 A := by
  refine mstartX "Signtext" (by decide +kernel) rfl (Nat.le_of_ble_eq_true rfl) ?_
  intro p e s m below meth c ls hx hb hr hts hown hml hlocks hnx hC hA hW hl
  have hl : lv_has ls 2 [(0, .ref (SA 0)), (1, .int x)] := hl
  have hK := hC.1
  have hS : va_S A s.heap s.heap [] := va_S.rf
  obtain ⟨T, es2, hW, hF⟩ := hW
  have hO := hW.2.1
  have hR1 := hW.2.2.1
  have hR2 := hW.2.2.2.1
  refine lv_aload_n hx hb dX2_cut_0 rfl (lv_at hl 0 rfl) ?_
  refine va_get (D := G.1) (ci := 6) (C := RX2) (T := TX2) (N := 8) hx hb hts inX2 hown hK (at_P hO) 0 rfl rfl 3 (by decide) (hts _ tw_1_140) (fun _ h9 => h9) rfl dX2_cut_1 ?_
  refine lv_aload_n hx hb dX2_cut_4 rfl (lv_at hl 0 rfl) ?_
  refine lv_iload_n hx hb dX2_cut_5 rfl (lv_at hl 1 rfl) ?_
  refine xR_V (A := A) (A1 := A) (b := (SA 0)) (As := [.int x]) (rest := .ref (SA 3) :: []) ⟨hx, hb, hml, hown, hts⟩ (mX2_textOf (A := A) hst ) (cwV 1 hts (gV tw_3_4 tw_3_6 sel_X2_textOf tw_1_1 tw_3_7) rfl rfl rfl (by decide +kernel) ⟨Nat.le_of_ble_eq_true rfl, Nat.le_of_ble_eq_true rfl⟩) hC hS (fun _ h => h) (fun q h => hA q (Nat.le_trans hS.1 h)) (hW.recv hK) hW rfl rfl hl.1 (Nat.le_of_ble_eq_true rfl) ⟨Nat.le_trans (show 0 + 1 ≤ 1 by omega) (Nat.le_of_ble_eq_true rfl), Nat.le_trans (show 0 + 6 ≤ 6 by omega) (Nat.le_of_ble_eq_true rfl)⟩ dX2_cut_6 hnx hlocks (by omega) (by omega) (fun E H9 q _ => ⟨⟨q.1, q.2.1⟩, _, _, q.2.2, hF⟩) (fun rv6 H6 L6 hP6 hk6 hS => ?_)
  have hZ6 := hS.1
  obtain ⟨⟨i, hi, hxi, hrv⟩, hW⟩ := hP6
  subst hrv
  have hO := hW.2.1
  have hR1 := hW.2.2.1
  have hR2 := hW.2.2.2.1
  have ei := hF i (Or.inl hi)
  refine qV_V (A := A) (A1 := oP SA 3 35 36 4 H6.size) (b := (SA 3)) (As := [.ref (SA (7 + 2 * i))]) (rest := []) ⟨hx, hb, hml, hown, hts⟩ (mX1_cutOf (A := oP SA 3 35 36 4 H6.size) (la := SA 35) (lca := SA 36) (ea := SA 4) (cb := SA (8 + 2 * i)) (t := T 14) (u := T i) (es := es) (Or.inl rfl) (Or.inr (Or.inl rfl)) (Or.inr (Or.inr (Or.inl rfl))) (Or.inr (Or.inr (Or.inr (Or.inl rfl)))) ⟨hW.ne (i := 7 + 2 * i) (j := 3) (by omega) (by omega) (by omega), hW.ne (i := 7 + 2 * i) (j := 35) (by omega) (by omega) (by omega), hW.ne (i := 7 + 2 * i) (j := 36) (by omega) (by omega) (by omega), hW.ne (i := 7 + 2 * i) (j := 4) (by omega) (by omega) (by omega)⟩ ⟨hW.ne (i := 8 + 2 * i) (j := 3) (by omega) (by omega) (by omega), hW.ne (i := 8 + 2 * i) (j := 35) (by omega) (by omega) (by omega), hW.ne (i := 8 + 2 * i) (j := 36) (by omega) (by omega) (by omega), hW.ne (i := 8 + 2 * i) (j := 4) (by omega) (by omega) (by omega)⟩) (cwV 1 hts (gV tw_2_63 tw_2_64 tw_2_65 tw_1_3 tw_2_66) rfl rfl rfl (by decide +kernel) ⟨Nat.le_of_ble_eq_true rfl, Nat.le_of_ble_eq_true rfl⟩) hC hS (oP_in (hAS 3 (by decide)) (hAS 35 (by decide)) (hAS 36 (by decide)) (hAS 4 (by decide)) hA hS.1) oP_n (hW.pcs.1.recv hK) ⟨hW.pcs, hW.line (i := i) (by omega)⟩ rfl rfl hl.1 (Nat.le_of_ble_eq_true rfl) ⟨Nat.le_trans (show (0 + 1) ≤ 1 by omega) (Nat.le_of_ble_eq_true rfl), Nat.le_trans (show (0 + 6) ≤ 6 by omega) (Nat.le_of_ble_eq_true rfl)⟩ dX2_cut_9 (fun H7 L7 hP7 hk7 hS => ?_)
  have hZ7 := hS.1
  obtain ⟨⟨es1, hcut, hPA⟩, -⟩ := hP7
  have hW := hW.putP hk7 hPA
  rw [ei] at hcut hW
  have hO := hW.2.1
  have hR1 := hW.2.2.1
  have hR2 := hW.2.2.2.1
  refine lv_aload_n hx hb dX2_cut_12 rfl (lv_at hl 0 rfl) ?_
  refine va_get (D := G.1) (ci := 6) (C := RX2) (T := TX2) (N := 8) hx hb hts inX2 hown hK (at_P hO) 0 rfl rfl 3 (by decide) (hts _ tw_1_140) (fun _ h9 => h9) rfl dX2_cut_13 ?_
  refine kV_i (A := A) (b := (SA 3)) (As := []) (rest := []) ⟨hx, hb, hml, hown, hts⟩ (mX1_size (A := A) (la := SA 35) (ea := SA 4) (es := es1)) (cwV 0 hts (gV tw_2_82 tw_2_83 tw_2_84 tw_1_3 tw_2_85) rfl rfl rfl (by decide +kernel) ⟨Nat.le_of_ble_eq_true rfl, Nat.le_of_ble_eq_true rfl⟩) hC hS hA (hW.pcs.1.recv hK) hW.pcs.1 rfl rfl hl.1 (Nat.le_of_ble_eq_true rfl) ⟨Nat.le_trans (show (0 + 1) ≤ 1 by omega) (Nat.le_of_ble_eq_true rfl), Nat.le_trans (show (0 + 6) ≤ 6 by omega) (Nat.le_of_ble_eq_true rfl)⟩ dX2_cut_16 (fun r9 h9 => lv_cv h9 ?_)
  exact vx_ret (q_i hx hb hr hlocks dX2_cut_19 hS (by omega) (by omega) ⟨i, es1, hi, hxi, hcut, rfl, _, _, hW, (FR.up hF)⟩)

abbrev rmX2_ahead : Room := { frames := 9, cells := 3, slots := 18, locals := 154 }
theorem mX2_ahead {l : Launch} {G : Cx} {A : Nat → Prop} (hst : l.stackTraces = false) {SA : Nat → Nat} {X : Nat → List Nat} {es : List Nat} {k : Int32} {x y : Int32} (hAS : ∀ i : Nat, i < 39 → A (SA i)) : vx_Met l yX2_ahead (.code yX2_ahead cX2_ahead 4 (some .int) :: GW) rmX2_ahead (PC G A [.ref (SA 0), .int x, .int y] (SS G SA X es k)) (qI A (fun r H => ∃ i j : Nat, i < 4 ∧ x = nI i ∧ j < 24 ∧ y = nI j ∧ ([codeT.getD j 0] ++ X i).length ≤ 60 ∧ r = nI ([codeT.getD j 0] ++ X i).length ∧ SS G SA (updT X i ([codeT.getD j 0] ++ X i)) es k H)) (xE A (fun E H => ((E = "java/lang/IndexOutOfBoundsException" ∧ NT x) ∨ (E = "java/lang/IllegalArgumentException" ∧ (∃ i : Nat, i < 4 ∧ x = nI i) ∧ NS y) ∨ (E = "java/lang/IllegalStateException" ∧ ∃ i j : Nat, i < 4 ∧ x = nI i ∧ j < 24 ∧ y = nI j ∧ 60 < ([codeT.getD j 0] ++ X i).length)) ∧ SS G SA X es k H)) 3 18 A := by
  refine mstartX "Signtext" (by decide +kernel) rfl (Nat.le_of_ble_eq_true rfl) ?_
  intro p e s m below meth c ls hx hb hr hts hown hml hlocks hnx hC hA hW hl
  have hl : lv_has ls 4 [(0, .ref (SA 0)), (1, .int x), (2, .int y)] := hl
  have hK := hC.1
  have hS : va_S A s.heap s.heap [] := va_S.rf
  obtain ⟨T, es2, hW, hF⟩ := hW
  have hO := hW.2.1
  have hR1 := hW.2.2.1
  have hR2 := hW.2.2.2.1
  refine lv_aload_n hx hb dX2_ahead_0 rfl (lv_at hl 0 rfl) ?_
  refine lv_iload_n hx hb dX2_ahead_1 rfl (lv_at hl 1 rfl) ?_
  refine xR_V (A := A) (A1 := A) (b := (SA 0)) (As := [.int x]) (rest := []) ⟨hx, hb, hml, hown, hts⟩ (mX2_textOf (A := A) hst ) (cwV 1 hts (gV tw_3_4 tw_3_6 sel_X2_textOf tw_1_1 tw_3_7) rfl rfl rfl (by decide +kernel) ⟨Nat.le_of_ble_eq_true rfl, Nat.le_of_ble_eq_true rfl⟩) hC hS (fun _ h => h) (fun q h => hA q (Nat.le_trans hS.1 h)) (hW.recv hK) hW rfl rfl hl.1 (Nat.le_of_ble_eq_true rfl) ⟨Nat.le_trans (show 0 + 1 ≤ 3 by omega) (Nat.le_of_ble_eq_true rfl), Nat.le_trans (show 0 + 6 ≤ 18 by omega) (Nat.le_of_ble_eq_true rfl)⟩ dX2_ahead_2 hnx hlocks (by omega) (by omega) (fun E H9 q _ => ⟨Or.inl ⟨q.1, q.2.1⟩, _, _, q.2.2, hF⟩) (fun rv8 H8 L8 hP8 hk8 hS => ?_)
  have hZ8 := hS.1
  obtain ⟨⟨i, hi, hxi, hrv⟩, hW⟩ := hP8
  subst hrv
  have hO := hW.2.1
  have hR1 := hW.2.2.1
  have hR2 := hW.2.2.2.1
  have ei := hF i (Or.inl hi)
  refine lv_astore_n (lv' := [(3, .ref (SA (7 + 2 * i))), (0, .ref (SA 0)), (1, .int x), (2, .int y)]) hx hb dX2_ahead_5 rfl hl (by decide) rfl (fun ls hl => ?_)
  refine lv_aload_n hx hb dX2_ahead_6 rfl (lv_at hl 1 rfl) ?_
  refine va_get (D := G.1) (ci := 6) (C := RX2) (T := TX2) (N := 8) hx hb hts inX2 hown hK (at_P hO) 0 rfl rfl 5 (by decide) (hts _ tw_1_142) (fun _ h9 => h9) rfl dX2_ahead_7 ?_
  refine qV_V (A := A) (A1 := ow (SA (7 + 2 * 12)) (SA (8 + 2 * 12)) H8.size) (b := (SA 31)) (As := []) (rest := []) ⟨hx, hb, hml, hown, hts⟩ (mX0_empty (A := ow (SA (7 + 2 * 12)) (SA (8 + 2 * 12)) H8.size) (ca := SA (8 + 2 * 12)) (hAa := Or.inl rfl)) (cwV 0 hts (gV tw_2_31 tw_2_32 tw_2_33 tw_1_2 tw_2_34) rfl rfl rfl (by decide +kernel) ⟨Nat.le_of_ble_eq_true rfl, Nat.le_of_ble_eq_true rfl⟩) hC hS (ow_in (hAS _ (by omega)) (hAS _ (by omega)) hA hS.1) ow_n ((hW.line (i := 12) (by omega)).recv hK) (hW.line (i := 12) (by omega)) rfl rfl hl.1 (Nat.le_of_ble_eq_true rfl) ⟨Nat.le_trans (show (0 + 1) ≤ 3 by omega) (Nat.le_of_ble_eq_true rfl), Nat.le_trans (show (0 + 6) ≤ 18 by omega) (Nat.le_of_ble_eq_true rfl)⟩ dX2_ahead_10 (fun H9 L9 hP9 hk9 hS => ?_)
  have hZ9 := hS.1
  have hW := hW.put (q := 12) (t := []) (by omega) hk9 hP9
  have hO := hW.2.1
  have hR1 := hW.2.2.1
  have hR2 := hW.2.2.2.1
  refine lv_aload_n hx hb dX2_ahead_13 rfl (lv_at hl 1 rfl) ?_
  refine va_get (D := G.1) (ci := 6) (C := RX2) (T := TX2) (N := 8) hx hb hts inX2 hown hK (at_P hO) 0 rfl rfl 5 (by decide) (hts _ tw_1_142) (fun _ h9 => h9) rfl dX2_ahead_14 ?_
  refine lv_iload_n hx hb dX2_ahead_17 rfl (lv_at hl 3 rfl) ?_
  refine xI_S (A := A) (A1 := A)  (As := [.int y]) (rest := .ref (SA 31) :: []) ⟨hx, hb, hml, hown, hts⟩ (mX2_codeOf (A := A) hst ) (va_cwS 1 hts (gS tw_3_27 tw_3_28 tw_1_1 tw_3_29) rfl rfl rfl (by decide +kernel) ⟨Nat.le_of_ble_eq_true rfl, Nat.le_of_ble_eq_true rfl⟩) hC hS (fun _ h => h) (fun q h => hA q (Nat.le_trans hS.1 h))  hW rfl rfl hl.1 (Nat.le_of_ble_eq_true rfl) ⟨Nat.le_trans (show (0 + 1) + 1 ≤ 3 by omega) (Nat.le_of_ble_eq_true rfl), Nat.le_trans (show (0 + 6) + 6 ≤ 18 by omega) (Nat.le_of_ble_eq_true rfl)⟩ dX2_ahead_18 hnx hlocks (by omega) (by omega) (fun E H9 q _ => ⟨Or.inr (Or.inl ⟨q.1, ⟨i, hi, hxi⟩, q.2.1⟩), _, _, q.2.2, (FR.s12 hF)⟩) (fun rv10 H10 L10 hP10 hk10 hS => ?_)
  have hZ10 := hS.1
  obtain ⟨⟨j, hj, hyj, hrv⟩, hW⟩ := hP10
  subst hrv
  have hO := hW.2.1
  have hR1 := hW.2.2.1
  have hR2 := hW.2.2.2.1
  refine qV_V (A := A) (A1 := ow (SA (7 + 2 * 12)) (SA (8 + 2 * 12)) H10.size) (b := (SA 31)) (As := [.int (nI (codeT.getD j 0))]) (rest := []) ⟨hx, hb, hml, hown, hts⟩ (mX0_addCode (A := ow (SA (7 + 2 * 12)) (SA (8 + 2 * 12)) H10.size) (ca := SA (8 + 2 * 12)) (k0 := codeT.getD j 0) (t := []) (Or.inl rfl) (Or.inr (Or.inl rfl)) (codeT_lt j)) (cwV 1 hts (gV tw_2_86 tw_1_134 tw_1_135 tw_1_2 tw_1_136) rfl rfl rfl (by decide +kernel) ⟨Nat.le_of_ble_eq_true rfl, Nat.le_of_ble_eq_true rfl⟩) hC hS (ow_in (hAS _ (by omega)) (hAS _ (by omega)) hA hS.1) ow_n ((hW.line (i := 12) (by omega)).recv hK) (by have h := hW.line (i := 12) (by omega); rw [updT_s] at h; exact h) rfl rfl hl.1 (Nat.le_of_ble_eq_true rfl) ⟨Nat.le_trans (show ((0 + 1) + 1) ≤ 3 by omega) (Nat.le_of_ble_eq_true rfl), Nat.le_trans (show ((0 + 6) + 6) ≤ 18 by omega) (Nat.le_of_ble_eq_true rfl)⟩ dX2_ahead_21 (fun H11 L11 hP11 hk11 hS => ?_)
  have hZ11 := hS.1
  have hW := hW.put (q := 12) (t := [codeT.getD j 0]) (by omega) hk11 hP11
  rw [updT_2] at hW
  have hO := hW.2.1
  have hR1 := hW.2.2.1
  have hR2 := hW.2.2.2.1
  refine lv_aload_n hx hb dX2_ahead_24 rfl (lv_at hl 1 rfl) ?_
  refine lv_aload_n hx hb dX2_ahead_25 rfl (lv_at hl 0 rfl) ?_
  refine lv_iconst (v := nI 1) hx hb dX2_ahead_26 (by decide) ?_
  refine xI_V (A := A) (A1 := A) (b := (SA 0)) (As := [.ref (SA (7 + 2 * i)), .int (bI true)]) (rest := []) ⟨hx, hb, hml, hown, hts⟩ (mX2_addMade (A := A) hst (i := i) (b := true) hAS hi) (cwV 2 hts (gV tw_3_127 tw_3_129 sel_X2_addMade tw_1_1 tw_3_130) rfl rfl rfl (by decide +kernel) ⟨Nat.le_of_ble_eq_true rfl, Nat.le_of_ble_eq_true rfl⟩) hC hS (fun _ h => h) (fun q h => hA q (Nat.le_trans hS.1 h)) (hW.recv hK) hW rfl rfl hl.1 (Nat.le_of_ble_eq_true rfl) ⟨Nat.le_trans (show ((0 + 1) + 1) + 1 ≤ 3 by omega) (Nat.le_of_ble_eq_true rfl), Nat.le_trans (show ((0 + 6) + 6) + 6 ≤ 18 by omega) (Nat.le_of_ble_eq_true rfl)⟩ dX2_ahead_27 hnx hlocks (by omega) (by omega) (fun E H9 q _ => ⟨Or.inr (Or.inr ⟨q.1, i, j, hi, hxi, hj, hyj, by have h := q.2.1; rw [updT_s, updT_n (show i ≠ 12 by omega), ei] at h; exact h⟩), _, _, q.2.2, (FR.s12 hF)⟩) (fun rv12 H12 L12 hP12 hk12 hS => ?_)
  have hZ12 := hS.1
  rw [updT_s, updT_n (show i ≠ 12 by omega), ei] at hP12
  exact vx_ret (q_i hx hb hr hlocks dX2_ahead_30 hS (by omega) (by omega) ⟨i, j, hi, hxi, hj, hyj, hP12.2.1, hP12.1, _, _, hP12.2.2, (FR.up (FR.s13 (FR.s12 hF)))⟩)

abbrev rmX2_number : Room := { frames := 9, cells := 2, slots := 12, locals := 154 }
theorem mX2_number {l : Launch} {G : Cx} {A : Nat → Prop} (hst : l.stackTraces = false) {SA : Nat → Nat} {X : Nat → List Nat} {es : List Nat} {k : Int32} {x n9 : Int32} {b : Bool} (hAS : ∀ i : Nat, i < 39 → A (SA i)) : vx_Met l yX2_number (.code yX2_number cX2_number 5 (some .int) :: GW) rmX2_number (PC G A [.ref (SA 0), .int x, .int n9, .int (bI b)] (SS G SA X es k)) (qI A (fun r H => ∃ i : Nat, i < 4 ∧ x = nI i ∧ (if b then (numL (n9.toInt64)).take 60 ++ X i else X i ++ (numL (n9.toInt64)).take 60).length ≤ 60 ∧ r = nI (if b then (numL (n9.toInt64)).take 60 ++ X i else X i ++ (numL (n9.toInt64)).take 60).length ∧ SS G SA (updT X i (if b then (numL (n9.toInt64)).take 60 ++ X i else X i ++ (numL (n9.toInt64)).take 60)) es k H)) (xE A (fun E H => ((E = "java/lang/IndexOutOfBoundsException" ∧ NT x) ∨ (E = "java/lang/IllegalStateException" ∧ ∃ i : Nat, i < 4 ∧ x = nI i ∧ 60 < (if b then (numL (n9.toInt64)).take 60 ++ X i else X i ++ (numL (n9.toInt64)).take 60).length)) ∧ SS G SA X es k H)) 2 12 A := by
  refine mstartX "Signtext" (by decide +kernel) rfl (Nat.le_of_ble_eq_true rfl) ?_
  intro p e s m below meth c ls hx hb hr hts hown hml hlocks hnx hC hA hW hl
  have hl : lv_has ls 5 [(0, .ref (SA 0)), (1, .int x), (2, .int n9), (3, .int (bI b))] := hl
  have hK := hC.1
  have hS : va_S A s.heap s.heap [] := va_S.rf
  obtain ⟨T, es2, hW, hF⟩ := hW
  have hO := hW.2.1
  have hR1 := hW.2.2.1
  have hR2 := hW.2.2.2.1
  refine lv_aload_n hx hb dX2_number_0 rfl (lv_at hl 0 rfl) ?_
  refine lv_iload_n hx hb dX2_number_1 rfl (lv_at hl 1 rfl) ?_
  refine xR_V (A := A) (A1 := A) (b := (SA 0)) (As := [.int x]) (rest := []) ⟨hx, hb, hml, hown, hts⟩ (mX2_textOf (A := A) hst ) (cwV 1 hts (gV tw_3_4 tw_3_6 sel_X2_textOf tw_1_1 tw_3_7) rfl rfl rfl (by decide +kernel) ⟨Nat.le_of_ble_eq_true rfl, Nat.le_of_ble_eq_true rfl⟩) hC hS (fun _ h => h) (fun q h => hA q (Nat.le_trans hS.1 h)) (hW.recv hK) hW rfl rfl hl.1 (Nat.le_of_ble_eq_true rfl) ⟨Nat.le_trans (show 0 + 1 ≤ 2 by omega) (Nat.le_of_ble_eq_true rfl), Nat.le_trans (show 0 + 6 ≤ 12 by omega) (Nat.le_of_ble_eq_true rfl)⟩ dX2_number_2 hnx hlocks (by omega) (by omega) (fun E H9 q _ => ⟨Or.inl ⟨q.1, q.2.1⟩, _, _, q.2.2, hF⟩) (fun rv13 H13 L13 hP13 hk13 hS => ?_)
  have hZ13 := hS.1
  obtain ⟨⟨i, hi, hxi, hrv⟩, hW⟩ := hP13
  subst hrv
  have hO := hW.2.1
  have hR1 := hW.2.2.1
  have hR2 := hW.2.2.2.1
  have ei := hF i (Or.inl hi)
  refine lv_astore (lv' := [(4, .ref (SA (7 + 2 * i))), (0, .ref (SA 0)), (1, .int x), (2, .int n9), (3, .int (bI b))]) hx hb dX2_number_5 hl (by decide) rfl (fun ls hl => ?_)
  refine lv_aload_n hx hb dX2_number_7 rfl (lv_at hl 1 rfl) ?_
  refine va_get (D := G.1) (ci := 6) (C := RX2) (T := TX2) (N := 8) hx hb hts inX2 hown hK (at_P hO) 0 rfl rfl 5 (by decide) (hts _ tw_1_142) (fun _ h9 => h9) rfl dX2_number_8 ?_
  refine qV_V (A := A) (A1 := ow (SA (7 + 2 * 12)) (SA (8 + 2 * 12)) H13.size) (b := (SA 31)) (As := []) (rest := []) ⟨hx, hb, hml, hown, hts⟩ (mX0_empty (A := ow (SA (7 + 2 * 12)) (SA (8 + 2 * 12)) H13.size) (ca := SA (8 + 2 * 12)) (hAa := Or.inl rfl)) (cwV 0 hts (gV tw_2_31 tw_2_32 tw_2_33 tw_1_2 tw_2_34) rfl rfl rfl (by decide +kernel) ⟨Nat.le_of_ble_eq_true rfl, Nat.le_of_ble_eq_true rfl⟩) hC hS (ow_in (hAS _ (by omega)) (hAS _ (by omega)) hA hS.1) ow_n ((hW.line (i := 12) (by omega)).recv hK) (hW.line (i := 12) (by omega)) rfl rfl hl.1 (Nat.le_of_ble_eq_true rfl) ⟨Nat.le_trans (show (0 + 1) ≤ 2 by omega) (Nat.le_of_ble_eq_true rfl), Nat.le_trans (show (0 + 6) ≤ 12 by omega) (Nat.le_of_ble_eq_true rfl)⟩ dX2_number_11 (fun H14 L14 hP14 hk14 hS => ?_)
  have hZ14 := hS.1
  have hW := hW.put (q := 12) (t := []) (by omega) hk14 hP14
  have hO := hW.2.1
  have hR1 := hW.2.2.1
  have hR2 := hW.2.2.2.1
  refine lv_aload_n hx hb dX2_number_14 rfl (lv_at hl 1 rfl) ?_
  refine va_get (D := G.1) (ci := 6) (C := RX2) (T := TX2) (N := 8) hx hb hts inX2 hown hK (at_P hO) 0 rfl rfl 5 (by decide) (hts _ tw_1_142) (fun _ h9 => h9) rfl dX2_number_15 ?_
  refine lv_iload_n hx hb dX2_number_18 rfl (lv_at hl 3 rfl) ?_
  refine lv_i2l hx hb dX2_number_19 rfl ?_
  refine qV_V (A := A) (A1 := ow (SA (7 + 2 * 12)) (SA (8 + 2 * 12)) H14.size) (b := (SA 31)) (As := [.long n9.toInt64]) (rest := []) ⟨hx, hb, hml, hown, hts⟩ (mX0_addNumber (A := ow (SA (7 + 2 * 12)) (SA (8 + 2 * 12)) H14.size) (ca := SA (8 + 2 * 12)) (t := []) (x := n9.toInt64) (Or.inl rfl) (Or.inr (Or.inl rfl))) (cwV 1 hts (gV tw_3_118 tw_3_119 tw_3_120 tw_1_2 tw_3_121) rfl rfl rfl (by decide +kernel) ⟨Nat.le_of_ble_eq_true rfl, Nat.le_of_ble_eq_true rfl⟩) hC hS (ow_in (hAS _ (by omega)) (hAS _ (by omega)) hA hS.1) ow_n ((hW.line (i := 12) (by omega)).recv hK) (by have h := hW.line (i := 12) (by omega); rw [updT_s] at h; exact h) rfl rfl hl.1 (Nat.le_of_ble_eq_true rfl) ⟨Nat.le_trans (show (0 + 1) ≤ 2 by omega) (Nat.le_of_ble_eq_true rfl), Nat.le_trans (show (0 + 6) ≤ 12 by omega) (Nat.le_of_ble_eq_true rfl)⟩ dX2_number_20 (fun H15 L15 hP15 hk15 hS => ?_)
  have hZ15 := hS.1
  have hW := hW.put (q := 12) (t := (numL n9.toInt64).take 60) (by omega) hk15 hP15
  rw [updT_2] at hW
  have hO := hW.2.1
  have hR1 := hW.2.2.1
  have hR2 := hW.2.2.2.1
  refine lv_aload_n hx hb dX2_number_23 rfl (lv_at hl 1 rfl) ?_
  refine lv_aload hx hb dX2_number_24 (lv_at hl 0 rfl) ?_
  refine lv_iload_n hx hb dX2_number_26 rfl (lv_at hl 4 rfl) ?_
  refine xI_V (A := A) (A1 := A) (b := (SA 0)) (As := [.ref (SA (7 + 2 * i)), .int (bI b)]) (rest := []) ⟨hx, hb, hml, hown, hts⟩ (mX2_addMade (A := A) hst (i := i) (b := b) hAS hi) (cwV 2 hts (gV tw_3_127 tw_3_129 sel_X2_addMade tw_1_1 tw_3_130) rfl rfl rfl (by decide +kernel) ⟨Nat.le_of_ble_eq_true rfl, Nat.le_of_ble_eq_true rfl⟩) hC hS (fun _ h => h) (fun q h => hA q (Nat.le_trans hS.1 h)) (hW.recv hK) hW rfl rfl hl.1 (Nat.le_of_ble_eq_true rfl) ⟨Nat.le_trans (show (0 + 1) + 1 ≤ 2 by omega) (Nat.le_of_ble_eq_true rfl), Nat.le_trans (show (0 + 6) + 6 ≤ 12 by omega) (Nat.le_of_ble_eq_true rfl)⟩ dX2_number_27 hnx hlocks (by omega) (by omega) (fun E H9 q _ => ⟨Or.inr ⟨q.1, i, hi, hxi, by have h := q.2.1; rw [updT_s, updT_n (show i ≠ 12 by omega), ei] at h; exact h⟩, _, _, q.2.2, (FR.s12 hF)⟩) (fun rv16 H16 L16 hP16 hk16 hS => ?_)
  have hZ16 := hS.1
  rw [updT_s, updT_n (show i ≠ 12 by omega), ei] at hP16
  exact vx_ret (q_i hx hb hr hlocks dX2_number_30 hS (by omega) (by omega) ⟨i, hi, hxi, hP16.2.1, hP16.1, _, _, hP16.2.2, (FR.up (FR.s13 (FR.s12 hF)))⟩)

abbrev rmX2_great : Room := { frames := 9, cells := 2, slots := 12, locals := 154 }
theorem mX2_great {l : Launch} {G : Cx} {A : Nat → Prop} (hst : l.stackTraces = false) {SA : Nat → Nat} {X : Nat → List Nat} {es : List Nat} {k : Int32} {x h9 l9 : Int32} (hAS : ∀ i : Nat, i < 39 → A (SA i)) : vx_Met l yX2_great (.code yX2_great cX2_great 5 (some .int) :: GW) rmX2_great (PC G A [.ref (SA 0), .int x, .int h9, .int l9] (SS G SA X es k)) (qI A (fun r H => ∃ i : Nat, i < 4 ∧ x = nI i ∧ (if false then (numL ((h9.toInt64 <<< ((nI 32).toInt64 &&& 63)) ||| (l9.toInt64 &&& 4294967295))).take 60 ++ X i else X i ++ (numL ((h9.toInt64 <<< ((nI 32).toInt64 &&& 63)) ||| (l9.toInt64 &&& 4294967295))).take 60).length ≤ 60 ∧ r = nI (if false then (numL ((h9.toInt64 <<< ((nI 32).toInt64 &&& 63)) ||| (l9.toInt64 &&& 4294967295))).take 60 ++ X i else X i ++ (numL ((h9.toInt64 <<< ((nI 32).toInt64 &&& 63)) ||| (l9.toInt64 &&& 4294967295))).take 60).length ∧ SS G SA (updT X i (if false then (numL ((h9.toInt64 <<< ((nI 32).toInt64 &&& 63)) ||| (l9.toInt64 &&& 4294967295))).take 60 ++ X i else X i ++ (numL ((h9.toInt64 <<< ((nI 32).toInt64 &&& 63)) ||| (l9.toInt64 &&& 4294967295))).take 60)) es k H)) (xE A (fun E H => ((E = "java/lang/IndexOutOfBoundsException" ∧ NT x) ∨ (E = "java/lang/IllegalStateException" ∧ ∃ i : Nat, i < 4 ∧ x = nI i ∧ 60 < (if false then (numL ((h9.toInt64 <<< ((nI 32).toInt64 &&& 63)) ||| (l9.toInt64 &&& 4294967295))).take 60 ++ X i else X i ++ (numL ((h9.toInt64 <<< ((nI 32).toInt64 &&& 63)) ||| (l9.toInt64 &&& 4294967295))).take 60).length)) ∧ SS G SA X es k H)) 2 12 A := by
  refine mstartX "Signtext" (by decide +kernel) rfl (Nat.le_of_ble_eq_true rfl) ?_
  intro p e s m below meth c ls hx hb hr hts hown hml hlocks hnx hC hA hW hl
  have hl : lv_has ls 5 [(0, .ref (SA 0)), (1, .int x), (2, .int h9), (3, .int l9)] := hl
  have hK := hC.1
  have hS : va_S A s.heap s.heap [] := va_S.rf
  obtain ⟨T, es2, hW, hF⟩ := hW
  have hO := hW.2.1
  have hR1 := hW.2.2.1
  have hR2 := hW.2.2.2.1
  refine lv_aload_n hx hb dX2_great_0 rfl (lv_at hl 0 rfl) ?_
  refine lv_iload_n hx hb dX2_great_1 rfl (lv_at hl 1 rfl) ?_
  refine xR_V (A := A) (A1 := A) (b := (SA 0)) (As := [.int x]) (rest := []) ⟨hx, hb, hml, hown, hts⟩ (mX2_textOf (A := A) hst ) (cwV 1 hts (gV tw_3_4 tw_3_6 sel_X2_textOf tw_1_1 tw_3_7) rfl rfl rfl (by decide +kernel) ⟨Nat.le_of_ble_eq_true rfl, Nat.le_of_ble_eq_true rfl⟩) hC hS (fun _ h => h) (fun q h => hA q (Nat.le_trans hS.1 h)) (hW.recv hK) hW rfl rfl hl.1 (Nat.le_of_ble_eq_true rfl) ⟨Nat.le_trans (show 0 + 1 ≤ 2 by omega) (Nat.le_of_ble_eq_true rfl), Nat.le_trans (show 0 + 6 ≤ 12 by omega) (Nat.le_of_ble_eq_true rfl)⟩ dX2_great_2 hnx hlocks (by omega) (by omega) (fun E H9 q _ => ⟨Or.inl ⟨q.1, q.2.1⟩, _, _, q.2.2, hF⟩) (fun rv17 H17 L17 hP17 hk17 hS => ?_)
  have hZ17 := hS.1
  obtain ⟨⟨i, hi, hxi, hrv⟩, hW⟩ := hP17
  subst hrv
  have hO := hW.2.1
  have hR1 := hW.2.2.1
  have hR2 := hW.2.2.2.1
  have ei := hF i (Or.inl hi)
  refine lv_astore (lv' := [(4, .ref (SA (7 + 2 * i))), (0, .ref (SA 0)), (1, .int x), (2, .int h9), (3, .int l9)]) hx hb dX2_great_5 hl (by decide) rfl (fun ls hl => ?_)
  refine lv_aload_n hx hb dX2_great_7 rfl (lv_at hl 1 rfl) ?_
  refine va_get (D := G.1) (ci := 6) (C := RX2) (T := TX2) (N := 8) hx hb hts inX2 hown hK (at_P hO) 0 rfl rfl 5 (by decide) (hts _ tw_1_142) (fun _ h9 => h9) rfl dX2_great_8 ?_
  refine qV_V (A := A) (A1 := ow (SA (7 + 2 * 12)) (SA (8 + 2 * 12)) H17.size) (b := (SA 31)) (As := []) (rest := []) ⟨hx, hb, hml, hown, hts⟩ (mX0_empty (A := ow (SA (7 + 2 * 12)) (SA (8 + 2 * 12)) H17.size) (ca := SA (8 + 2 * 12)) (hAa := Or.inl rfl)) (cwV 0 hts (gV tw_2_31 tw_2_32 tw_2_33 tw_1_2 tw_2_34) rfl rfl rfl (by decide +kernel) ⟨Nat.le_of_ble_eq_true rfl, Nat.le_of_ble_eq_true rfl⟩) hC hS (ow_in (hAS _ (by omega)) (hAS _ (by omega)) hA hS.1) ow_n ((hW.line (i := 12) (by omega)).recv hK) (hW.line (i := 12) (by omega)) rfl rfl hl.1 (Nat.le_of_ble_eq_true rfl) ⟨Nat.le_trans (show (0 + 1) ≤ 2 by omega) (Nat.le_of_ble_eq_true rfl), Nat.le_trans (show (0 + 6) ≤ 12 by omega) (Nat.le_of_ble_eq_true rfl)⟩ dX2_great_11 (fun H18 L18 hP18 hk18 hS => ?_)
  have hZ18 := hS.1
  have hW := hW.put (q := 12) (t := []) (by omega) hk18 hP18
  have hO := hW.2.1
  have hR1 := hW.2.2.1
  have hR2 := hW.2.2.2.1
  refine lv_aload_n hx hb dX2_great_14 rfl (lv_at hl 1 rfl) ?_
  refine va_get (D := G.1) (ci := 6) (C := RX2) (T := TX2) (N := 8) hx hb hts inX2 hown hK (at_P hO) 0 rfl rfl 5 (by decide) (hts _ tw_1_142) (fun _ h9 => h9) rfl dX2_great_15 ?_
  refine lv_iload_n hx hb dX2_great_18 rfl (lv_at hl 3 rfl) ?_
  refine lv_i2l hx hb dX2_great_19 rfl ?_
  refine lv_bipush (v := nI 32) hx hb dX2_great_20 (by decide) ?_
  refine lv_lshl hx hb dX2_great_22 rfl ?_
  refine lv_iload_n hx hb dX2_great_23 rfl (lv_at hl 4 rfl) ?_
  refine lv_i2l hx hb dX2_great_24 rfl ?_
  refine lv_ldc2 (v := 4294967295) hx hb hown (hts _ tw_3_138) dX2_great_25 ?_
  refine lv_land hx hb dX2_great_28 ?_
  refine lv_lor hx hb dX2_great_29 ?_
  refine qV_V (A := A) (A1 := ow (SA (7 + 2 * 12)) (SA (8 + 2 * 12)) H18.size) (b := (SA 31)) (As := [.long ((h9.toInt64 <<< ((nI 32).toInt64 &&& 63)) ||| (l9.toInt64 &&& 4294967295))]) (rest := []) ⟨hx, hb, hml, hown, hts⟩ (mX0_addNumber (A := ow (SA (7 + 2 * 12)) (SA (8 + 2 * 12)) H18.size) (ca := SA (8 + 2 * 12)) (t := []) (x := (h9.toInt64 <<< ((nI 32).toInt64 &&& 63)) ||| (l9.toInt64 &&& 4294967295)) (Or.inl rfl) (Or.inr (Or.inl rfl))) (cwV 1 hts (gV tw_3_118 tw_3_119 tw_3_120 tw_1_2 tw_3_121) rfl rfl rfl (by decide +kernel) ⟨Nat.le_of_ble_eq_true rfl, Nat.le_of_ble_eq_true rfl⟩) hC hS (ow_in (hAS _ (by omega)) (hAS _ (by omega)) hA hS.1) ow_n ((hW.line (i := 12) (by omega)).recv hK) (by have h := hW.line (i := 12) (by omega); rw [updT_s] at h; exact h) rfl rfl hl.1 (Nat.le_of_ble_eq_true rfl) ⟨Nat.le_trans (show (0 + 1) ≤ 2 by omega) (Nat.le_of_ble_eq_true rfl), Nat.le_trans (show (0 + 6) ≤ 12 by omega) (Nat.le_of_ble_eq_true rfl)⟩ dX2_great_30 (fun H19 L19 hP19 hk19 hS => ?_)
  have hZ19 := hS.1
  have hW := hW.put (q := 12) (t := (numL ((h9.toInt64 <<< ((nI 32).toInt64 &&& 63)) ||| (l9.toInt64 &&& 4294967295))).take 60) (by omega) hk19 hP19
  rw [updT_2] at hW
  have hO := hW.2.1
  have hR1 := hW.2.2.1
  have hR2 := hW.2.2.2.1
  refine lv_aload_n hx hb dX2_great_33 rfl (lv_at hl 1 rfl) ?_
  refine lv_aload hx hb dX2_great_34 (lv_at hl 0 rfl) ?_
  refine lv_iconst (v := nI 0) hx hb dX2_great_36 (by decide) ?_
  refine xI_V (A := A) (A1 := A) (b := (SA 0)) (As := [.ref (SA (7 + 2 * i)), .int (bI false)]) (rest := []) ⟨hx, hb, hml, hown, hts⟩ (mX2_addMade (A := A) hst (i := i) (b := false) hAS hi) (cwV 2 hts (gV tw_3_127 tw_3_129 sel_X2_addMade tw_1_1 tw_3_130) rfl rfl rfl (by decide +kernel) ⟨Nat.le_of_ble_eq_true rfl, Nat.le_of_ble_eq_true rfl⟩) hC hS (fun _ h => h) (fun q h => hA q (Nat.le_trans hS.1 h)) (hW.recv hK) hW rfl rfl hl.1 (Nat.le_of_ble_eq_true rfl) ⟨Nat.le_trans (show (0 + 1) + 1 ≤ 2 by omega) (Nat.le_of_ble_eq_true rfl), Nat.le_trans (show (0 + 6) + 6 ≤ 12 by omega) (Nat.le_of_ble_eq_true rfl)⟩ dX2_great_37 hnx hlocks (by omega) (by omega) (fun E H9 q _ => ⟨Or.inr ⟨q.1, i, hi, hxi, by have h := q.2.1; rw [updT_s, updT_n (show i ≠ 12 by omega), ei] at h; exact h⟩, _, _, q.2.2, (FR.s12 hF)⟩) (fun rv20 H20 L20 hP20 hk20 hS => ?_)
  have hZ20 := hS.1
  rw [updT_s, updT_n (show i ≠ 12 by omega), ei] at hP20
  exact vx_ret (q_i hx hb hr hlocks dX2_great_40 hS (by omega) (by omega) ⟨i, hi, hxi, hP20.2.1, hP20.1, _, _, hP20.2.2, (FR.up (FR.s13 (FR.s12 hF)))⟩)

abbrev rmX2_truth : Room := { frames := 9, cells := 2, slots := 12, locals := 154 }
theorem mX2_truth {l : Launch} {G : Cx} {A : Nat → Prop} (hst : l.stackTraces = false) {SA : Nat → Nat} {X : Nat → List Nat} {es : List Nat} {k : Int32} {x : Int32} {b b2 : Bool} (hAS : ∀ i : Nat, i < 39 → A (SA i)) : vx_Met l yX2_truth (.code yX2_truth cX2_truth 5 (some .int) :: GW) rmX2_truth (PC G A [.ref (SA 0), .int x, .int (bI b), .int (bI b2)] (SS G SA X es k)) (qI A (fun r H => ∃ i : Nat, i < 4 ∧ x = nI i ∧ (if b2 then stx (if b then 7 else 8) ++ X i else X i ++ stx (if b then 7 else 8)).length ≤ 60 ∧ r = nI (if b2 then stx (if b then 7 else 8) ++ X i else X i ++ stx (if b then 7 else 8)).length ∧ SS G SA (updT X i (if b2 then stx (if b then 7 else 8) ++ X i else X i ++ stx (if b then 7 else 8))) es k H)) (xE A (fun E H => ((E = "java/lang/IndexOutOfBoundsException" ∧ NT x) ∨ (E = "java/lang/IllegalStateException" ∧ ∃ i : Nat, i < 4 ∧ x = nI i ∧ 60 < (if b2 then stx (if b then 7 else 8) ++ X i else X i ++ stx (if b then 7 else 8)).length)) ∧ SS G SA X es k H)) 2 12 A := by
  refine mstartX "Signtext" (by decide +kernel) rfl (Nat.le_of_ble_eq_true rfl) ?_
  intro p e s m below meth c ls hx hb hr hts hown hml hlocks hnx hC hA hW hl
  have hl : lv_has ls 5 [(0, .ref (SA 0)), (1, .int x), (2, .int (bI b)), (3, .int (bI b2))] := hl
  have hK := hC.1
  have hS : va_S A s.heap s.heap [] := va_S.rf
  obtain ⟨T, es2, hW, hF⟩ := hW
  have hO := hW.2.1
  have hR1 := hW.2.2.1
  have hR2 := hW.2.2.2.1
  refine lv_aload_n hx hb dX2_truth_0 rfl (lv_at hl 0 rfl) ?_
  refine lv_iload_n hx hb dX2_truth_1 rfl (lv_at hl 1 rfl) ?_
  refine xR_V (A := A) (A1 := A) (b := (SA 0)) (As := [.int x]) (rest := []) ⟨hx, hb, hml, hown, hts⟩ (mX2_textOf (A := A) hst ) (cwV 1 hts (gV tw_3_4 tw_3_6 sel_X2_textOf tw_1_1 tw_3_7) rfl rfl rfl (by decide +kernel) ⟨Nat.le_of_ble_eq_true rfl, Nat.le_of_ble_eq_true rfl⟩) hC hS (fun _ h => h) (fun q h => hA q (Nat.le_trans hS.1 h)) (hW.recv hK) hW rfl rfl hl.1 (Nat.le_of_ble_eq_true rfl) ⟨Nat.le_trans (show 0 + 1 ≤ 2 by omega) (Nat.le_of_ble_eq_true rfl), Nat.le_trans (show 0 + 6 ≤ 12 by omega) (Nat.le_of_ble_eq_true rfl)⟩ dX2_truth_2 hnx hlocks (by omega) (by omega) (fun E H9 q _ => ⟨Or.inl ⟨q.1, q.2.1⟩, _, _, q.2.2, hF⟩) (fun rv21 H21 L21 hP21 hk21 hS => ?_)
  have hZ21 := hS.1
  obtain ⟨⟨i, hi, hxi, hrv⟩, hW⟩ := hP21
  subst hrv
  have hO := hW.2.1
  have hR1 := hW.2.2.1
  have hR2 := hW.2.2.2.1
  have ei := hF i (Or.inl hi)
  refine lv_astore (lv' := [(4, .ref (SA (7 + 2 * i))), (0, .ref (SA 0)), (1, .int x), (2, .int (bI b)), (3, .int (bI b2))]) hx hb dX2_truth_5 hl (by decide) rfl (fun ls hl => ?_)
  refine lv_aload_n hx hb dX2_truth_7 rfl (lv_at hl 1 rfl) ?_
  refine va_get (D := G.1) (ci := 6) (C := RX2) (T := TX2) (N := 8) hx hb hts inX2 hown hK (at_P hO) 0 rfl rfl 5 (by decide) (hts _ tw_1_142) (fun _ h9 => h9) rfl dX2_truth_8 ?_
  refine qV_V (A := A) (A1 := ow (SA (7 + 2 * 12)) (SA (8 + 2 * 12)) H21.size) (b := (SA 31)) (As := []) (rest := []) ⟨hx, hb, hml, hown, hts⟩ (mX0_empty (A := ow (SA (7 + 2 * 12)) (SA (8 + 2 * 12)) H21.size) (ca := SA (8 + 2 * 12)) (hAa := Or.inl rfl)) (cwV 0 hts (gV tw_2_31 tw_2_32 tw_2_33 tw_1_2 tw_2_34) rfl rfl rfl (by decide +kernel) ⟨Nat.le_of_ble_eq_true rfl, Nat.le_of_ble_eq_true rfl⟩) hC hS (ow_in (hAS _ (by omega)) (hAS _ (by omega)) hA hS.1) ow_n ((hW.line (i := 12) (by omega)).recv hK) (hW.line (i := 12) (by omega)) rfl rfl hl.1 (Nat.le_of_ble_eq_true rfl) ⟨Nat.le_trans (show (0 + 1) ≤ 2 by omega) (Nat.le_of_ble_eq_true rfl), Nat.le_trans (show (0 + 6) ≤ 12 by omega) (Nat.le_of_ble_eq_true rfl)⟩ dX2_truth_11 (fun H22 L22 hP22 hk22 hS => ?_)
  have hZ22 := hS.1
  have hW := hW.put (q := 12) (t := []) (by omega) hk22 hP22
  have hO := hW.2.1
  have hR1 := hW.2.2.1
  have hR2 := hW.2.2.2.1
  refine lv_aload_n hx hb dX2_truth_14 rfl (lv_at hl 1 rfl) ?_
  refine va_get (D := G.1) (ci := 6) (C := RX2) (T := TX2) (N := 8) hx hb hts inX2 hown hK (at_P hO) 0 rfl rfl 5 (by decide) (hts _ tw_1_142) (fun _ h9 => h9) rfl dX2_truth_15 ?_
  refine lv_iload_n hx hb dX2_truth_18 rfl (lv_at hl 3 rfl) ?_
  refine f_eq (tgt := 27) hx hb dX2_truth_19 (by decide) (fun c_23 => ?_) (fun c_23 => ?_)
  · subst c_23
    refine va_ldcS hx hb hown (hC.2.2.2.2.1 ("Signtext", 113, "false", 8) (by unfold sRl; simp)) dX2_truth_27 ?_
    refine qV_V (A := A) (A1 := ow (SA (7 + 2 * 12)) (SA (8 + 2 * 12)) H22.size) (b := (SA 31)) (As := [.ref (G.2.2 (20 + 8))]) (rest := []) ⟨hx, hb, hml, hown, hts⟩ (mX0_addWord (A := ow (SA (7 + 2 * 12)) (SA (8 + 2 * 12)) H22.size) (ca := SA (8 + 2 * 12)) (t := []) (i := 8) (by decide) (Or.inl rfl) (Or.inr (Or.inl rfl))) (cwV 1 hts (gV tw_1_81 tw_1_82 tw_1_83 tw_1_2 tw_1_84) rfl rfl rfl (by decide +kernel) ⟨Nat.le_of_ble_eq_true rfl, Nat.le_of_ble_eq_true rfl⟩) hC hS (ow_in (hAS _ (by omega)) (hAS _ (by omega)) hA hS.1) ow_n ((hW.line (i := 12) (by omega)).recv hK) (by have h := hW.line (i := 12) (by omega); rw [updT_s] at h; exact h) rfl rfl hl.1 (Nat.le_of_ble_eq_true rfl) ⟨Nat.le_trans (show (0 + 1) ≤ 2 by omega) (Nat.le_of_ble_eq_true rfl), Nat.le_trans (show (0 + 6) ≤ 12 by omega) (Nat.le_of_ble_eq_true rfl)⟩ dX2_truth_29 (fun H24 L24 hP24 hk24 hS => ?_)
    have hZ24 := hS.1
    have hW := hW.put (q := 12) (t := stx 8) (by omega) hk24 hP24
    rw [updT_2] at hW
    have hO := hW.2.1
    have hR1 := hW.2.2.1
    have hR2 := hW.2.2.2.1
    refine lv_aload_n hx hb dX2_truth_32 rfl (lv_at hl 1 rfl) ?_
    refine lv_aload hx hb dX2_truth_33 (lv_at hl 0 rfl) ?_
    refine lv_iload_n hx hb dX2_truth_35 rfl (lv_at hl 4 rfl) ?_
    refine xI_V (A := A) (A1 := A) (b := (SA 0)) (As := [.ref (SA (7 + 2 * i)), .int (bI b2)]) (rest := []) ⟨hx, hb, hml, hown, hts⟩ (mX2_addMade (A := A) hst (i := i) (b := b2) hAS hi) (cwV 2 hts (gV tw_3_127 tw_3_129 sel_X2_addMade tw_1_1 tw_3_130) rfl rfl rfl (by decide +kernel) ⟨Nat.le_of_ble_eq_true rfl, Nat.le_of_ble_eq_true rfl⟩) hC hS (fun _ h => h) (fun q h => hA q (Nat.le_trans hS.1 h)) (hW.recv hK) hW rfl rfl hl.1 (Nat.le_of_ble_eq_true rfl) ⟨Nat.le_trans (show (0 + 1) + 1 ≤ 2 by omega) (Nat.le_of_ble_eq_true rfl), Nat.le_trans (show (0 + 6) + 6 ≤ 12 by omega) (Nat.le_of_ble_eq_true rfl)⟩ dX2_truth_36 hnx hlocks (by omega) (by omega) (fun E H9 q _ => ⟨Or.inr ⟨q.1, i, hi, hxi, by have h := q.2.1; rw [updT_s, updT_n (show i ≠ 12 by omega), ei] at h; exact h⟩, _, _, q.2.2, (FR.s12 hF)⟩) (fun rv25 H25 L25 hP25 hk25 hS => ?_)
    have hZ25 := hS.1
    rw [updT_s, updT_n (show i ≠ 12 by omega), ei] at hP25
    exact vx_ret (q_i hx hb hr hlocks dX2_truth_39 hS (by omega) (by omega) ⟨i, hi, hxi, hP25.2.1, hP25.1, _, _, hP25.2.2, (FR.up (FR.s13 (FR.s12 hF)))⟩)
  · subst c_23
    refine va_ldcS hx hb hown (hC.2.2.2.2.1 ("Signtext", 111, "true", 7) (by unfold sRl; simp)) dX2_truth_22 ?_
    refine lv_goto (tgt := 29) hx hb dX2_truth_24 (by decide) ?_
    refine qV_V (A := A) (A1 := ow (SA (7 + 2 * 12)) (SA (8 + 2 * 12)) H22.size) (b := (SA 31)) (As := [.ref (G.2.2 (20 + 7))]) (rest := []) ⟨hx, hb, hml, hown, hts⟩ (mX0_addWord (A := ow (SA (7 + 2 * 12)) (SA (8 + 2 * 12)) H22.size) (ca := SA (8 + 2 * 12)) (t := []) (i := 7) (by decide) (Or.inl rfl) (Or.inr (Or.inl rfl))) (cwV 1 hts (gV tw_1_81 tw_1_82 tw_1_83 tw_1_2 tw_1_84) rfl rfl rfl (by decide +kernel) ⟨Nat.le_of_ble_eq_true rfl, Nat.le_of_ble_eq_true rfl⟩) hC hS (ow_in (hAS _ (by omega)) (hAS _ (by omega)) hA hS.1) ow_n ((hW.line (i := 12) (by omega)).recv hK) (by have h := hW.line (i := 12) (by omega); rw [updT_s] at h; exact h) rfl rfl hl.1 (Nat.le_of_ble_eq_true rfl) ⟨Nat.le_trans (show (0 + 1) ≤ 2 by omega) (Nat.le_of_ble_eq_true rfl), Nat.le_trans (show (0 + 6) ≤ 12 by omega) (Nat.le_of_ble_eq_true rfl)⟩ dX2_truth_29 (fun H26 L26 hP26 hk26 hS => ?_)
    have hZ26 := hS.1
    have hW := hW.put (q := 12) (t := stx 7) (by omega) hk26 hP26
    rw [updT_2] at hW
    have hO := hW.2.1
    have hR1 := hW.2.2.1
    have hR2 := hW.2.2.2.1
    refine lv_aload_n hx hb dX2_truth_32 rfl (lv_at hl 1 rfl) ?_
    refine lv_aload hx hb dX2_truth_33 (lv_at hl 0 rfl) ?_
    refine lv_iload_n hx hb dX2_truth_35 rfl (lv_at hl 4 rfl) ?_
    refine xI_V (A := A) (A1 := A) (b := (SA 0)) (As := [.ref (SA (7 + 2 * i)), .int (bI b2)]) (rest := []) ⟨hx, hb, hml, hown, hts⟩ (mX2_addMade (A := A) hst (i := i) (b := b2) hAS hi) (cwV 2 hts (gV tw_3_127 tw_3_129 sel_X2_addMade tw_1_1 tw_3_130) rfl rfl rfl (by decide +kernel) ⟨Nat.le_of_ble_eq_true rfl, Nat.le_of_ble_eq_true rfl⟩) hC hS (fun _ h => h) (fun q h => hA q (Nat.le_trans hS.1 h)) (hW.recv hK) hW rfl rfl hl.1 (Nat.le_of_ble_eq_true rfl) ⟨Nat.le_trans (show (0 + 1) + 1 ≤ 2 by omega) (Nat.le_of_ble_eq_true rfl), Nat.le_trans (show (0 + 6) + 6 ≤ 12 by omega) (Nat.le_of_ble_eq_true rfl)⟩ dX2_truth_36 hnx hlocks (by omega) (by omega) (fun E H9 q _ => ⟨Or.inr ⟨q.1, i, hi, hxi, by have h := q.2.1; rw [updT_s, updT_n (show i ≠ 12 by omega), ei] at h; exact h⟩, _, _, q.2.2, (FR.s12 hF)⟩) (fun rv27 H27 L27 hP27 hk27 hS => ?_)
    have hZ27 := hS.1
    rw [updT_s, updT_n (show i ≠ 12 by omega), ei] at hP27
    exact vx_ret (q_i hx hb hr hlocks dX2_truth_39 hS (by omega) (by omega) ⟨i, hi, hxi, hP27.2.1, hP27.1, _, _, hP27.2.2, (FR.up (FR.s13 (FR.s12 hF)))⟩)

abbrev rmX2_put : Room := { frames := 8, cells := 7, slots := 42, locals := 132 }
theorem mX2_put {l : Launch} {G : Cx} {A : Nat → Prop} (hst : l.stackTraces = false) {SA : Nat → Nat} {X : Nat → List Nat} {es : List Nat} {k : Int32} {x a9 b9 c9 d9 e9 : Int32} (hAS : ∀ i : Nat, i < 39 → A (SA i)) : vx_Met l yX2_put (.code yX2_put cX2_put 8 (some .int) :: GW) rmX2_put (PC G A [.ref (SA 0), .int x, .int a9, .int b9, .int c9, .int d9, .int e9] (SS G SA X es k)) (qI A (fun r H => ∃ (i : Nat) (w : List Nat), i < 4 ∧ x = nI i ∧ comeS a9 b9 c9 d9 e9 w ∧ (X i ++ w).length ≤ 60 ∧ r = nI (X i ++ w).length ∧ SS G SA (updT X i (X i ++ w)) es k H)) (xE A (fun E H => ((E = "java/lang/IndexOutOfBoundsException" ∧ NT x) ∨ (E = "java/lang/IllegalArgumentException" ∧ (∃ i : Nat, i < 4 ∧ x = nI i) ∧ (badS a9 ∨ badS b9 ∨ badS c9 ∨ badS d9 ∨ badS e9)) ∨ (E = "java/lang/IllegalStateException" ∧ ∃ (i : Nat) (w : List Nat), i < 4 ∧ x = nI i ∧ comeS a9 b9 c9 d9 e9 w ∧ 60 < (X i ++ w).length)) ∧ SS G SA X es k H)) 7 42 A := by
  refine mstartX "Signtext" (by decide +kernel) rfl (Nat.le_of_ble_eq_true rfl) ?_
  intro p e s m below meth c ls hx hb hr hts hown hml hlocks hnx hC hA hW hl
  have hl : lv_has ls 8 [(0, .ref (SA 0)), (1, .int x), (2, .int a9), (3, .int b9), (4, .int c9), (5, .int d9), (6, .int e9)] := hl
  have hK := hC.1
  have hS : va_S A s.heap s.heap [] := va_S.rf
  obtain ⟨T, es2, hW, hF⟩ := hW
  have hO := hW.2.1
  have hR1 := hW.2.2.1
  have hR2 := hW.2.2.2.1
  refine lv_aload_n hx hb dX2_put_0 rfl (lv_at hl 0 rfl) ?_
  refine lv_iload_n hx hb dX2_put_1 rfl (lv_at hl 1 rfl) ?_
  refine xR_V (A := A) (A1 := A) (b := (SA 0)) (As := [.int x]) (rest := []) ⟨hx, hb, hml, hown, hts⟩ (mX2_textOf (A := A) hst ) (cwV 1 hts (gV tw_3_4 tw_3_6 sel_X2_textOf tw_1_1 tw_3_7) rfl rfl rfl (by decide +kernel) ⟨Nat.le_of_ble_eq_true rfl, Nat.le_of_ble_eq_true rfl⟩) hC hS (fun _ h => h) (fun q h => hA q (Nat.le_trans hS.1 h)) (hW.recv hK) hW rfl rfl hl.1 (Nat.le_of_ble_eq_true rfl) ⟨Nat.le_trans (show 0 + 1 ≤ 7 by omega) (Nat.le_of_ble_eq_true rfl), Nat.le_trans (show 0 + 6 ≤ 42 by omega) (Nat.le_of_ble_eq_true rfl)⟩ dX2_put_2 hnx hlocks (by omega) (by omega) (fun E H9 q _ => ⟨Or.inl ⟨q.1, q.2.1⟩, _, _, q.2.2, hF⟩) (fun rv28 H28 L28 hP28 hk28 hS => ?_)
  have hZ28 := hS.1
  obtain ⟨⟨i, hi, hxi, hrv⟩, hW⟩ := hP28
  subst hrv
  have hO := hW.2.1
  have hR1 := hW.2.2.1
  have hR2 := hW.2.2.2.1
  have ei := hF i (Or.inl hi)
  refine lv_astore (lv' := [(7, .ref (SA (7 + 2 * i))), (0, .ref (SA 0)), (1, .int x), (2, .int a9), (3, .int b9), (4, .int c9), (5, .int d9), (6, .int e9)]) hx hb dX2_put_5 hl (by decide) rfl (fun ls hl => ?_)
  refine lv_aload_n hx hb dX2_put_7 rfl (lv_at hl 1 rfl) ?_
  refine va_get (D := G.1) (ci := 6) (C := RX2) (T := TX2) (N := 8) hx hb hts inX2 hown hK (at_P hO) 0 rfl rfl 5 (by decide) (hts _ tw_1_142) (fun _ h9 => h9) rfl dX2_put_8 ?_
  refine qV_V (A := A) (A1 := ow (SA (7 + 2 * 12)) (SA (8 + 2 * 12)) H28.size) (b := (SA 31)) (As := []) (rest := []) ⟨hx, hb, hml, hown, hts⟩ (mX0_empty (A := ow (SA (7 + 2 * 12)) (SA (8 + 2 * 12)) H28.size) (ca := SA (8 + 2 * 12)) (hAa := Or.inl rfl)) (cwV 0 hts (gV tw_2_31 tw_2_32 tw_2_33 tw_1_2 tw_2_34) rfl rfl rfl (by decide +kernel) ⟨Nat.le_of_ble_eq_true rfl, Nat.le_of_ble_eq_true rfl⟩) hC hS (ow_in (hAS _ (by omega)) (hAS _ (by omega)) hA hS.1) ow_n ((hW.line (i := 12) (by omega)).recv hK) (hW.line (i := 12) (by omega)) rfl rfl hl.1 (Nat.le_of_ble_eq_true rfl) ⟨Nat.le_trans (show (0 + 1) ≤ 7 by omega) (Nat.le_of_ble_eq_true rfl), Nat.le_trans (show (0 + 6) ≤ 42 by omega) (Nat.le_of_ble_eq_true rfl)⟩ dX2_put_11 (fun H29 L29 hP29 hk29 hS => ?_)
  have hZ29 := hS.1
  have hW := hW.put (q := 12) (t := []) (by omega) hk29 hP29
  have hO := hW.2.1
  have hR1 := hW.2.2.1
  have hR2 := hW.2.2.2.1
  refine lv_aload_n hx hb dX2_put_14 rfl (lv_at hl 1 rfl) ?_
  refine lv_iload_n hx hb dX2_put_15 rfl (lv_at hl 3 rfl) ?_
  refine xV_V (A := A) (A1 := A) (b := (SA 0)) (As := [.int a9]) (rest := []) ⟨hx, hb, hml, hown, hts⟩ (mX2_addSignOrNone (A := A) hst hAS) (cwV 1 hts (gV tw_3_23 tw_3_25 sel_X2_addSignOrNone tw_1_1 tw_3_26) rfl rfl rfl (by decide +kernel) ⟨Nat.le_of_ble_eq_true rfl, Nat.le_of_ble_eq_true rfl⟩) hC hS (fun _ h => h) (fun q h => hA q (Nat.le_trans hS.1 h)) (hW.recv hK) hW rfl rfl hl.1 (Nat.le_of_ble_eq_true rfl) ⟨Nat.le_trans (show (0 + 1) + 1 ≤ 7 by omega) (Nat.le_of_ble_eq_true rfl), Nat.le_trans (show (0 + 6) + 6 ≤ 42 by omega) (Nat.le_of_ble_eq_true rfl)⟩ dX2_put_16 hnx hlocks (by omega) (by omega) (fun E H9 q _ => ⟨Or.inr (Or.inl ⟨q.1, ⟨i, hi, hxi⟩, Or.inl ⟨q.2.1, q.2.2.1⟩⟩), _, _, q.2.2.2, (FR.s12 hF)⟩) (fun H30 L30 hP30 hk30 hS => ?_)
  have hZ30 := hS.1
  obtain ⟨w1, q1, hW⟩ := hP30
  rw [updT_s] at q1
  rw [updT_2] at hW
  have hO := hW.2.1
  have hR1 := hW.2.2.1
  have hR2 := hW.2.2.2.1
  refine lv_aload_n hx hb dX2_put_19 rfl (lv_at hl 1 rfl) ?_
  refine lv_iload_n hx hb dX2_put_20 rfl (lv_at hl 4 rfl) ?_
  refine xV_V (A := A) (A1 := A) (b := (SA 0)) (As := [.int b9]) (rest := []) ⟨hx, hb, hml, hown, hts⟩ (mX2_addSignOrNone (A := A) hst hAS) (cwV 1 hts (gV tw_3_23 tw_3_25 sel_X2_addSignOrNone tw_1_1 tw_3_26) rfl rfl rfl (by decide +kernel) ⟨Nat.le_of_ble_eq_true rfl, Nat.le_of_ble_eq_true rfl⟩) hC hS (fun _ h => h) (fun q h => hA q (Nat.le_trans hS.1 h)) (hW.recv hK) hW rfl rfl hl.1 (Nat.le_of_ble_eq_true rfl) ⟨Nat.le_trans (show ((0 + 1) + 1) + 1 ≤ 7 by omega) (Nat.le_of_ble_eq_true rfl), Nat.le_trans (show ((0 + 6) + 6) + 6 ≤ 42 by omega) (Nat.le_of_ble_eq_true rfl)⟩ dX2_put_21 hnx hlocks (by omega) (by omega) (fun E H9 q _ => ⟨Or.inr (Or.inl ⟨q.1, ⟨i, hi, hxi⟩, Or.inr (Or.inl ⟨q.2.1, q.2.2.1⟩)⟩), _, _, q.2.2.2, (FR.s12 hF)⟩) (fun H31 L31 hP31 hk31 hS => ?_)
  have hZ31 := hS.1
  obtain ⟨w2, q2, hW⟩ := hP31
  rw [updT_s] at q2
  rw [updT_2] at hW
  have hO := hW.2.1
  have hR1 := hW.2.2.1
  have hR2 := hW.2.2.2.1
  refine lv_aload_n hx hb dX2_put_24 rfl (lv_at hl 1 rfl) ?_
  refine lv_iload hx hb dX2_put_25 (lv_at hl 5 rfl) ?_
  refine xV_V (A := A) (A1 := A) (b := (SA 0)) (As := [.int c9]) (rest := []) ⟨hx, hb, hml, hown, hts⟩ (mX2_addSignOrNone (A := A) hst hAS) (cwV 1 hts (gV tw_3_23 tw_3_25 sel_X2_addSignOrNone tw_1_1 tw_3_26) rfl rfl rfl (by decide +kernel) ⟨Nat.le_of_ble_eq_true rfl, Nat.le_of_ble_eq_true rfl⟩) hC hS (fun _ h => h) (fun q h => hA q (Nat.le_trans hS.1 h)) (hW.recv hK) hW rfl rfl hl.1 (Nat.le_of_ble_eq_true rfl) ⟨Nat.le_trans (show (((0 + 1) + 1) + 1) + 1 ≤ 7 by omega) (Nat.le_of_ble_eq_true rfl), Nat.le_trans (show (((0 + 6) + 6) + 6) + 6 ≤ 42 by omega) (Nat.le_of_ble_eq_true rfl)⟩ dX2_put_27 hnx hlocks (by omega) (by omega) (fun E H9 q _ => ⟨Or.inr (Or.inl ⟨q.1, ⟨i, hi, hxi⟩, Or.inr (Or.inr (Or.inl ⟨q.2.1, q.2.2.1⟩))⟩), _, _, q.2.2.2, (FR.s12 hF)⟩) (fun H32 L32 hP32 hk32 hS => ?_)
  have hZ32 := hS.1
  obtain ⟨w3, q3, hW⟩ := hP32
  rw [updT_s] at q3
  rw [updT_2] at hW
  have hO := hW.2.1
  have hR1 := hW.2.2.1
  have hR2 := hW.2.2.2.1
  refine lv_aload_n hx hb dX2_put_30 rfl (lv_at hl 1 rfl) ?_
  refine lv_iload hx hb dX2_put_31 (lv_at hl 6 rfl) ?_
  refine xV_V (A := A) (A1 := A) (b := (SA 0)) (As := [.int d9]) (rest := []) ⟨hx, hb, hml, hown, hts⟩ (mX2_addSignOrNone (A := A) hst hAS) (cwV 1 hts (gV tw_3_23 tw_3_25 sel_X2_addSignOrNone tw_1_1 tw_3_26) rfl rfl rfl (by decide +kernel) ⟨Nat.le_of_ble_eq_true rfl, Nat.le_of_ble_eq_true rfl⟩) hC hS (fun _ h => h) (fun q h => hA q (Nat.le_trans hS.1 h)) (hW.recv hK) hW rfl rfl hl.1 (Nat.le_of_ble_eq_true rfl) ⟨Nat.le_trans (show ((((0 + 1) + 1) + 1) + 1) + 1 ≤ 7 by omega) (Nat.le_of_ble_eq_true rfl), Nat.le_trans (show ((((0 + 6) + 6) + 6) + 6) + 6 ≤ 42 by omega) (Nat.le_of_ble_eq_true rfl)⟩ dX2_put_33 hnx hlocks (by omega) (by omega) (fun E H9 q _ => ⟨Or.inr (Or.inl ⟨q.1, ⟨i, hi, hxi⟩, Or.inr (Or.inr (Or.inr (Or.inl ⟨q.2.1, q.2.2.1⟩)))⟩), _, _, q.2.2.2, (FR.s12 hF)⟩) (fun H33 L33 hP33 hk33 hS => ?_)
  have hZ33 := hS.1
  obtain ⟨w4, q4, hW⟩ := hP33
  rw [updT_s] at q4
  rw [updT_2] at hW
  have hO := hW.2.1
  have hR1 := hW.2.2.1
  have hR2 := hW.2.2.2.1
  refine lv_aload_n hx hb dX2_put_36 rfl (lv_at hl 1 rfl) ?_
  refine lv_iload hx hb dX2_put_37 (lv_at hl 7 rfl) ?_
  refine xV_V (A := A) (A1 := A) (b := (SA 0)) (As := [.int e9]) (rest := []) ⟨hx, hb, hml, hown, hts⟩ (mX2_addSignOrNone (A := A) hst hAS) (cwV 1 hts (gV tw_3_23 tw_3_25 sel_X2_addSignOrNone tw_1_1 tw_3_26) rfl rfl rfl (by decide +kernel) ⟨Nat.le_of_ble_eq_true rfl, Nat.le_of_ble_eq_true rfl⟩) hC hS (fun _ h => h) (fun q h => hA q (Nat.le_trans hS.1 h)) (hW.recv hK) hW rfl rfl hl.1 (Nat.le_of_ble_eq_true rfl) ⟨Nat.le_trans (show (((((0 + 1) + 1) + 1) + 1) + 1) + 1 ≤ 7 by omega) (Nat.le_of_ble_eq_true rfl), Nat.le_trans (show (((((0 + 6) + 6) + 6) + 6) + 6) + 6 ≤ 42 by omega) (Nat.le_of_ble_eq_true rfl)⟩ dX2_put_39 hnx hlocks (by omega) (by omega) (fun E H9 q _ => ⟨Or.inr (Or.inl ⟨q.1, ⟨i, hi, hxi⟩, Or.inr (Or.inr (Or.inr (Or.inr (⟨q.2.1, q.2.2.1⟩))))⟩), _, _, q.2.2.2, (FR.s12 hF)⟩) (fun H34 L34 hP34 hk34 hS => ?_)
  have hZ34 := hS.1
  obtain ⟨w5, q5, hW⟩ := hP34
  rw [updT_s] at q5
  rw [updT_2] at hW
  have hO := hW.2.1
  have hR1 := hW.2.2.1
  have hR2 := hW.2.2.2.1
  refine lv_aload_n hx hb dX2_put_42 rfl (lv_at hl 1 rfl) ?_
  refine lv_aload hx hb dX2_put_43 (lv_at hl 0 rfl) ?_
  refine lv_aload_n hx hb dX2_put_45 rfl (lv_at hl 1 rfl) ?_
  refine va_get (D := G.1) (ci := 6) (C := RX2) (T := TX2) (N := 8) hx hb hts inX2 hown hK (at_P hO) 0 rfl rfl 5 (by decide) (hts _ tw_1_142) (fun _ h9 => h9) rfl dX2_put_46 ?_
  refine lv_aload hx hb dX2_put_49 (lv_at hl 0 rfl) ?_
  refine xI_V (A := A) (A1 := A) (b := (SA 0)) (As := [.ref (SA (7 + 2 * i)), .ref (SA 31), .ref (SA (7 + 2 * i))]) (rest := []) ⟨hx, hb, hml, hown, hts⟩ (mX2_joinInto (A := A) hst (i := i) (j := 12) (q := i) hAS (by omega) (by omega) (by omega) (by omega) (by omega)) (cwV 3 hts (gV tw_3_32 tw_3_34 sel_X2_joinInto tw_1_1 tw_3_35) rfl rfl rfl (by decide +kernel) ⟨Nat.le_of_ble_eq_true rfl, Nat.le_of_ble_eq_true rfl⟩) hC hS (fun _ h => h) (fun q h => hA q (Nat.le_trans hS.1 h)) (hW.recv hK) hW rfl rfl hl.1 (Nat.le_of_ble_eq_true rfl) ⟨Nat.le_trans (show ((((((0 + 1) + 1) + 1) + 1) + 1) + 1) + 1 ≤ 7 by omega) (Nat.le_of_ble_eq_true rfl), Nat.le_trans (show ((((((0 + 6) + 6) + 6) + 6) + 6) + 6) + 6 ≤ 42 by omega) (Nat.le_of_ble_eq_true rfl)⟩ dX2_put_51 hnx hlocks (by omega) (by omega) (fun E H9 q _ => ⟨Or.inr (Or.inr ⟨q.1, i, w5, hi, hxi, ⟨w1, w2, w3, w4, q1, q2, q3, q4, q5⟩, by have h := q.2.1; rw [updT_s, updT_n (show i ≠ 12 by omega), ei] at h; exact h⟩), _, _, q.2.2, (FR.s12 hF)⟩) (fun rv35 H35 L35 hP35 hk35 hS => ?_)
  have hZ35 := hS.1
  rw [updT_s, updT_n (show i ≠ 12 by omega), ei] at hP35
  exact vx_ret (q_i hx hb hr hlocks dX2_put_54 hS (by omega) (by omega) ⟨i, w5, hi, hxi, ⟨w1, w2, w3, w4, q1, q2, q3, q4, q5⟩, hP35.2.1, hP35.1, _, _, hP35.2.2, (FR.up (FR.s13 (FR.s12 hF)))⟩)

abbrev rmX2_times : Room := { frames := 7, cells := 4, slots := 24, locals := 110 }
theorem mX2_times {l : Launch} {G : Cx} {A : Nat → Prop} (hst : l.stackTraces = false) {SA : Nat → Nat} {X : Nat → List Nat} {es : List Nat} {k : Int32} {x m9 y : Int32} (hAS : ∀ i : Nat, i < 39 → A (SA i)) : vx_Met l yX2_times (.code yX2_times cX2_times 7 (some .int) :: GW) rmX2_times (PC G A [.ref (SA 0), .int x, .int m9, .int y] (SS G SA X es k)) (qI A (fun r H => ∃ i j b8 : Nat, i < 4 ∧ x = nI i ∧ j < 4 ∧ y = nI j ∧ b8 ≤ 60 ∧ m9 = nI b8 ∧ (repL (X i) b8).length ≤ 60 ∧ r = nI (repL (X i) b8).length ∧ SS G SA (updT X j (repL (X i) b8)) es k H)) (xE A (fun E H => ((E = "java/lang/IndexOutOfBoundsException" ∧ (NT x ∨ NT y)) ∨ (E = "java/lang/IllegalArgumentException" ∧ (∃ i : Nat, i < 4 ∧ x = nI i) ∧ (∃ j : Nat, j < 4 ∧ y = nI j) ∧ ¬ ∃ b8 : Nat, b8 ≤ 60 ∧ m9 = nI b8) ∨ (E = "java/lang/IllegalStateException" ∧ ∃ i j b8 : Nat, i < 4 ∧ x = nI i ∧ j < 4 ∧ y = nI j ∧ b8 ≤ 60 ∧ m9 = nI b8 ∧ 60 < (repL (X i) b8).length)) ∧ SS G SA X es k H)) 4 24 A := by
  refine mstartX "Signtext" (by decide +kernel) rfl (Nat.le_of_ble_eq_true rfl) ?_
  intro p e s m below meth c ls hx hb hr hts hown hml hlocks hnx hC hA hW hl
  have hl : lv_has ls 7 [(0, .ref (SA 0)), (1, .int x), (2, .int m9), (3, .int y)] := hl
  have hK := hC.1
  have hS : va_S A s.heap s.heap [] := va_S.rf
  obtain ⟨T, es2, hW, hF⟩ := hW
  have hO := hW.2.1
  have hR1 := hW.2.2.1
  have hR2 := hW.2.2.2.1
  refine lv_aload_n hx hb dX2_times_0 rfl (lv_at hl 0 rfl) ?_
  refine lv_iload_n hx hb dX2_times_1 rfl (lv_at hl 1 rfl) ?_
  refine xR_V (A := A) (A1 := A) (b := (SA 0)) (As := [.int x]) (rest := []) ⟨hx, hb, hml, hown, hts⟩ (mX2_textOf (A := A) hst ) (cwV 1 hts (gV tw_3_4 tw_3_6 sel_X2_textOf tw_1_1 tw_3_7) rfl rfl rfl (by decide +kernel) ⟨Nat.le_of_ble_eq_true rfl, Nat.le_of_ble_eq_true rfl⟩) hC hS (fun _ h => h) (fun q h => hA q (Nat.le_trans hS.1 h)) (hW.recv hK) hW rfl rfl hl.1 (Nat.le_of_ble_eq_true rfl) ⟨Nat.le_trans (show 0 + 1 ≤ 4 by omega) (Nat.le_of_ble_eq_true rfl), Nat.le_trans (show 0 + 6 ≤ 24 by omega) (Nat.le_of_ble_eq_true rfl)⟩ dX2_times_2 hnx hlocks (by omega) (by omega) (fun E H9 q _ => ⟨Or.inl ⟨q.1, Or.inl q.2.1⟩, _, _, q.2.2, hF⟩) (fun rv36 H36 L36 hP36 hk36 hS => ?_)
  have hZ36 := hS.1
  obtain ⟨⟨i, hi, hxi, hrv⟩, hW⟩ := hP36
  subst hrv
  have hO := hW.2.1
  have hR1 := hW.2.2.1
  have hR2 := hW.2.2.2.1
  have ei := hF i (Or.inl hi)
  refine lv_astore (lv' := [(4, .ref (SA (7 + 2 * i))), (0, .ref (SA 0)), (1, .int x), (2, .int m9), (3, .int y)]) hx hb dX2_times_5 hl (by decide) rfl (fun ls hl => ?_)
  refine lv_aload_n hx hb dX2_times_7 rfl (lv_at hl 1 rfl) ?_
  refine lv_iload_n hx hb dX2_times_8 rfl (lv_at hl 4 rfl) ?_
  refine xR_V (A := A) (A1 := A) (b := (SA 0)) (As := [.int y]) (rest := []) ⟨hx, hb, hml, hown, hts⟩ (mX2_textOf (A := A) hst ) (cwV 1 hts (gV tw_3_4 tw_3_6 sel_X2_textOf tw_1_1 tw_3_7) rfl rfl rfl (by decide +kernel) ⟨Nat.le_of_ble_eq_true rfl, Nat.le_of_ble_eq_true rfl⟩) hC hS (fun _ h => h) (fun q h => hA q (Nat.le_trans hS.1 h)) (hW.recv hK) hW rfl rfl hl.1 (Nat.le_of_ble_eq_true rfl) ⟨Nat.le_trans (show (0 + 1) + 1 ≤ 4 by omega) (Nat.le_of_ble_eq_true rfl), Nat.le_trans (show (0 + 6) + 6 ≤ 24 by omega) (Nat.le_of_ble_eq_true rfl)⟩ dX2_times_9 hnx hlocks (by omega) (by omega) (fun E H9 q _ => ⟨Or.inl ⟨q.1, Or.inr q.2.1⟩, _, _, q.2.2, hF⟩) (fun rv37 H37 L37 hP37 hk37 hS => ?_)
  have hZ37 := hS.1
  obtain ⟨⟨j, hj, hxj, hrv⟩, hW⟩ := hP37
  subst hrv
  have hO := hW.2.1
  have hR1 := hW.2.2.1
  have hR2 := hW.2.2.2.1
  have ej := hF j (Or.inl hj)
  refine lv_astore (lv' := [(5, .ref (SA (7 + 2 * j))), (4, .ref (SA (7 + 2 * i))), (0, .ref (SA 0)), (1, .int x), (2, .int m9), (3, .int y)]) hx hb dX2_times_12 hl (by decide) rfl (fun ls hl => ?_)
  refine lv_iload_n hx hb dX2_times_14 rfl (lv_at hl 4 rfl) ?_
  have i60 := (hW.line (i := i) (by omega)).1
  refine lv_if_lt (tgt := 24) hx hb dX2_times_15 (by decide) (fun c_38 => ?_) (fun c_38 => ?_)
  · exact t_new (nL := 7) (cls := "java/lang/IllegalArgumentException") (ik := 81) (ic := 83) hx hb hst hown hts hC hS hl.1 hml (by decide +kernel) tw_2_136 tw_1_17 tA83 tB83 tG83 hnx hlocks (Nat.le_of_ble_eq_true rfl) (Nat.le_of_ble_eq_true rfl) (Nat.le_trans (show ((0 + 1) + 1) + 1 ≤ 4 by omega) (Nat.le_of_ble_eq_true rfl)) (Nat.le_trans (show ((0 + 6) + 6) + 6 ≤ 24 by omega) (Nat.le_of_ble_eq_true rfl)) (by omega) (by omega) dX2_times_24 dX2_times_27 dX2_times_28 dX2_times_31 (fun H9 hk9 => ⟨Or.inr (Or.inl ⟨rfl, ⟨i, hi, hxi⟩, ⟨j, hj, hxj⟩, (fun ⟨b0, w1, w2⟩ => by rw [w2] at c_38; exact nI_pos (by omega) c_38)⟩), _, _, hW.nw hk9, hF⟩)
  · obtain ⟨b9, hb31, rfl⟩ := nI_of c_38
    refine lv_iload_n hx hb dX2_times_18 rfl (lv_at hl 4 rfl) ?_
    refine lv_bipush (v := nI 60) hx hb dX2_times_19 (by decide) ?_
    refine b_le (tgt := 32) hx hb dX2_times_21 (by decide) (by omega) (by omega) (fun c_39 => ?_) (fun c_39 => ?_)
    · refine lv_aload hx hb dX2_times_32 (lv_at hl 1 rfl) ?_
      refine kV_i (A := A) (b := (SA (7 + 2 * i))) (As := []) (rest := []) ⟨hx, hb, hml, hown, hts⟩ (mX0_size (A := A) (ca := SA (8 + 2 * i))) (cwV 0 hts (gV tw_2_30 tw_2_12 tw_2_13 tw_1_2 tw_2_14) rfl rfl rfl (by decide +kernel) ⟨Nat.le_of_ble_eq_true rfl, Nat.le_of_ble_eq_true rfl⟩) hC hS hA ((hW.line (i := i) (by omega)).recv hK) (hW.line (i := i) (by omega)) rfl rfl hl.1 (Nat.le_of_ble_eq_true rfl) ⟨Nat.le_trans (show ((0 + 1) + 1) ≤ 4 by omega) (Nat.le_of_ble_eq_true rfl), Nat.le_trans (show ((0 + 6) + 6) ≤ 24 by omega) (Nat.le_of_ble_eq_true rfl)⟩ dX2_times_34 (fun r9 h9 => lv_cv h9 ?_)
      refine lv_iload_n hx hb dX2_times_37 rfl (lv_at hl 4 rfl) ?_
      refine lv_imul hx hb dX2_times_38 ?_
      refine lv_cv (pk_mul ((T i).length) b9) ?_
      have hbd : (T i).length * b9 ≤ 60 * 60 := Nat.mul_le_mul i60 (by omega)
      have hrl0 := repL_len (T i) b9
      refine lv_cv (show _ = nI (repL (T i) b9).length by rw [repL_len]) ?_
      refine xV_S (A := A) (A1 := A)  (As := [.int (nI ((repL (T i) b9).length))]) (rest := []) ⟨hx, hb, hml, hown, hts⟩ (mX2_needRoom (A := A) hst (n := (repL (T i) b9).length) (by omega)) (va_cwS 1 hts (gS tw_3_36 tw_3_37 tw_1_1 tw_3_38) rfl rfl rfl (by decide +kernel) ⟨Nat.le_of_ble_eq_true rfl, Nat.le_of_ble_eq_true rfl⟩) hC hS (fun _ h => h) (fun q h => hA q (Nat.le_trans hS.1 h))  hW rfl rfl hl.1 (Nat.le_of_ble_eq_true rfl) ⟨Nat.le_trans (show ((0 + 1) + 1) + 1 ≤ 4 by omega) (Nat.le_of_ble_eq_true rfl), Nat.le_trans (show ((0 + 6) + 6) + 6 ≤ 24 by omega) (Nat.le_of_ble_eq_true rfl)⟩ dX2_times_39 hnx hlocks (by omega) (by omega) (fun E H9 q _ => ⟨Or.inr (Or.inr ⟨q.1, i, j, b9, hi, hxi, hj, hxj, by omega, rfl, by rw [← ei]; exact q.2.1⟩), _, _, q.2.2, hF⟩) (fun H40 L40 hP40 hk40 hS => ?_)
      have hZ40 := hS.1
      obtain ⟨h60, hW⟩ := hP40
      have hO := hW.2.1
      have hR1 := hW.2.2.1
      have hR2 := hW.2.2.2.1
      refine lv_aload_n hx hb dX2_times_42 rfl (lv_at hl 2 rfl) ?_
      refine va_get (D := G.1) (ci := 6) (C := RX2) (T := TX2) (N := 8) hx hb hts inX2 hown hK (at_P hO) 0 rfl rfl 6 (by decide) (hts _ tw_1_143) (fun _ h9 => h9) rfl dX2_times_43 ?_
      refine qV_V (A := A) (A1 := ow (SA (7 + 2 * 13)) (SA (8 + 2 * 13)) H40.size) (b := (SA 33)) (As := []) (rest := []) ⟨hx, hb, hml, hown, hts⟩ (mX0_empty (A := ow (SA (7 + 2 * 13)) (SA (8 + 2 * 13)) H40.size) (ca := SA (8 + 2 * 13)) (hAa := Or.inl rfl)) (cwV 0 hts (gV tw_2_31 tw_2_32 tw_2_33 tw_1_2 tw_2_34) rfl rfl rfl (by decide +kernel) ⟨Nat.le_of_ble_eq_true rfl, Nat.le_of_ble_eq_true rfl⟩) hC hS (ow_in (hAS _ (by omega)) (hAS _ (by omega)) hA hS.1) ow_n ((hW.line (i := 13) (by omega)).recv hK) (hW.line (i := 13) (by omega)) rfl rfl hl.1 (Nat.le_of_ble_eq_true rfl) ⟨Nat.le_trans (show (((0 + 1) + 1) + 1) ≤ 4 by omega) (Nat.le_of_ble_eq_true rfl), Nat.le_trans (show (((0 + 6) + 6) + 6) ≤ 24 by omega) (Nat.le_of_ble_eq_true rfl)⟩ dX2_times_46 (fun H41 L41 hP41 hk41 hS => ?_)
      have hZ41 := hS.1
      have hW := hW.put (q := 13) (t := []) (by omega) hk41 hP41
      have hO := hW.2.1
      have hR1 := hW.2.2.1
      have hR2 := hW.2.2.2.1
      refine lv_iconst (v := nI 0) hx hb dX2_times_49 (by decide) ?_
      refine lv_istore (lv' := [(6, .int (nI 0)), (5, .ref (SA (7 + 2 * j))), (4, .ref (SA (7 + 2 * i))), (0, .ref (SA 0)), (1, .int x), (2, .int (nI b9)), (3, .int y)]) hx hb dX2_times_50 hl (by decide) rfl (fun ls hl => ?_)
      refine nloop (P := fun j9 => ∀ (ls : Array Slot) (H : Heap) (L : List Loc), lv_has ls 7 [(6, .int (nI j9)), (5, .ref (SA (7 + 2 * j))), (4, .ref (SA (7 + 2 * i))), (0, .ref (SA 0)), (1, .int x), (2, .int (nI b9)), (3, .int y)] → va_S A s.heap H L → SW G SA (updT T 13 (repL (T i) j9)) es es2 k H → W p l e rmX2_times s m [.ref (SA 0), .int x, .int (nI b9), .int y].toArray below meth c H L (((0 + 1) + 1) + 1) (((0 + 6) + 6) + 6) (vx_MQ below (qI A (fun r H => ∃ i j b8 : Nat, i < 4 ∧ x = nI i ∧ j < 4 ∧ y = nI j ∧ b8 ≤ 60 ∧ (nI b9) = nI b8 ∧ (repL (X i) b8).length ≤ 60 ∧ r = nI (repL (X i) b8).length ∧ SS G SA (updT X j (repL (X i) b8)) es k H)) (xE A (fun E H => ((E = "java/lang/IndexOutOfBoundsException" ∧ (NT x ∨ NT y)) ∨ (E = "java/lang/IllegalArgumentException" ∧ (∃ i : Nat, i < 4 ∧ x = nI i) ∧ (∃ j : Nat, j < 4 ∧ y = nI j) ∧ ¬ ∃ b8 : Nat, b8 ≤ 60 ∧ (nI b9) = nI b8) ∨ (E = "java/lang/IllegalStateException" ∧ ∃ i j b8 : Nat, i < 4 ∧ x = nI i ∧ j < 4 ∧ y = nI j ∧ b8 ≤ 60 ∧ (nI b9) = nI b8 ∧ 60 < (repL (X i) b8).length)) ∧ SS G SA X es k H)) [.ref (SA 0), .int x, .int (nI b9), .int y].toArray s 4 24 A) (F0 m 52 ls [])) b9 ?_ 0 (Nat.zero_le _) ls H41 L41 hl hS hW
      clear hl
      intro j9 hj9 ih ls H L hl
      clear hS hW hO hR1 hR2
      intro hS hW
      have hO := hW.2.1
      have hR1 := hW.2.2.1
      have hR2 := hW.2.2.2.1
      refine lv_iload hx hb dX2_times_52 (lv_at hl 0 rfl) ?_
      refine lv_iload_n hx hb dX2_times_54 rfl (lv_at hl 5 rfl) ?_
      have e9 : updT T 13 (repL (T i) j9) i = T i := updT_n (by omega)
      refine b_ge (tgt := 73) hx hb dX2_times_55 (by decide) (by omega) (by omega) (fun c_42 => ?_) (fun c_42 => ?_)
      · obtain rfl : j9 = b9 := by omega
        refine lv_aload hx hb dX2_times_73 (lv_at hl 1 rfl) ?_
        refine lv_aload_n hx hb dX2_times_75 rfl (lv_at hl 3 rfl) ?_
        refine va_get (D := G.1) (ci := 6) (C := RX2) (T := TX2) (N := 8) hx hb hts inX2 hown hK (at_P hO) 0 rfl rfl 6 (by decide) (hts _ tw_1_143) (fun _ h9 => h9) rfl dX2_times_76 ?_
        have e3 : updT T 13 (repL (T i) j9) j = T j := updT_n (by omega)
        refine qV_V (A := A) (A1 := ow (SA (7 + 2 * j)) (SA (8 + 2 * j)) H.size) (b := (SA (7 + 2 * j))) (As := [.ref (SA 33)]) (rest := []) ⟨hx, hb, hml, hown, hts⟩ (mX0_become (A := ow (SA (7 + 2 * j)) (SA (8 + 2 * j)) H.size) (ca := SA (8 + 2 * j)) (cb := SA (8 + 2 * 13)) (t := T j) (u := repL (T i) j9) (Or.inl rfl) (Or.inr (Or.inl rfl)) ⟨hW.ne (i := 7 + 2 * 13) (j := 7 + 2 * j) (by omega) (by omega) (by omega), hW.ne (i := 7 + 2 * 13) (j := 8 + 2 * j) (by omega) (by omega) (by omega), hW.ne (i := 8 + 2 * 13) (j := 7 + 2 * j) (by omega) (by omega) (by omega), hW.ne (i := 8 + 2 * 13) (j := 8 + 2 * j) (by omega) (by omega) (by omega)⟩) (cwV 1 hts (gV tw_2_3 tw_2_4 tw_2_5 tw_1_2 tw_2_6) rfl rfl rfl (by decide +kernel) ⟨Nat.le_of_ble_eq_true rfl, Nat.le_of_ble_eq_true rfl⟩) hC hS (ow_in (hAS _ (by omega)) (hAS _ (by omega)) hA hS.1) ow_n ((hW.line (i := j) (by omega)).recv hK) ⟨by rw [← e3]; exact hW.line (i := j) (by omega), by have h := hW.line (i := 13) (by omega); rw [updT_s] at h; exact h⟩ rfl rfl hl.1 (Nat.le_of_ble_eq_true rfl) ⟨Nat.le_trans (show (((0 + 1) + 1) + 1) ≤ 4 by omega) (Nat.le_of_ble_eq_true rfl), Nat.le_trans (show (((0 + 6) + 6) + 6) ≤ 24 by omega) (Nat.le_of_ble_eq_true rfl)⟩ dX2_times_79 (fun H43 L43 hP43 hk43 hS => ?_)
        have hZ43 := hS.1
        have hW := hW.put (q := j) (t := repL (T i) j9) (by omega) hk43 hP43.1
        refine lv_aload hx hb dX2_times_82 (lv_at hl 1 rfl) ?_
        have hLq := hW.line (i := j) (by omega)
        rw [updT_s] at hLq
        refine kV_i (A := A) (b := (SA (7 + 2 * j))) (As := []) (rest := []) ⟨hx, hb, hml, hown, hts⟩ (mX0_size (A := A) (ca := SA (8 + 2 * j))) (cwV 0 hts (gV tw_2_30 tw_2_12 tw_2_13 tw_1_2 tw_2_14) rfl rfl rfl (by decide +kernel) ⟨Nat.le_of_ble_eq_true rfl, Nat.le_of_ble_eq_true rfl⟩) hC hS hA (hLq.recv hK) hLq rfl rfl hl.1 (Nat.le_of_ble_eq_true rfl) ⟨Nat.le_trans (show (((0 + 1) + 1) + 1) ≤ 4 by omega) (Nat.le_of_ble_eq_true rfl), Nat.le_trans (show (((0 + 6) + 6) + 6) ≤ 24 by omega) (Nat.le_of_ble_eq_true rfl)⟩ dX2_times_84 (fun r9 h9 => lv_cv h9 ?_)
        rw [ei] at hW h60 ⊢
        exact vx_ret (q_i hx hb hr hlocks dX2_times_87 hS (by omega) (by omega) ⟨i, j, j9, hi, hxi, hj, hxj, by omega, rfl, h60, rfl, _, _, hW, (FR.up (FR.s13 hF))⟩)
      · refine lv_aload_n hx hb dX2_times_58 rfl (lv_at hl 3 rfl) ?_
        refine va_get (D := G.1) (ci := 6) (C := RX2) (T := TX2) (N := 8) hx hb hts inX2 hown hK (at_P hO) 0 rfl rfl 6 (by decide) (hts _ tw_1_143) (fun _ h9 => h9) rfl dX2_times_59 ?_
        refine lv_aload hx hb dX2_times_62 (lv_at hl 2 rfl) ?_
        have hrl : (repL (T i) (j9 + 1)).length ≤ 60 := by rw [repL_len]; rw [repL_len] at h60; exact Nat.le_trans (Nat.mul_le_mul (Nat.le_refl _) (by omega)) h60
        refine qV_V (A := A) (A1 := ow (SA (7 + 2 * 13)) (SA (8 + 2 * 13)) H.size) (b := (SA 33)) (As := [.ref (SA (7 + 2 * i))]) (rest := []) ⟨hx, hb, hml, hown, hts⟩ (mX0_addAll (A := ow (SA (7 + 2 * 13)) (SA (8 + 2 * 13)) H.size) (ca := SA (8 + 2 * 13)) (cb := SA (8 + 2 * i)) (t := repL (T i) j9) (u := T i) (Or.inl rfl) (Or.inr (Or.inl rfl)) ⟨hW.ne (i := 7 + 2 * i) (j := 7 + 2 * 13) (by omega) (by omega) (by omega), hW.ne (i := 7 + 2 * i) (j := 8 + 2 * 13) (by omega) (by omega) (by omega), hW.ne (i := 8 + 2 * i) (j := 7 + 2 * 13) (by omega) (by omega) (by omega), hW.ne (i := 8 + 2 * i) (j := 8 + 2 * 13) (by omega) (by omega) (by omega)⟩) (cwV 1 hts (gV tw_3_54 tw_3_55 tw_3_56 tw_1_2 tw_3_57) rfl rfl rfl (by decide +kernel) ⟨Nat.le_of_ble_eq_true rfl, Nat.le_of_ble_eq_true rfl⟩) hC hS (ow_in (hAS _ (by omega)) (hAS _ (by omega)) hA hS.1) ow_n ((hW.line (i := 13) (by omega)).recv hK) ⟨by have h := hW.line (i := 13) (by omega); rw [updT_s] at h; exact h, by rw [← e9]; exact hW.line (i := i) (by omega)⟩ rfl rfl hl.1 (Nat.le_of_ble_eq_true rfl) ⟨Nat.le_trans (show (((0 + 1) + 1) + 1) ≤ 4 by omega) (Nat.le_of_ble_eq_true rfl), Nat.le_trans (show (((0 + 6) + 6) + 6) ≤ 24 by omega) (Nat.le_of_ble_eq_true rfl)⟩ dX2_times_64 (fun H44 L44 hP44 hk44 hS => ?_)
        have hZ44 := hS.1
        have hW := hW.put (q := 13) (t := repL (T i) (j9 + 1)) (by omega) hk44 (by have h := hP44.1; rw [List.take_of_length_le (show (repL (T i) j9 ++ T i).length ≤ 60 from hrl)] at h; exact h)
        rw [updT_2] at hW
        refine lv_iinc (v := nI (j9 + 1)) (lv' := [(6, .int (nI (j9 + 1))), (5, .ref (SA (7 + 2 * j))), (4, .ref (SA (7 + 2 * i))), (0, .ref (SA 0)), (1, .int x), (2, .int (nI b9)), (3, .int y)]) hx hb dX2_times_67 hl (k := 0) rfl (nI_add j9 1) (by decide) rfl (fun ls hl => ?_)
        refine lv_goto (tgt := 52) hx hb dX2_times_70 (by decide) ?_
        exact ih (j9 + 1) (by omega) (by omega) ls H44 L44 (lv_sub hl [0, 1, 2, 3, 4, 5, 6] rfl) hS hW
    · exact t_new (nL := 7) (cls := "java/lang/IllegalArgumentException") (ik := 81) (ic := 83) hx hb hst hown hts hC hS hl.1 hml (by decide +kernel) tw_2_136 tw_1_17 tA83 tB83 tG83 hnx hlocks (Nat.le_of_ble_eq_true rfl) (Nat.le_of_ble_eq_true rfl) (Nat.le_trans (show ((0 + 1) + 1) + 1 ≤ 4 by omega) (Nat.le_of_ble_eq_true rfl)) (Nat.le_trans (show ((0 + 6) + 6) + 6 ≤ 24 by omega) (Nat.le_of_ble_eq_true rfl)) (by omega) (by omega) dX2_times_24 dX2_times_27 dX2_times_28 dX2_times_31 (fun H9 hk9 => ⟨Or.inr (Or.inl ⟨rfl, ⟨i, hi, hxi⟩, ⟨j, hj, hxj⟩, (fun ⟨b0, w1, w2⟩ => by have := (nI_eq (by omega) (by omega)).mp w2; omega)⟩), _, _, hW.nw hk9, hF⟩)
end
section
theorem zz_end : True := trivial
end
