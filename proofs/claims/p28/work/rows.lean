section
-- ===== PART A: goes FIRST, ahead of the names: the tables' words, and 'selects' of the private methods out of them =====
/-- a private method of a class that the tables say can be made, by its rows of tables_1 -/
def lw_okq (q : MethodName × Nat) : Prop := (q.1.cls ≠ "java/lang/invoke/MethodHandle" ∧ q.1.cls ≠ "java/lang/invoke/VarHandle") ∧ Cond.instantiable q.1.cls q.2 ∈ tables_1 ∧ Cond.privateMethod q.1 ∈ tables_1 ∧ Cond.instanceMethod q.1 ∈ tables_1
theorem lw_p0 : lw_okq (⟨"SkateSheet", "needSheet", "(II)V"⟩, 9) := ⟨⟨by decide +kernel, by decide +kernel⟩, List.mem_of_getElem? (i := 28) (by decide +kernel), List.mem_of_getElem? (i := 26) (by decide +kernel), List.mem_of_getElem? (i := 27) (by decide +kernel)⟩
theorem lw_p1 : lw_okq (⟨"java/lang/Throwable", "fillInStackTrace", "(I)Ljava/lang/Throwable;"⟩, 6) := ⟨⟨by decide +kernel, by decide +kernel⟩, List.mem_of_getElem? (i := 83) (by decide +kernel), List.mem_of_getElem? (i := 81) (by decide +kernel), List.mem_of_getElem? (i := 82) (by decide +kernel)⟩
theorem lw_p2 : lw_okq (⟨"SkateSheet$Score", "countMarksOf", "(ILSkateSheet$Sheets;)V"⟩, 11) := ⟨⟨by decide +kernel, by decide +kernel⟩, List.mem_of_getElem? (i := 146) (by decide +kernel), List.mem_of_getElem? (i := 144) (by decide +kernel), List.mem_of_getElem? (i := 145) (by decide +kernel)⟩
theorem lw_p3 : lw_okq (⟨"SkateSheet$Score", "placeInDance", "(ILSkateSheet$Sheets;)V"⟩, 11) := ⟨⟨by decide +kernel, by decide +kernel⟩, List.mem_of_getElem? (i := 146) (by decide +kernel), List.mem_of_getElem? (i := 166) (by decide +kernel), List.mem_of_getElem? (i := 167) (by decide +kernel)⟩
theorem lw_p4 : lw_okq (⟨"SkateSheet$Score", "turnOf", "(IIZ)I"⟩, 11) := ⟨⟨by decide +kernel, by decide +kernel⟩, List.mem_of_getElem? (i := 146) (by decide +kernel), List.mem_of_getElem? (i := 185) (by decide +kernel), List.mem_of_getElem? (i := 186) (by decide +kernel)⟩
theorem lw_p5 : lw_okq (⟨"SkateSheet$Score", "compareInDance", "(III)I"⟩, 11) := ⟨⟨by decide +kernel, by decide +kernel⟩, List.mem_of_getElem? (i := 146) (by decide +kernel), List.mem_of_getElem? (i := 198) (by decide +kernel), List.mem_of_getElem? (i := 199) (by decide +kernel)⟩
theorem lw_p6 : lw_okq (⟨"SkateSheet$Score", "reasonAmongCandidates", "(II)I"⟩, 11) := ⟨⟨by decide +kernel, by decide +kernel⟩, List.mem_of_getElem? (i := 146) (by decide +kernel), List.mem_of_getElem? (i := 210) (by decide +kernel), List.mem_of_getElem? (i := 211) (by decide +kernel)⟩
theorem lw_p7 : lw_okq (⟨"SkateSheet$Score", "addPlaces", "()V"⟩, 11) := ⟨⟨by decide +kernel, by decide +kernel⟩, List.mem_of_getElem? (i := 146) (by decide +kernel), List.mem_of_getElem? (i := 221) (by decide +kernel), List.mem_of_getElem? (i := 222) (by decide +kernel)⟩
theorem lw_p8 : lw_okq (⟨"SkateSheet$Score", "placeOverAll", "()V"⟩, 11) := ⟨⟨by decide +kernel, by decide +kernel⟩, List.mem_of_getElem? (i := 146) (by decide +kernel), List.mem_of_getElem? (i := 226) (by decide +kernel), List.mem_of_getElem? (i := 227) (by decide +kernel)⟩
theorem lw_p9 : lw_okq (⟨"SkateSheet$Score", "bestByTotal", "(I)I"⟩, 11) := ⟨⟨by decide +kernel, by decide +kernel⟩, List.mem_of_getElem? (i := 146) (by decide +kernel), List.mem_of_getElem? (i := 230) (by decide +kernel), List.mem_of_getElem? (i := 231) (by decide +kernel)⟩
theorem lw_p10 : lw_okq (⟨"SkateSheet$Score", "heaviest", "(I)I"⟩, 11) := ⟨⟨by decide +kernel, by decide +kernel⟩, List.mem_of_getElem? (i := 146) (by decide +kernel), List.mem_of_getElem? (i := 234) (by decide +kernel), List.mem_of_getElem? (i := 235) (by decide +kernel)⟩
theorem lw_p11 : lw_okq (⟨"SkateSheet$Score", "bestByPlaces", "(II)I"⟩, 11) := ⟨⟨by decide +kernel, by decide +kernel⟩, List.mem_of_getElem? (i := 146) (by decide +kernel), List.mem_of_getElem? (i := 244) (by decide +kernel), List.mem_of_getElem? (i := 245) (by decide +kernel)⟩
theorem lw_p12 : lw_okq (⟨"SkateSheet$Score", "bestByMarks", "(II)I"⟩, 11) := ⟨⟨by decide +kernel, by decide +kernel⟩, List.mem_of_getElem? (i := 146) (by decide +kernel), List.mem_of_getElem? (i := 248) (by decide +kernel), List.mem_of_getElem? (i := 249) (by decide +kernel)⟩
theorem lw_p13 : lw_okq (⟨"SkateSheet$Score", "takePlaces", "(III)V"⟩, 11) := ⟨⟨by decide +kernel, by decide +kernel⟩, List.mem_of_getElem? (i := 146) (by decide +kernel), List.mem_of_getElem? (i := 252) (by decide +kernel), List.mem_of_getElem? (i := 253) (by decide +kernel)⟩
theorem lw_p14 : lw_okq (⟨"SkateSheet", "needInFinal", "(I)V"⟩, 9) := ⟨⟨by decide +kernel, by decide +kernel⟩, List.mem_of_getElem? (i := 28) (by decide +kernel), List.mem_of_getElem? (i := 265) (by decide +kernel), List.mem_of_getElem? (i := 266) (by decide +kernel)⟩
theorem lw_p15 : lw_okq (⟨"SkateSheet", "tryExchange", "(IIII)V"⟩, 9) := ⟨⟨by decide +kernel, by decide +kernel⟩, List.mem_of_getElem? (i := 28) (by decide +kernel), List.mem_of_getElem? (i := 297) (by decide +kernel), List.mem_of_getElem? (i := 298) (by decide +kernel)⟩
def lw_privs_1 : List (MethodName × Nat) := [(⟨"SkateSheet", "needSheet", "(II)V"⟩, 9), (⟨"java/lang/Throwable", "fillInStackTrace", "(I)Ljava/lang/Throwable;"⟩, 6), (⟨"SkateSheet$Score", "countMarksOf", "(ILSkateSheet$Sheets;)V"⟩, 11), (⟨"SkateSheet$Score", "placeInDance", "(ILSkateSheet$Sheets;)V"⟩, 11), (⟨"SkateSheet$Score", "turnOf", "(IIZ)I"⟩, 11), (⟨"SkateSheet$Score", "compareInDance", "(III)I"⟩, 11), (⟨"SkateSheet$Score", "reasonAmongCandidates", "(II)I"⟩, 11), (⟨"SkateSheet$Score", "addPlaces", "()V"⟩, 11), (⟨"SkateSheet$Score", "placeOverAll", "()V"⟩, 11), (⟨"SkateSheet$Score", "bestByTotal", "(I)I"⟩, 11), (⟨"SkateSheet$Score", "heaviest", "(I)I"⟩, 11), (⟨"SkateSheet$Score", "bestByPlaces", "(II)I"⟩, 11), (⟨"SkateSheet$Score", "bestByMarks", "(II)I"⟩, 11), (⟨"SkateSheet$Score", "takePlaces", "(III)V"⟩, 11), (⟨"SkateSheet", "needInFinal", "(I)V"⟩, 9), (⟨"SkateSheet", "tryExchange", "(IIII)V"⟩, 9)]
theorem lw_r1 : ∀ q ∈ lw_privs_1, lw_okq q := List.forall_mem_cons.mpr ⟨lw_p0, List.forall_mem_cons.mpr ⟨lw_p1, List.forall_mem_cons.mpr ⟨lw_p2, List.forall_mem_cons.mpr ⟨lw_p3, List.forall_mem_cons.mpr ⟨lw_p4, List.forall_mem_cons.mpr ⟨lw_p5, List.forall_mem_cons.mpr ⟨lw_p6, List.forall_mem_cons.mpr ⟨lw_p7, List.forall_mem_cons.mpr ⟨lw_p8, List.forall_mem_cons.mpr ⟨lw_p9, List.forall_mem_cons.mpr ⟨lw_p10, List.forall_mem_cons.mpr ⟨lw_p11, List.forall_mem_cons.mpr ⟨lw_p12, List.forall_mem_cons.mpr ⟨lw_p13, List.forall_mem_cons.mpr ⟨lw_p14, List.forall_mem_cons.mpr ⟨lw_p15, fun _ h => absurd h List.not_mem_nil⟩⟩⟩⟩⟩⟩⟩⟩⟩⟩⟩⟩⟩⟩⟩⟩
theorem lw_p16 : lw_okq (⟨"SkateSheet", "digestCouple", "(JI)J"⟩, 9) := ⟨⟨by decide +kernel, by decide +kernel⟩, List.mem_of_getElem? (i := 28) (by decide +kernel), List.mem_of_getElem? (i := 348) (by decide +kernel), List.mem_of_getElem? (i := 349) (by decide +kernel)⟩
theorem lw_p17 : lw_okq (⟨"SkateSheet", "needCouple", "(I)V"⟩, 9) := ⟨⟨by decide +kernel, by decide +kernel⟩, List.mem_of_getElem? (i := 28) (by decide +kernel), List.mem_of_getElem? (i := 356) (by decide +kernel), List.mem_of_getElem? (i := 357) (by decide +kernel)⟩
theorem lw_p18 : lw_okq (⟨"SkateSheet", "digestFinalist", "(JI)J"⟩, 9) := ⟨⟨by decide +kernel, by decide +kernel⟩, List.mem_of_getElem? (i := 28) (by decide +kernel), List.mem_of_getElem? (i := 382) (by decide +kernel), List.mem_of_getElem? (i := 383) (by decide +kernel)⟩
theorem lw_p19 : lw_okq (⟨"SkateSheet", "needDance", "(I)V"⟩, 9) := ⟨⟨by decide +kernel, by decide +kernel⟩, List.mem_of_getElem? (i := 28) (by decide +kernel), List.mem_of_getElem? (i := 391) (by decide +kernel), List.mem_of_getElem? (i := 392) (by decide +kernel)⟩
def lw_privs_2 : List (MethodName × Nat) := [(⟨"SkateSheet", "digestCouple", "(JI)J"⟩, 9), (⟨"SkateSheet", "needCouple", "(I)V"⟩, 9), (⟨"SkateSheet", "digestFinalist", "(JI)J"⟩, 9), (⟨"SkateSheet", "needDance", "(I)V"⟩, 9)]
theorem lw_r2 : ∀ q ∈ lw_privs_2, lw_okq q := List.forall_mem_cons.mpr ⟨lw_p16, List.forall_mem_cons.mpr ⟨lw_p17, List.forall_mem_cons.mpr ⟨lw_p18, List.forall_mem_cons.mpr ⟨lw_p19, fun _ h => absurd h List.not_mem_nil⟩⟩⟩⟩
def lw_privs : List (MethodName × Nat) := lw_privs_1 ++ (lw_privs_2)
def lw_tbl : List Cond := k2_sels lw_privs ++ tables_1
theorem lw_privs_ok : ∀ q ∈ lw_privs, lw_okq q := by
  show ∀ q ∈ lw_privs_1 ++ (lw_privs_2), lw_okq q
  exact List.forall_mem_append.mpr ⟨lw_r1, lw_r2⟩
end
section
/-! ===== BEGIN words of one list among another's, by their places ===== -/
theorem goodIn_r {big : List Cond} (ws : List Cond) (ps : List Nat) (hp : ws = ps.filterMap (fun i => big[i]?)) (h : ws.all goodWord = true) : GoodIn big ws := by
  intro w hw
  have h1 := List.all_eq_true.mp h w hw
  rw [hp] at hw
  obtain ⟨i, -, hi⟩ := List.mem_filterMap.mp hw
  have hm : w ∈ big := by first | exact List.mem_of_getElem? hi | exact List.getElem?_mem hi
  exact ⟨hm, good_of_word h1⟩
theorem goodIn_app {big a b : List Cond} (ha : GoodIn big a) (hb : GoodIn big b) : GoodIn big (a ++ b) := fun w h => (List.mem_append.mp h).elim (ha w) (hb w)
theorem goodIn_ca {big a b : List Cond} {c : Cond} (ha : GoodIn big (c :: a)) (hb : GoodIn big b) : GoodIn big (c :: (a ++ b)) := fun w h => (List.mem_cons.mp h).elim (fun e => ha w (List.mem_cons.mpr (Or.inl e))) (fun h => (List.mem_append.mp h).elim (fun h => ha w (List.mem_cons.mpr (Or.inr h))) (hb w))
theorem goodIn_sub {big ws : List Cond} (hm : ∀ w ∈ ws, w ∈ big) (h : ws.all goodWord = true) : GoodIn big ws := fun w hw => ⟨hm w hw, good_of_word (List.all_eq_true.mp h w hw)⟩
/-! ===== END ===== -/

/-! ===== BEGIN new T[n][m]: the outer array a place, the inner ones among the pooled ===== -/
/-- f, but v at every address of l -/
def vr_up {α : Type} (f : Nat → α) (l : List Nat) (v : α) : Nat → α := fun a => if a ∈ l then v else f a
theorem vr_up_in {α : Type} {f : Nat → α} {l : List Nat} {v : α} {a : Nat} (h : a ∈ l) : vr_up f l v a = v := if_pos h
theorem vr_up_ne {α : Type} {f : Nat → α} {l : List Nat} {v : α} {a : Nat} (h : a ∉ l) : vr_up f l v a = f a := if_neg h
theorem vr_rows {L l : List Nat} {f : Nat → va_E} {e : va_E} (h : ∀ a, a ∈ l → a ∉ L) : va_pl L f ++ l.map (fun a => (a, e)) = va_pl (L ++ l) (vr_up f l e) := by
  unfold va_pl
  rw [List.map_append]
  congr 1
  · apply List.map_congr_left
    intro a ha
    rw [vr_up_ne (fun q => h a q ha)]
  · apply List.map_congr_left
    intro a ha
    rw [vr_up_in ha]
theorem vr_lay {X rows : va_W} {x : Nat × va_E} {pl : va_W} {D : va_G} {cl : List vw_C} {H : Heap} (hP : va_P D cl (((X ++ pl) ++ [x]) ++ rows) H) : va_P D cl ((X ++ [x]) ++ (pl ++ rows)) H := by
  rw [List.append_assoc (X ++ pl)] at hP
  have h := va_P.swap hP
  rw [← List.append_assoc X] at h
  have h2 := va_P.swap h
  rw [List.append_assoc (X ++ [x])] at h2
  exact h2
theorem vr_layD {X rows : va_W} {x : Nat × va_E} {pl : va_W} {A : Nat → Prop} (hD : va_D A (((X ++ pl) ++ [x]) ++ rows)) : va_D A ((X ++ [x]) ++ (pl ++ rows)) := by
  rw [List.append_assoc (X ++ pl)] at hD
  have h := va_D.swap hD
  rw [← List.append_assoc X] at h
  have h2 := va_D.swap h
  rw [List.append_assoc (X ++ [x])] at h2
  exact h2
theorem vr_outer (c : ClassId) (N h0 : Nat) : ∀ i : Nat, Jvm.Free.Multi.outerC c N h0 i = arrV c N (fun j => va_rf (if j < i then some (h0 + 1 + j) else none))
  | 0 => by
    show ({ cls := c, slots := Array.replicate N .null, vm := .none } : Cell) = _
    rw [arrV_new]
    refine congrArg (arrV c N) (funext fun j => ?_)
    simp [va_rf]
  | i + 1 => by
    show (Jvm.Free.Multi.outerC c N h0 i).setSlot i (.ref (h0 + 1 + i)) = _
    rw [vr_outer c N h0 i, arrV_store]
    refine congrArg (arrV c N) (funext fun j => ?_)
    by_cases e : j = i
    · subst e
      simp [updV, va_rf]
    · by_cases h : j < i
      · simp [updV, e, h, Nat.lt_succ_of_lt h]
      · simp [updV, e, h, show ¬ j < i + 1 by omega]
section VGM
variable {p : Program} {l : Launch} {e : Env} {R : Room} {s : State} {m : MethodId} {args : Array Value} {below : List Frame} {meth : Method} {c : Code} {H : Heap} {locs : List Loc} {cells slots : Nat} {Q : State → Prop}
variable {cc : ByteArray} {pc : Nat} {ls : Array Slot} {rest : List Value} {D : va_G} {cl : List vw_C} {A : Nat → Prop} {a : Nat} {tys : List (ClassId × FieldType)} {ws : va_W} {H0 : Heap}
end VGM
/-! ===== END ===== -/

/-! ===== BEGIN exceptions that leave a method, and their catching by the caller (launches without stack traces) ===== -/
section VXA
/-! The laws vx_back, vx_callV, vx_callS, vx_callSW, vx_throw0, vx_throwS follow proofs of the library, with one case more: JvmDerived/Free/Laws.lean (Back.of_free), Shelf42/LK1.lean (callV, callS), Shelf/KitTraced.lean (throwNew0V, throwNewS). -/
/-- where a method has thrown q: the class by its name, the cell, what was written, the world -/
def vx_T (XC : String → State → State → Prop) (st : State) (q : Addr) (t : State) (mc ms : Nat) (free : Addr → Prop) : Prop :=
  ∃ (E : String) (ce : Cell) (L : List Loc), XC E st t ∧ t.heap[q]? = some ce ∧ ce.vm = .none ∧ st.vm.findClass E = some ce.cls ∧ st.WarmedH t.vm ∧ st.sameButNew ({ t with vm := st.vm } : State) L mc ms ∧ ∀ z ∈ L, free z.base
def vx_Q (Qc : Array Value → State → Outcome → State → Prop) (XC : String → State → State → Prop) (mc ms : Nat) (free : Addr → Prop) : Array Value → State → Outcome → State → Prop := fun a st o t =>
  (Qc a st o t ∧ ∃ L, FrameEnd st o t L mc ms ∧ ∀ q ∈ L, free q.base) ∨ ∃ q, o = .threw q ∧ vx_T XC st q t mc ms free
/-- a callee that returns or throws -/
def vx_Met (l : Launch) (y : MethodName) (ws : List Cond) (rm : Room) (Pc : Array Value → State → Prop) (Qc : Array Value → State → Outcome → State → Prop) (XC : String → State → State → Prop) (mc ms : Nat) (free : Addr → Prop) : Prop :=
  MetFree l y (headSpec ws rm) Pc (fun _ _ _ _ _ => True) (vx_Q Qc XC mc ms free)
def vx_Post (XC : String → State → State → Prop) (mc ms : Nat) (free : Addr → Prop) : Pt → Array Value → Addr → Pt → Prop := fun A a q B =>
  ∃ (g : JFrame) (mk : MethodId) (t : State) (L : List Loc) (E : String) (ce : Cell), B.U.heap = t.heap ∧ B.U.vm = t.vm ∧ XC E (A.U.calling g mk a) t ∧ t.heap[q]? = some ce ∧ ce.vm = .none ∧ A.U.vm.findClass E = some ce.cls ∧ B.locs = A.locs ++ L ∧ (∀ z ∈ L, free z.base) ∧ B.cells = A.cells + mc ∧ B.slots = A.slots + ms
def vx_Back (l : Launch) (R : Room) (p : Program) (e : Env) (below : List Frame) (s : State) (sargs : Array Value) (y : MethodName) (len W9 : Nat)
    (Pre : Pt → Array Value → Prop) (Post : Pt → Array Value → Option Value → Pt → Prop) (PostX : Pt → Array Value → Addr → Pt → Prop) : Prop :=
  ∀ (m : MethodId) (meth : Method) (c : Code) (A : Pt) (g : JFrame) (ig : Instr) (mk : MethodId) (a : Array Value),
    Stand p l e R s m sargs below meth c A.U A.locs A.cells A.slots → g.method = m → g.locals.size = c.maxLocals → decode c.code g.pc = .ok (ig, len) →
    2 * g.monitorRoom + (g.stack.map fun v => v.category).sum ≤ W9 → A.U.methodNamed? y = some mk → Pre A a →
    (∃ (v : Option Value) (B : Pt), Stand p l e R s m sargs below meth c B.U B.locs B.cells B.slots ∧ Post A a v B ∧
      Steps p.tables e below (doInvoke e (A.U.setTop g) [] mk a).1 (B.U.setTop { g with pc := g.pc + len, stack := v.toList ++ g.stack })) ∨
    (∃ (q : Addr) (B : Pt), Stand p l e R s m sargs below meth c B.U B.locs B.cells B.slots ∧ PostX A a q B ∧
      Steps p.tables e below (doInvoke e (A.U.setTop g) [] mk a).1 ((B.U.setTop g).pushFrame (.throwing q)))
section Payer
variable {l : Launch} {R : Room} {p : Program} {e : Env} {below : List Frame} {s : State} {sargs : Array Value} {y : MethodName} {len W9 : Nat}
theorem vx_back {ws : List Cond} {rm : Room} {Pc : Array Value → State → Prop} {Qc : Array Value → State → Outcome → State → Prop} {XC : String → State → State → Prop} {mc ms : Nat} {free : Addr → Prop} {bytes : ByteArray} {maxL : Nat} {ret : Option FieldType}
    (hM : vx_Met l y ws rm Pc Qc XC mc ms free) (hblind : FrameBlind Pc) (hrc : rm.cells = mc) (hrs : rm.slots = ms)
    (hframes : rm.frames + 1 ≤ R.frames) (hlocals : W9 + (maxL + 11) + rm.locals ≤ R.locals)
    (hws : ∀ w ∈ ws, ∀ a' U, s.WarmedH U.vm → w.before a' U = true) (hcode : Cond.code y bytes maxL ret ∈ ws) (hinit : ∀ a' U, s.WarmedH U.vm → (Cond.initialized y.cls).before a' U = true) :
    vx_Back l R p e below s sargs y len W9 (PreOf R mc ms Pc) (PostOf Qc mc ms free) (vx_Post XC mc ms free) := by
  intro m meth c A g ig mk a X hg hsize hdg hW hn hp
  have h1 : (headSpec ws rm).pre.before a A.U = true := atoms_intro fun w hw => hws w hw _ _ X.warmed
  have h2 : (Cond.code y bytes maxL ret).before a A.U = true := hws _ hcode _ _ X.warmed
  have h3 : (Cond.initialized y.cls).before a A.U = true := hinit _ _ X.warmed
  have h4 : A.cells + (headSpec ws rm).room.cells ≤ R.cells := by rw [show (headSpec ws rm).room.cells = mc from hrc]; exact hp.1
  have h5 : A.slots + (headSpec ws rm).room.slots ≤ R.slots := by rw [show (headSpec ws rm).room.slots = ms from hrs]; exact hp.2.1
  have hPc : Pc a (A.U.calling g mk a) := hblind _ _ _ _ hp.2.2
  obtain ⟨U, Ls, c0, s0⟩ := A
  dsimp only [Pt.U, Pt.locs, Pt.cells, Pt.slots] at h1 h2 h3 h4 h5 X hn hPc ⊢
  obtain ⟨methY, cY, hmY, hcY, -, hlY, -, -, -, -⟩ := Cond.code_spec hn h2
  obtain ⟨kY, hkY, -⟩ := className_of_methodNamed hn
  have hinitY : kY.init = .initialized := Cond.initialized_spec (findClass_of_methodNamed hn) hkY h3
  have h : At U g.method c below := by rw [hg]; exact X.here
  have hlocals9 : W9 + (maxL + 11) + (headSpec ws rm).room.locals ≤ R.locals := hlocals
  have happ : (headSpec ws rm).appliesLoose y e.platform (U.calling g mk a) = true :=
    Spec.appliesLoose_calling (g := g) h hdg hn hkY hinitY
      (X.room_calling (g := g) (R' := (headSpec ws rm).room) hsize hmY hcY hframes (by rw [hlY]; omega) h4 h5) h1
  obtain ⟨mid, hmid⟩ := h.above
  have hfr : (U.setTop g).frames = (.java g :: mid) ++ below := by rw [State.frames_setTop' g h.top, hmid]; rfl
  obtain ⟨o, s₂, hsteps, -, hend, hq⟩ := Steps.callFree hM p X.admits X.cas X.clock (acts := []) hfr happ hPc trivial
  have hq' : vx_Q Qc XC mc ms free a (U.calling g mk a) o s₂ := hq
  rw [State.frames_setTop' g h.top] at hend
  obtain ⟨g₀, hg0⟩ := Option.isSome_iff_exists.mp h.top
  obtain ⟨r, hr⟩ := State.topJava?_eq_some.mp hg0
  have hr' : (({ U with heap := s₂.heap, slotsUsed := s₂.slotsUsed } : State).setVm s₂.vm).frames = .java g₀ :: r := hr
  rcases hq' with ⟨hqc, L, hfe, hL⟩ | ⟨q, rfl, E, ce, L, hx, hce, hcv, hcl, hW₂, hsm, hL⟩
  · obtain ⟨⟨v, rfl⟩, hW₂, e2, q2, q3, q4, q5, q6⟩ := id hfe
    have e3 : s₂ = ({ (U.calling g mk a).setFrames s₂.frames with heap := s₂.heap, slotsUsed := s₂.slotsUsed } : State).setVm s₂.vm := by
      have : s₂ = ({ s₂ with vm := (U.calling g mk a).vm } : State).setVm s₂.vm := rfl
      rw [e2] at this
      exact this
    obtain ⟨c₂, i₂, len₂, hc₂, hd₂, hf₂⟩ := hend
    have hW' : U.WarmedH s₂.vm := hW₂
    have hcc : c₂ = c := by
      have h1 : s₂.code? g.method = U.code? g.method := by
        rw [State.code?_eq, State.code?_eq, hW'.alike.method?]
      exact Option.some.inj (hc₂.symm.trans (h1.trans h.code))
    subst hcc
    have hlen : len₂ = len := by rw [hdg] at hd₂; cases hd₂; rfl
    subst hlen
    have hs₂ : s₂ = (({ U with heap := s₂.heap, slotsUsed := s₂.slotsUsed } : State).setVm s₂.vm).setTop { g with pc := g.pc + len₂, stack := v.toList ++ g.stack } := by
      refine e3.trans ?_
      rw [hf₂, State.calling_eq h.top, State.setFrames_setFrames, State.setTop_of_frames _ hr', hr]
      rfl
    have hsame : U.sameButNew ({ U with heap := s₂.heap, slotsUsed := s₂.slotsUsed } : State) L mc ms := by
      refine ⟨?_, q2, q3, q4, q5, q6⟩
      obtain ⟨t, ht, -⟩ := State.frames_cons hr
      show ({ U with heap := s₂.heap, slotsUsed := s₂.slotsUsed } : State) = { U.setFrames U.frames with heap := s₂.heap, slotsUsed := s₂.slotsUsed }
      rw [State.setFrames_self ht]
    subst hg
    refine Or.inl ⟨v, ⟨(({ U with heap := s₂.heap, slotsUsed := s₂.slotsUsed } : State).setVm s₂.vm), Ls ++ L, c0 + mc, s0 + ms⟩,
      ⟨X.admits, X.cas, X.clock, X.frames, X.room, X.hears, X.method, X.code, (X.here.setHeapUsed s₂.heap s₂.slotsUsed).setVm hW'.alike, X.tail, State.WarmedH.trans X.warmed hW', X.limits, X.bytes, X.same.trans (hsame.setVm s.vm)⟩,
      ⟨g, mk, s₂, L, rfl, rfl, hqc, rfl, hL, rfl, rfl⟩, ?_⟩
    show Steps p.tables e below _ ((({ U with heap := s₂.heap, slotsUsed := s₂.slotsUsed } : State).setVm s₂.vm).setTop { g with pc := g.pc + len₂, stack := v.toList ++ g.stack })
    rw [← hs₂]
    exact hsteps
  · obtain ⟨e2, q2, q3, q4, q5, q6⟩ := id hsm
    have e3 : s₂ = ({ (U.calling g mk a).setFrames s₂.frames with heap := s₂.heap, slotsUsed := s₂.slotsUsed } : State).setVm s₂.vm := by
      have : s₂ = ({ s₂ with vm := (U.calling g mk a).vm } : State).setVm s₂.vm := rfl
      rw [e2] at this
      exact this
    have hf₂ : s₂.frames = .throwing q :: .java g :: U.frames.tail := hend
    have hW' : U.WarmedH s₂.vm := hW₂
    have hs₂ : s₂ = ((({ U with heap := s₂.heap, slotsUsed := s₂.slotsUsed } : State).setVm s₂.vm).setTop g).pushFrame (.throwing q) := by
      refine e3.trans ?_
      rw [hf₂, State.calling_eq h.top, State.setFrames_setFrames, State.pushFrame, State.frames_setTop _ hr', State.setTop_of_frames _ hr', State.setFrames_setFrames, hr]
      rfl
    have hsame : U.sameButNew ({ U with heap := s₂.heap, slotsUsed := s₂.slotsUsed } : State) L mc ms := by
      refine ⟨?_, q2, q3, q4, q5, q6⟩
      obtain ⟨t, ht, -⟩ := State.frames_cons hr
      show ({ U with heap := s₂.heap, slotsUsed := s₂.slotsUsed } : State) = { U.setFrames U.frames with heap := s₂.heap, slotsUsed := s₂.slotsUsed }
      rw [State.setFrames_self ht]
    subst hg
    refine Or.inr ⟨q, ⟨(({ U with heap := s₂.heap, slotsUsed := s₂.slotsUsed } : State).setVm s₂.vm), Ls ++ L, c0 + mc, s0 + ms⟩,
      ⟨X.admits, X.cas, X.clock, X.frames, X.room, X.hears, X.method, X.code, (X.here.setHeapUsed s₂.heap s₂.slotsUsed).setVm hW'.alike, X.tail, State.WarmedH.trans X.warmed hW', X.limits, X.bytes, X.same.trans (hsame.setVm s.vm)⟩,
      ⟨g, mk, s₂, L, E, ce, rfl, rfl, hx, hce, hcv, hcl, rfl, hL, rfl, rfl⟩, ?_⟩
    show Steps p.tables e below _ (((({ U with heap := s₂.heap, slotsUsed := s₂.slotsUsed } : State).setVm s₂.vm).setTop g).pushFrame (.throwing q))
    rw [← hs₂]
    exact hsteps
end Payer
section Calls
variable {p : Program} {l : Launch} {e : Env} {R : Room} {s : State} {m : MethodId} {args : Array Value} {below : List Frame} {meth : Method} {c : Code} {T : State} {locs : List Loc} {cells slots : Nat}
theorem vx_callV (X : Stand p l e R s m args below meth c T locs cells slots) (hexec : p.tables.exec = Jvm.exec) {own C : String} {index : Nat} {y : MethodName} {bytes : ByteArray} {maxL : Nat} {ret : Option FieldType}
    (hown : s.vm.findClass own = some m.cls) (hlink : (Cond.methodLink own index y).before args s = true) (hinst : (Cond.instanceMethod y).before args s = true) (hsel : (Cond.selects C y y).before args s = true)
    (hcode : (Cond.code y bytes maxL ret).before args s = true) (hy : y.cls ≠ "java/lang/invoke/MethodHandle" ∧ y.cls ≠ "java/lang/invoke/VarHandle")
    {W9 : Nat} {Pre : Pt → Array Value → Prop} {Post : Pt → Array Value → Option Value → Pt → Prop} {PostX : Pt → Array Value → Addr → Pt → Prop} (hK : vx_Back l R p e below s args y 3 W9 Pre Post PostX)
    {b : Addr} {cellB : Cell} (hcell : T.heap[b]? = some cellB) (hobj : cellB.vm.isStatics = false) (hcls : s.vm.findClass C = some cellB.cls)
    {g : JFrame} (hg : g.method = m) (hsize : g.locals.size = c.maxLocals) {argsL rest : List Value} (hlen : ∀ sig, parseMethodDescriptor y.desc = some sig → argsL.length = sig.parameters.length)
    (hstack : g.stack = argsL.reverse ++ .ref b :: rest) (hW : 2 * g.monitorRoom + (rest.map fun v => v.category).sum ≤ W9) (hdg : decode c.code g.pc = .ok (.invokevirtual index, 3))
    (hpre : ∀ vm₁, s.WarmedH vm₁ → Pre ⟨T.setVm vm₁, locs, cells, slots⟩ (Value.ref b :: argsL).toArray) :
    (∃ (v : Option Value) (vm₁ : Vm) (B : Pt), s.WarmedH vm₁ ∧ Stand p l e R s m args below meth c B.U B.locs B.cells B.slots ∧ Post ⟨T.setVm vm₁, locs, cells, slots⟩ (Value.ref b :: argsL).toArray v B ∧
      ∀ target, Steps p.tables e below (B.U.setTop { g with pc := g.pc + 3, stack := v.toList ++ rest }) target → Steps p.tables e below (T.setTop g) target) ∨
    (∃ (q : Addr) (vm₁ : Vm) (B : Pt), s.WarmedH vm₁ ∧ Stand p l e R s m args below meth c B.U B.locs B.cells B.slots ∧ PostX ⟨T.setVm vm₁, locs, cells, slots⟩ (Value.ref b :: argsL).toArray q B ∧
      Steps p.tables e below (T.setTop g) ((B.U.setTop { g with stack := rest }).pushFrame (.throwing q))) := by
  obtain ⟨mk, methM, hnamed, hmethM, hstM, habM⟩ := Cond.instanceMethod_spec hinst
  obtain ⟨methM', cM, hmethM', -, -, -, -, -, -, hsigM⟩ := Cond.code_spec hnamed hcode
  cases hmethM.symm.trans hmethM'
  obtain ⟨c2, r2, m2, q1, q2, q3, q4, kP, hkP, hkPi⟩ := Cond.selects_spec hsel
  cases hcls.symm.trans q1
  cases (State.methodFound?_of_named hnamed hy).symm.trans q2
  cases hnamed.symm.trans q3
  have hselP : selectMethod e.platform s.vm cellB.cls mk = .method mk := by rw [Launch.admits_selectMethod X.admits]; exact q4
  obtain ⟨vm₁, X₁, hstep₁⟩ := X.invokevirtual hexec hown hlink hnamed hmethM hstM hkP hkPi hy (a := b) (cell := cellB) hcell
    (fun z h => by rw [h] at hobj; cases hobj) hselP hmethM habM hkP hkPi (g := g) hg (argsL := argsL) (rest := rest) (hlen _ hsigM) hstack hdg
  rcases hK m meth c ⟨T.setVm vm₁, locs, cells, slots⟩ { g with stack := rest } (.invokevirtual index) mk (Value.ref b :: argsL).toArray X₁ hg hsize hdg hW (X₁.named hnamed) (hpre vm₁ X₁.warmed) with ⟨v, B, X', hpost, hsteps⟩ | ⟨q, B, X', hpost, hsteps⟩
  · exact Or.inl ⟨v, vm₁, B, X₁.warmed, X', hpost, fun target h => hstep₁ _ fun acts => by rw [doInvoke_state]; exact hsteps.trans h⟩
  · exact Or.inr ⟨q, vm₁, B, X₁.warmed, X', hpost, hstep₁ _ fun acts => by rw [doInvoke_state]; exact hsteps⟩
theorem vx_callS (X : Stand p l e R s m args below meth c T locs cells slots) (hexec : p.tables.exec = Jvm.exec) {own : String} {index : Nat} {y : MethodName} {bytes : ByteArray} {maxL : Nat} {ret : Option FieldType}
    (hown : s.vm.findClass own = some m.cls) (hlink : (Cond.methodLink own index y).before args s = true) (hstat : (Cond.static y).before args s = true) (hinit : (Cond.initialized y.cls).before args s = true)
    (hcode : (Cond.code y bytes maxL ret).before args s = true) (hy : y.cls ≠ "java/lang/invoke/MethodHandle" ∧ y.cls ≠ "java/lang/invoke/VarHandle")
    {W9 : Nat} {Pre : Pt → Array Value → Prop} {Post : Pt → Array Value → Option Value → Pt → Prop} {PostX : Pt → Array Value → Addr → Pt → Prop} (hK : vx_Back l R p e below s args y 3 W9 Pre Post PostX)
    {g : JFrame} (hg : g.method = m) (hsize : g.locals.size = c.maxLocals) {argsL rest : List Value} (hlen : ∀ sig, parseMethodDescriptor y.desc = some sig → argsL.length = sig.parameters.length)
    (hstack : g.stack = argsL.reverse ++ rest) (hW : 2 * g.monitorRoom + (rest.map fun v => v.category).sum ≤ W9) (hdg : decode c.code g.pc = .ok (.invokestatic index, 3))
    (hpre : ∀ vm₁, s.WarmedH vm₁ → Pre ⟨T.setVm vm₁, locs, cells, slots⟩ argsL.toArray) :
    (∃ (v : Option Value) (vm₁ : Vm) (B : Pt), s.WarmedH vm₁ ∧ Stand p l e R s m args below meth c B.U B.locs B.cells B.slots ∧ Post ⟨T.setVm vm₁, locs, cells, slots⟩ argsL.toArray v B ∧
      ∀ target, Steps p.tables e below (B.U.setTop { g with pc := g.pc + 3, stack := v.toList ++ rest }) target → Steps p.tables e below (T.setTop g) target) ∨
    (∃ (q : Addr) (vm₁ : Vm) (B : Pt), s.WarmedH vm₁ ∧ Stand p l e R s m args below meth c B.U B.locs B.cells B.slots ∧ PostX ⟨T.setVm vm₁, locs, cells, slots⟩ argsL.toArray q B ∧
      Steps p.tables e below (T.setTop g) ((B.U.setTop { g with stack := rest }).pushFrame (.throwing q))) := by
  obtain ⟨mk, hnamed⟩ := Cond.code_named hcode
  obtain ⟨methM, cM, hmethM, -, -, -, -, -, -, hsigM⟩ := Cond.code_spec hnamed hcode
  have hstatic : methM.isStatic = true := Cond.static_spec hnamed hmethM hstat
  obtain ⟨kP, hkP, -⟩ := className_of_methodNamed hnamed
  have hinitP : kP.init = .initialized := Cond.initialized_spec (findClass_of_methodNamed hnamed) hkP hinit
  obtain ⟨vm₁, X₁, hstep₁⟩ := X.invokestatic hexec hown hlink hnamed hmethM hstatic hkP hinitP hy (g := g) hg (argsL := argsL) (rest := rest) (hlen _ hsigM) hstack hdg
  rcases hK m meth c ⟨T.setVm vm₁, locs, cells, slots⟩ { g with stack := rest } (.invokestatic index) mk argsL.toArray X₁ hg hsize hdg hW (X₁.named hnamed) (hpre vm₁ X₁.warmed) with ⟨v, B, X', hpost, hsteps⟩ | ⟨q, B, X', hpost, hsteps⟩
  · exact Or.inl ⟨v, vm₁, B, X₁.warmed, X', hpost, fun target h => hstep₁ _ fun acts => by rw [doInvoke_state]; exact hsteps.trans h⟩
  · exact Or.inr ⟨q, vm₁, B, X₁.warmed, X', hpost, hstep₁ _ fun acts => by rw [doInvoke_state]; exact hsteps⟩
end Calls
theorem vx_cls {s : State} {T : State} {vm₁ : Vm} {E : String} {k : ClassId} (hW : s.WarmedH vm₁) (h : (T.setVm vm₁).vm.findClass E = some k) : s.vm.findClass E = some k := by
  have h1 : vm₁.findClass E = some k := h
  rw [hW.alike.findClass] at h1
  exact h1
/-- the method's frame g, with q thrown over it -/
def vx_W (p : Program) (l : Launch) (e : Env) (R : Room) (s : State) (m : MethodId) (args : Array Value) (below : List Frame) (meth : Method) (c : Code) (H : Heap) (locs : List Loc) (cells slots : Nat) (Q : State → Prop) (g : JFrame) (q : Addr) : Prop :=
  ∀ T : State, T.heap = H → Stand p l e R s m args below meth c T locs cells slots → ∃ t, Steps p.tables e below ((T.setTop g).pushFrame (.throwing q)) t ∧ Q t
def vx_Run (p : Program) (l : Launch) (e : Env) (R : Room) (s : State) (m : MethodId) (args : Array Value) (below : List Frame) (meth : Method) (c : Code) (H : Heap) (locs : List Loc) (cells slots mc ms : Nat) (g : JFrame) (rest : List Value) (Qa : State → Outcome → State → Prop) (XC : String → State → State → Prop) (free : Addr → Prop) : Prop :=
  ∀ T : State, T.heap = H → Stand p l e R s m args below meth c T locs cells slots →
    (∃ (v : Option Value) (st₀ t T' : State) (L : List Loc), st₀.heap = H ∧ Stand p l e R s m args below meth c T' (locs ++ L) (cells + mc) (slots + ms) ∧ (∀ q ∈ L, free q.base) ∧ T'.heap = t.heap ∧ T'.vm = t.vm ∧ Qa st₀ (.returned v) t ∧
      Goes p e below T g T' { g with pc := g.pc + 3, stack := v.toList ++ rest }) ∨
    (∃ (q : Addr) (st₀ t T' : State) (L : List Loc) (E : String) (ce : Cell), st₀.heap = H ∧ Stand p l e R s m args below meth c T' (locs ++ L) (cells + mc) (slots + ms) ∧ (∀ z ∈ L, free z.base) ∧ T'.heap = t.heap ∧ T'.vm = t.vm ∧ XC E st₀ t ∧ t.heap[q]? = some ce ∧ ce.vm = .none ∧ s.vm.findClass E = some ce.cls ∧
      Steps p.tables e below (T.setTop g) ((T'.setTop { g with stack := rest }).pushFrame (.throwing q)))
def vx_X {S : Type} (px : S → Prop) (B : String → S → State → Prop) (A : Nat → Prop) : String → State → State → Prop := fun E st t => ∃ u : S, px u ∧ B E u t ∧ va_F A st t
section Runs
variable {p : Program} {l : Launch} {e : Env} {R : Room} {s : State} {m : MethodId} {args : Array Value} {below : List Frame} {meth : Method} {c : Code} {H : Heap} {locs : List Loc} {cells slots : Nat}
variable {y : MethodName} {bytes cc : ByteArray} {maxL nL mc ms n index : Nat} {ret : Option FieldType} {ws : List Cond} {rm : Room} {Pc : Array Value → State → Prop} {Qc : Array Value → State → Outcome → State → Prop} {XC : String → State → State → Prop} {free : Addr → Prop} {Ts : List Cond} {own C : String} {b : Addr} {As rest : List Value} {g : JFrame}
theorem vx_callBack (cb : CallB R s args own index y bytes maxL ret ws rm mc ms n) (hM : vx_Met l y ws rm Pc Qc XC mc ms free) (hbl : FrameBlind Pc) : vx_Back l R p e below s args y 3 8 (PreOf R mc ms Pc) (PostOf Qc mc ms free) (vx_Post XC mc ms free) := by
  obtain ⟨hrc, hrs, hfr, hlo, hws, hcw, -, hini, -⟩ := cb
  exact vx_back (bytes := bytes) (maxL := maxL) (ret := ret) hM hbl hrc hrs hfr hlo hws hcw (fun a' U hW => word_at hW (Or.inl (by first | rfl | simp [Cond.onTables, Cond.keeps, Cond.steady])) hini)
theorem vx_runV (S : CallFix p m c cc nL s args Ts own) (hM : vx_Met l y ws rm Pc Qc XC mc ms free) (cw : CallW R s args own C index y bytes maxL ret ws rm mc ms n) (hp : PreV s H C b Pc As)
    (hg : g.method = m) (hn : As.length = n) (hsize : g.locals.size = nL) (hstack : g.stack = As.reverse ++ .ref b :: rest) (hW : 2 * g.monitorRoom + (rest.map fun v => v.category).sum ≤ 8) (hdg : decode cc g.pc = .ok (.invokevirtual index, 3)) (hf : cells + mc ≤ R.cells ∧ slots + ms ≤ R.slots) :
    vx_Run p l e R s m args below meth c H locs cells slots mc ms g rest (Qc (Value.ref b :: As).toArray) XC free := by
  have hK : vx_Back l R p e below s args y 3 8 (PreOf R mc ms Pc) (PostOf Qc mc ms free) (vx_Post XC mc ms free) := vx_callBack cw.1 hM hp.1
  obtain ⟨⟨-, -, -, -, -, -, hcode, -, hy, hlen, hl⟩, hin, hse⟩ := cw
  obtain ⟨hx, hb, hml, ho, -⟩ := S
  obtain ⟨-, ⟨cellB, hcB, hoB, hclB⟩, hPc⟩ := hp
  intro T hT X
  rcases vx_callV X hx (C := C) (bytes := bytes) (maxL := maxL) (ret := ret) ho hl hin hse hcode hy hK (by rw [hT]; exact hcB) hoB hclB hg (hsize.trans hml.symm) (argsL := As) (rest := rest) (fun sig h => hn.trans (hlen sig h)) hstack hW (by rw [hb]; exact hdg)
    (fun vm₁ hW₁ => ⟨hf.1, hf.2, hPc (T.setVm vm₁) hT hW₁⟩) with ⟨v, vm₁, ⟨U', l2, c2, s2⟩, hW₁, X', ⟨g', mk, t, L, e1, e2, hq, h1, hL, h2, h3⟩, st⟩ | ⟨q, vm₁, ⟨U', l2, c2, s2⟩, hW₁, X', ⟨g', mk, t, L, E, ce, e1, e2, hq, hce, hcv, hcl, h1, hL, h2, h3⟩, st⟩
  · dsimp only [Pt.U, Pt.locs, Pt.cells, Pt.slots] at X' e1 e2 h1 h2 h3 st
    subst h1; subst h2; subst h3
    exact Or.inl ⟨v, (T.setVm vm₁).calling g' mk (Value.ref b :: As).toArray, t, U', L, hT, X', hL, e1, e2, hq, st⟩
  · dsimp only [Pt.U, Pt.locs, Pt.cells, Pt.slots] at X' e1 e2 h1 h2 h3 st hcl
    subst h1; subst h2; subst h3
    exact Or.inr ⟨q, (T.setVm vm₁).calling g' mk (Value.ref b :: As).toArray, t, U', L, E, ce, hT, X', hL, e1, e2, hq, hce, hcv, vx_cls hW₁ hcl, st⟩
theorem vx_runS (S : CallFix p m c cc nL s args Ts own) (hM : vx_Met l y ws rm Pc Qc XC mc ms free) (cw : CallB R s args own index y bytes maxL ret ws rm mc ms n ∧ (Cond.static y).before args s = true) (hp : PreS s H Pc As)
    (hg : g.method = m) (hn : As.length = n) (hsize : g.locals.size = nL) (hstack : g.stack = As.reverse ++ rest) (hW : 2 * g.monitorRoom + (rest.map fun v => v.category).sum ≤ 8) (hdg : decode cc g.pc = .ok (.invokestatic index, 3)) (hf : cells + mc ≤ R.cells ∧ slots + ms ≤ R.slots) :
    vx_Run p l e R s m args below meth c H locs cells slots mc ms g rest (Qc As.toArray) XC free := by
  have hK : vx_Back l R p e below s args y 3 8 (PreOf R mc ms Pc) (PostOf Qc mc ms free) (vx_Post XC mc ms free) := vx_callBack cw.1 hM hp.1
  obtain ⟨⟨-, -, -, -, -, -, hcode, hini, hy, hlen, hl⟩, hstt⟩ := cw
  obtain ⟨hx, hb, hml, ho, -⟩ := S
  intro T hT X
  rcases vx_callS X hx (bytes := bytes) (maxL := maxL) (ret := ret) ho hl hstt hini hcode hy hK hg (hsize.trans hml.symm) (argsL := As) (rest := rest) (fun sig h => hn.trans (hlen sig h)) hstack hW (by rw [hb]; exact hdg)
    (fun vm₁ hW₁ => ⟨hf.1, hf.2, hp.2 (T.setVm vm₁) hT hW₁⟩) with ⟨v, vm₁, ⟨U', l2, c2, s2⟩, hW₁, X', ⟨g', mk, t, L, e1, e2, hq, h1, hL, h2, h3⟩, st⟩ | ⟨q, vm₁, ⟨U', l2, c2, s2⟩, hW₁, X', ⟨g', mk, t, L, E, ce, e1, e2, hq, hce, hcv, hcl, h1, hL, h2, h3⟩, st⟩
  · dsimp only [Pt.U, Pt.locs, Pt.cells, Pt.slots] at X' e1 e2 h1 h2 h3 st
    subst h1; subst h2; subst h3
    exact Or.inl ⟨v, (T.setVm vm₁).calling g' mk As.toArray, t, U', L, hT, X', hL, e1, e2, hq, st⟩
  · dsimp only [Pt.U, Pt.locs, Pt.cells, Pt.slots] at X' e1 e2 h1 h2 h3 st hcl
    subst h1; subst h2; subst h3
    exact Or.inr ⟨q, (T.setVm vm₁).calling g' mk As.toArray, t, U', L, E, ce, hT, X', hL, e1, e2, hq, hce, hcv, vx_cls hW₁ hcl, st⟩
end Runs
section Rows
variable {p : Program} {l : Launch} {e : Env} {R : Room} {s : State} {m : MethodId} {args : Array Value} {below : List Frame} {meth : Method} {c : Code} {H : Heap} {locs : List Loc} {cells slots : Nat} {Q : State → Prop}
variable {mc ms : Nat} {free : Addr → Prop} {A0 A1 : Nat → Prop} {H0 : Heap} {a : Array Value} {pc : Nat} {ls : Array Slot} {st0 rest : List Value}
theorem vx_keep {st₀ t T' : State} {L : List Loc} (h0 : st₀.heap = H) (e1 : T'.heap = t.heap) (hS : va_S A0 H0 H locs) (hA : ∀ q, q < H.size → A1 q → A0 q) (hf : ∀ q, free q → A0 q) (hL : ∀ q ∈ L, free q.base) (hF : va_F A1 st₀ t) :
    H.size ≤ T'.heap.size ∧ (∀ q : Nat, q < H.size → ¬ A1 q → T'.heap[q]? = H[q]?) ∧ va_S A0 H0 T'.heap (locs ++ L) := by
  obtain ⟨hz, hk⟩ := hF
  rw [h0] at hz hk
  exact ⟨by rw [e1]; exact hz, fun q h1 h2 => by rw [e1]; exact hk q h1 h2,
    ⟨Nat.le_trans hS.1 (by rw [e1]; exact hz), fun q h1 h2 => by rw [e1, hk q (Nat.lt_of_lt_of_le h1 hS.1) (fun z => h2 (hA q (Nat.lt_of_lt_of_le h1 hS.1) z))]; exact hS.2.1 q h1 h2, fun q hq => by
      rcases List.mem_append.mp hq with h | h
      · exact hS.2.2 q h
      · exact hf _ (hL q h)⟩⟩
theorem vx_calli {S SX : Type} {post : Int32 → S → Prop} {px : SX → Prop} {B : S → State → Prop} {BX : String → SX → State → Prop} {AX : Nat → Prop} (hr : vx_Run p l e R s m args below meth c H locs cells slots mc ms (F0 m pc ls st0) rest (va_Qi post B A1 a) (vx_X px BX AX) free) (hS : va_S A0 H0 H locs) (hA : ∀ q, q < H.size → A1 q → A0 q) (hf : ∀ q, free q → A0 q) (hAX : ∀ q, q < H.size → AX q → A0 q)
    (kx : ∀ (E : String) (ce : Cell) (q9 : Addr) (u : SX) (t : State) (H1 : Heap) (locs1 : List Loc), t.heap = H1 → s.vm.Alike t.vm → px u → BX E u t → H.size ≤ H1.size → (∀ q : Nat, q < H.size → ¬ AX q → H1[q]? = H[q]?) → va_S A0 H0 H1 locs1 → H1[q9]? = some ce → ce.vm = .none → s.vm.findClass E = some ce.cls → vx_W p l e R s m args below meth c H1 locs1 (cells + mc) (slots + ms) Q (F0 m pc ls rest) q9)
    (kk : ∀ (r : Int32) (u : S) (t : State) (H1 : Heap) (locs1 : List Loc), t.heap = H1 → s.vm.Alike t.vm → post r u → B u t → H.size ≤ H1.size → (∀ q : Nat, q < H.size → ¬ A1 q → H1[q]? = H[q]?) → va_S A0 H0 H1 locs1 → W p l e R s m args below meth c H1 locs1 (cells + mc) (slots + ms) Q (F0 m (pc + 3) ls (.int r :: rest))) : W p l e R s m args below meth c H locs cells slots Q (F0 m pc ls st0) := by
  intro T hT X
  rcases hr T hT X with ⟨v, st₀, t, T', L, h0, X', hL, e1, e2, ⟨⟨r, u, hv, hp, hb⟩, hF⟩, st⟩ | ⟨q, st₀, t, T', L, E, ce, h0, X', hL, e1, e2, ⟨u, hp, hb, hF⟩, hce, hcv, hcl, st⟩
  · cases hv
    obtain ⟨k1, k2, k3⟩ := vx_keep h0 e1 hS hA hf hL hF
    obtain ⟨t2, a1, b1⟩ := kk r u t T'.heap (locs ++ L) e1.symm (by rw [← e2]; exact X'.warmed.alike) hp hb k1 k2 k3 T' rfl X'
    exact ⟨t2, st t2 a1, b1⟩
  · obtain ⟨k1, k2, k3⟩ := vx_keep h0 e1 hS hAX hf hL hF
    obtain ⟨t2, a1, b1⟩ := kx E ce q u t T'.heap (locs ++ L) e1.symm (by rw [← e2]; exact X'.warmed.alike) hp hb k1 k2 k3 (by rw [e1]; exact hce) hcv hcl T' rfl X'
    exact ⟨t2, st.trans a1, b1⟩
theorem vx_calll {S SX : Type} {post : Int64 → S → Prop} {px : SX → Prop} {B : S → State → Prop} {BX : String → SX → State → Prop} {AX : Nat → Prop} (hr : vx_Run p l e R s m args below meth c H locs cells slots mc ms (F0 m pc ls st0) rest (va_Ql post B A1 a) (vx_X px BX AX) free) (hS : va_S A0 H0 H locs) (hA : ∀ q, q < H.size → A1 q → A0 q) (hf : ∀ q, free q → A0 q) (hAX : ∀ q, q < H.size → AX q → A0 q)
    (kx : ∀ (E : String) (ce : Cell) (q9 : Addr) (u : SX) (t : State) (H1 : Heap) (locs1 : List Loc), t.heap = H1 → s.vm.Alike t.vm → px u → BX E u t → H.size ≤ H1.size → (∀ q : Nat, q < H.size → ¬ AX q → H1[q]? = H[q]?) → va_S A0 H0 H1 locs1 → H1[q9]? = some ce → ce.vm = .none → s.vm.findClass E = some ce.cls → vx_W p l e R s m args below meth c H1 locs1 (cells + mc) (slots + ms) Q (F0 m pc ls rest) q9)
    (kk : ∀ (r : Int64) (u : S) (t : State) (H1 : Heap) (locs1 : List Loc), t.heap = H1 → s.vm.Alike t.vm → post r u → B u t → H.size ≤ H1.size → (∀ q : Nat, q < H.size → ¬ A1 q → H1[q]? = H[q]?) → va_S A0 H0 H1 locs1 → W p l e R s m args below meth c H1 locs1 (cells + mc) (slots + ms) Q (F0 m (pc + 3) ls (.long r :: rest))) : W p l e R s m args below meth c H locs cells slots Q (F0 m pc ls st0) := by
  intro T hT X
  rcases hr T hT X with ⟨v, st₀, t, T', L, h0, X', hL, e1, e2, ⟨⟨r, u, hv, hp, hb⟩, hF⟩, st⟩ | ⟨q, st₀, t, T', L, E, ce, h0, X', hL, e1, e2, ⟨u, hp, hb, hF⟩, hce, hcv, hcl, st⟩
  · cases hv
    obtain ⟨k1, k2, k3⟩ := vx_keep h0 e1 hS hA hf hL hF
    obtain ⟨t2, a1, b1⟩ := kk r u t T'.heap (locs ++ L) e1.symm (by rw [← e2]; exact X'.warmed.alike) hp hb k1 k2 k3 T' rfl X'
    exact ⟨t2, st t2 a1, b1⟩
  · obtain ⟨k1, k2, k3⟩ := vx_keep h0 e1 hS hAX hf hL hF
    obtain ⟨t2, a1, b1⟩ := kx E ce q u t T'.heap (locs ++ L) e1.symm (by rw [← e2]; exact X'.warmed.alike) hp hb k1 k2 k3 (by rw [e1]; exact hce) hcv hcl T' rfl X'
    exact ⟨t2, st.trans a1, b1⟩
theorem vx_callf {S SX : Type} {post : UInt32 → S → Prop} {px : SX → Prop} {B : S → State → Prop} {BX : String → SX → State → Prop} {AX : Nat → Prop} (hr : vx_Run p l e R s m args below meth c H locs cells slots mc ms (F0 m pc ls st0) rest (va_Qf post B A1 a) (vx_X px BX AX) free) (hS : va_S A0 H0 H locs) (hA : ∀ q, q < H.size → A1 q → A0 q) (hf : ∀ q, free q → A0 q) (hAX : ∀ q, q < H.size → AX q → A0 q)
    (kx : ∀ (E : String) (ce : Cell) (q9 : Addr) (u : SX) (t : State) (H1 : Heap) (locs1 : List Loc), t.heap = H1 → s.vm.Alike t.vm → px u → BX E u t → H.size ≤ H1.size → (∀ q : Nat, q < H.size → ¬ AX q → H1[q]? = H[q]?) → va_S A0 H0 H1 locs1 → H1[q9]? = some ce → ce.vm = .none → s.vm.findClass E = some ce.cls → vx_W p l e R s m args below meth c H1 locs1 (cells + mc) (slots + ms) Q (F0 m pc ls rest) q9)
    (kk : ∀ (r : UInt32) (u : S) (t : State) (H1 : Heap) (locs1 : List Loc), t.heap = H1 → s.vm.Alike t.vm → post r u → B u t → H.size ≤ H1.size → (∀ q : Nat, q < H.size → ¬ A1 q → H1[q]? = H[q]?) → va_S A0 H0 H1 locs1 → W p l e R s m args below meth c H1 locs1 (cells + mc) (slots + ms) Q (F0 m (pc + 3) ls (.float r :: rest))) : W p l e R s m args below meth c H locs cells slots Q (F0 m pc ls st0) := by
  intro T hT X
  rcases hr T hT X with ⟨v, st₀, t, T', L, h0, X', hL, e1, e2, ⟨⟨r, u, hv, hp, hb⟩, hF⟩, st⟩ | ⟨q, st₀, t, T', L, E, ce, h0, X', hL, e1, e2, ⟨u, hp, hb, hF⟩, hce, hcv, hcl, st⟩
  · cases hv
    obtain ⟨k1, k2, k3⟩ := vx_keep h0 e1 hS hA hf hL hF
    obtain ⟨t2, a1, b1⟩ := kk r u t T'.heap (locs ++ L) e1.symm (by rw [← e2]; exact X'.warmed.alike) hp hb k1 k2 k3 T' rfl X'
    exact ⟨t2, st t2 a1, b1⟩
  · obtain ⟨k1, k2, k3⟩ := vx_keep h0 e1 hS hAX hf hL hF
    obtain ⟨t2, a1, b1⟩ := kx E ce q u t T'.heap (locs ++ L) e1.symm (by rw [← e2]; exact X'.warmed.alike) hp hb k1 k2 k3 (by rw [e1]; exact hce) hcv hcl T' rfl X'
    exact ⟨t2, st.trans a1, b1⟩
theorem vx_calld {S SX : Type} {post : UInt64 → S → Prop} {px : SX → Prop} {B : S → State → Prop} {BX : String → SX → State → Prop} {AX : Nat → Prop} (hr : vx_Run p l e R s m args below meth c H locs cells slots mc ms (F0 m pc ls st0) rest (va_Qd post B A1 a) (vx_X px BX AX) free) (hS : va_S A0 H0 H locs) (hA : ∀ q, q < H.size → A1 q → A0 q) (hf : ∀ q, free q → A0 q) (hAX : ∀ q, q < H.size → AX q → A0 q)
    (kx : ∀ (E : String) (ce : Cell) (q9 : Addr) (u : SX) (t : State) (H1 : Heap) (locs1 : List Loc), t.heap = H1 → s.vm.Alike t.vm → px u → BX E u t → H.size ≤ H1.size → (∀ q : Nat, q < H.size → ¬ AX q → H1[q]? = H[q]?) → va_S A0 H0 H1 locs1 → H1[q9]? = some ce → ce.vm = .none → s.vm.findClass E = some ce.cls → vx_W p l e R s m args below meth c H1 locs1 (cells + mc) (slots + ms) Q (F0 m pc ls rest) q9)
    (kk : ∀ (r : UInt64) (u : S) (t : State) (H1 : Heap) (locs1 : List Loc), t.heap = H1 → s.vm.Alike t.vm → post r u → B u t → H.size ≤ H1.size → (∀ q : Nat, q < H.size → ¬ A1 q → H1[q]? = H[q]?) → va_S A0 H0 H1 locs1 → W p l e R s m args below meth c H1 locs1 (cells + mc) (slots + ms) Q (F0 m (pc + 3) ls (.double r :: rest))) : W p l e R s m args below meth c H locs cells slots Q (F0 m pc ls st0) := by
  intro T hT X
  rcases hr T hT X with ⟨v, st₀, t, T', L, h0, X', hL, e1, e2, ⟨⟨r, u, hv, hp, hb⟩, hF⟩, st⟩ | ⟨q, st₀, t, T', L, E, ce, h0, X', hL, e1, e2, ⟨u, hp, hb, hF⟩, hce, hcv, hcl, st⟩
  · cases hv
    obtain ⟨k1, k2, k3⟩ := vx_keep h0 e1 hS hA hf hL hF
    obtain ⟨t2, a1, b1⟩ := kk r u t T'.heap (locs ++ L) e1.symm (by rw [← e2]; exact X'.warmed.alike) hp hb k1 k2 k3 T' rfl X'
    exact ⟨t2, st t2 a1, b1⟩
  · obtain ⟨k1, k2, k3⟩ := vx_keep h0 e1 hS hAX hf hL hF
    obtain ⟨t2, a1, b1⟩ := kx E ce q u t T'.heap (locs ++ L) e1.symm (by rw [← e2]; exact X'.warmed.alike) hp hb k1 k2 k3 (by rw [e1]; exact hce) hcv hcl T' rfl X'
    exact ⟨t2, st.trans a1, b1⟩
theorem vx_callv {S SX : Type} {post : S → Prop} {px : SX → Prop} {B : S → State → Prop} {BX : String → SX → State → Prop} {AX : Nat → Prop} (hr : vx_Run p l e R s m args below meth c H locs cells slots mc ms (F0 m pc ls st0) rest (va_Qv post B A1 a) (vx_X px BX AX) free) (hS : va_S A0 H0 H locs) (hA : ∀ q, q < H.size → A1 q → A0 q) (hf : ∀ q, free q → A0 q) (hAX : ∀ q, q < H.size → AX q → A0 q)
    (kx : ∀ (E : String) (ce : Cell) (q9 : Addr) (u : SX) (t : State) (H1 : Heap) (locs1 : List Loc), t.heap = H1 → s.vm.Alike t.vm → px u → BX E u t → H.size ≤ H1.size → (∀ q : Nat, q < H.size → ¬ AX q → H1[q]? = H[q]?) → va_S A0 H0 H1 locs1 → H1[q9]? = some ce → ce.vm = .none → s.vm.findClass E = some ce.cls → vx_W p l e R s m args below meth c H1 locs1 (cells + mc) (slots + ms) Q (F0 m pc ls rest) q9)
    (kk : ∀ (u : S) (t : State) (H1 : Heap) (locs1 : List Loc), t.heap = H1 → s.vm.Alike t.vm → post u → B u t → H.size ≤ H1.size → (∀ q : Nat, q < H.size → ¬ A1 q → H1[q]? = H[q]?) → va_S A0 H0 H1 locs1 → W p l e R s m args below meth c H1 locs1 (cells + mc) (slots + ms) Q (F0 m (pc + 3) ls (rest))) : W p l e R s m args below meth c H locs cells slots Q (F0 m pc ls st0) := by
  intro T hT X
  rcases hr T hT X with ⟨v, st₀, t, T', L, h0, X', hL, e1, e2, ⟨⟨u, hv, hp, hb⟩, hF⟩, st⟩ | ⟨q, st₀, t, T', L, E, ce, h0, X', hL, e1, e2, ⟨u, hp, hb, hF⟩, hce, hcv, hcl, st⟩
  · cases hv
    obtain ⟨k1, k2, k3⟩ := vx_keep h0 e1 hS hA hf hL hF
    obtain ⟨t2, a1, b1⟩ := kk u t T'.heap (locs ++ L) e1.symm (by rw [← e2]; exact X'.warmed.alike) hp hb k1 k2 k3 T' rfl X'
    exact ⟨t2, st t2 a1, b1⟩
  · obtain ⟨k1, k2, k3⟩ := vx_keep h0 e1 hS hAX hf hL hF
    obtain ⟨t2, a1, b1⟩ := kx E ce q u t T'.heap (locs ++ L) e1.symm (by rw [← e2]; exact X'.warmed.alike) hp hb k1 k2 k3 (by rw [e1]; exact hce) hcv hcl T' rfl X'
    exact ⟨t2, st.trans a1, b1⟩
/-- caught by the row x of this method's table; the rows ahead don't take it -/
theorem vx_catch {own name : String} {E : String} {ce : Cell} {q : Addr} (hown : s.vm.findClass own = some m.cls) (pre : List ExceptionTableEntry) (x : ExceptionTableEntry) (suf : List ExceptionTableEntry) (hsplit : c.exceptionTable.toList = pre ++ x :: suf)
    (hpass : ∀ z ∈ pre, covers z pc = false ∨ (z.catchType ≠ 0 ∧ ∃ nm : String, (Cond.classLink own z.catchType nm).before args s = true ∧ va_Nc E nm s)) (hx : covers x pc = true) (h0 : x.catchType ≠ 0)
    (hlink : (Cond.classLink own x.catchType name).before args s = true) (hcast : (Cond.castable E name).before args s = true) (hcell : H[q]? = some ce) (hv : ce.vm = .none) (hcl : s.vm.findClass E = some ce.cls)
    (kk : W p l e R s m args below meth c H locs cells slots Q (F0 m x.handlerPc ls [.ref q])) : vx_W p l e R s m args below meth c H locs cells slots Q (F0 m pc ls rest) q := by
  intro T hT X
  have hpl : e.platform.magicAccessors = ({} : Platform).magicAccessors := by rw [X.admits.platform]
  obtain ⟨c3, c4, hc3, hc4, hasg⟩ := Cond.castable_spec hcast
  cases Option.some.inj (hc3.symm.trans hcl)
  obtain ⟨c5, hc5, hcl5⟩ := Cond.classLink_spec hown hlink e.platform hpl
  cases Option.some.inj (hc4.symm.trans hc5)
  obtain ⟨vm', X', st⟩ := X.thenCaughtThrough q (g := F0 m pc ls rest) rfl (Steps.refl _) (by rw [hT]; exact hcell) (by rw [hv]; rfl) (by obtain ⟨k9, h9, -⟩ := Vm.findClass_spec hcl; exact ⟨k9, h9⟩) pre x suf hsplit
    (fun z hz => by
      rcases hpass z hz with h | ⟨hz0, nm, hl1, hn1⟩
      · exact Or.inl h
      · obtain ⟨c6, hc6, hcl6⟩ := Cond.classLink_spec hown hl1 e.platform hpl
        obtain ⟨a8, b8, h1, h2, h3⟩ := hn1
        cases Option.some.inj (h1.symm.trans hcl)
        cases Option.some.inj (h2.symm.trans hc6)
        exact Or.inr ⟨hz0, _, hcl6, h3⟩) hx (Or.inr ⟨h0, c4, hcl5, hasg⟩)
  obtain ⟨t, a1, b1⟩ := kk (T.setVm vm') hT X'
  exact ⟨t, st.trans a1, b1⟩
end Rows
section Ends
variable {p : Program} {l : Launch} {e : Env} {R : Room} {s : State} {m : MethodId} {args : Array Value} {below : List Frame} {meth : Method} {c : Code} {H : Heap} {locs : List Loc} {cells slots : Nat} {Q : State → Prop}
variable {mc ms : Nat} {free : Addr → Prop} {A0 A1 : Nat → Prop} {H0 : Heap} {a : Array Value} {ls : Array Slot} {st0 rest : List Value}
variable {Qc : Array Value → State → Outcome → State → Prop} {XC : String → State → State → Prop}
/-- what a body that may throw owes at its end -/
def vx_MQ (below : List Frame) (Qc : Array Value → State → Outcome → State → Prop) (XC : String → State → State → Prop) (a : Array Value) (s : State) (mc ms : Nat) (free : Addr → Prop) : State → Prop := fun t =>
  ∃ o, t.status = .running ∧ Ended t below o ∧ vx_Q Qc XC mc ms free a s o t
theorem vx_ret {g : JFrame} {mc ms : Nat} (k : W p l e R s m args below meth c H locs cells slots (MQ below Qc args s mc ms free) g) : W p l e R s m args below meth c H locs cells slots (vx_MQ below Qc XC args s mc ms free) g := by
  intro T hT X
  obtain ⟨t, a1, o, b1, b2, b3, b4⟩ := k T hT X
  exact ⟨t, a1, o, b1, b2, Or.inl ⟨b3, b4⟩⟩
/-- not caught here: it goes on to the caller -/
theorem vx_widen {g : JFrame} {q : Addr} {k n : Nat} (h1 : cells ≤ k) (h2 : slots ≤ n) (kk : vx_W p l e R s m args below meth c H locs k n Q g q) : vx_W p l e R s m args below meth c H locs cells slots Q g q := fun T hT X => kk T hT (stand_widen X h1 h2)
theorem vx_out {pc : Nat} {E : String} {ce : Cell} {q : Addr} {mc ms : Nat} (hout : ∀ x ∈ c.exceptionTable.toList, covers x pc = false) (hlocks : meth.locks = false) (hcell : H[q]? = some ce) (hv : ce.vm = .none) (hcl : s.vm.findClass E = some ce.cls)
    (hx : ∀ t : State, t.heap = H → s.vm.Alike t.vm → XC E s t) (hf : ∀ z ∈ locs, free z.base) (hc : cells ≤ mc) (hs : slots ≤ ms) :
    vx_W p l e R s m args below meth c H locs cells slots (vx_MQ below Qc XC args s mc ms free) (F0 m pc ls rest) q := by
  intro T hT X
  obtain ⟨st1, hrun, hend, hW, hsm⟩ := X.leaveThrown q (g := F0 m pc ls rest) rfl rfl rfl hout hlocks
  have hcell9 : (T.setFrames (.throwing q :: below)).heap[q]? = some ce := by
    show T.heap[q]? = some ce
    rw [hT]; exact hcell
  exact ⟨_, st1, .threw q, hrun, hend, Or.inr ⟨q, rfl, E, ce, locs, hx _ hT hW.alike, hcell9, hv, hcl, hW, hsm.mono hc hs, hf⟩⟩
theorem vx_frame {U : State} {k n : Nat} (h : s.sameButNew ({ U with vm := s.vm } : State) locs k n) : s.heap.size ≤ U.heap.size ∧ ∀ q : Nat, q < s.heap.size → (∀ z ∈ locs, z.base ≠ q) → U.heap[q]? = s.heap[q]? := by
  obtain ⟨-, h2, -, -, -, h6⟩ := h
  refine ⟨h2, fun q hq hz => ?_⟩
  obtain ⟨c9, e1, e2, e3, e4⟩ := h6 q _ (Array.getElem?_eq_getElem hq)
  have hs : c9.slots = (s.heap[q]).slots := Array.ext_getElem? fun i => e4 i fun hm => hz _ hm rfl
  have h9 : c9 = s.heap[q] := by
    rw [hs] at e2
    exact e2
  have e5 : U.heap[q]? = some c9 := e1
  rw [e5, h9, Array.getElem?_eq_getElem hq]
/-- the words of a throw but the four that speak of the heap -/
def vx_no (w : Cond) : Bool := decide (w ≠ .isRef (.static Bundle.tN "UNASSIGNED_STACK" Bundle.steD)) && decide (w ≠ .isRef (.static Bundle.tN "SUPPRESSED_SENTINEL" Bundle.listD)) && decide (w ≠ .laysStatic Bundle.tN "UNASSIGNED_STACK" Bundle.steD) && decide (w ≠ .laysStatic Bundle.tN "SUPPRESSED_SENTINEL" Bundle.listD)
def vx_at0 (own : String) (ic : Nat) (X : String) (names : List String) : List Cond := (Bundle.ownAtoms0 own ic X names).filter vx_no
def vx_atS (own : String) (ic : Nat) (X : String) (names : List String) : List Cond := (Bundle.ownAtoms own ic X names).filter vx_no
/-- a word that the tables alone decide, or a good one -/
def vx_ot (w : Cond) : Bool := w.onTables || goodWord w
theorem vx_ot_at {args a' : Array Value} {s U : State} {w : Cond} (hW : s.WarmedH U.vm) (hvm : s.vm = U.vm) (hg : vx_ot w = true) (h : w.before args s = true) : w.before a' U = true := by
  simp only [vx_ot, Bool.or_eq_true] at hg
  rcases hg with hg | hg
  · exact va_tabs hg hvm h
  · exact word_at hW (good_of_word hg) h
/-- a list's words: the good ones out of the method's own list, the others by premises of their own -/
theorem vx_hat {args : Array Value} {s : State} {L B : List Cond} (h1 : ∀ w ∈ L.filter goodWord, w.before args s = true) (h2 : ∀ w ∈ L.filter (fun w => !goodWord w), w ∈ B) (h3 : ∀ w ∈ B, w.before args s = true) : ∀ w ∈ L, w.before args s = true := by
  intro w hw
  by_cases g : goodWord w = true
  · exact h1 w (List.mem_filter.mpr ⟨hw, g⟩)
  · refine h3 w (h2 w (List.mem_filter.mpr ⟨hw, ?_⟩))
    show (!goodWord w) = true
    cases hgw : goodWord w
    · rfl
    · exact absurd hgw g
theorem vx_c {args : Array Value} {s : State} {w : Cond} {B : List Cond} (h : w.before args s = true) (t : ∀ w ∈ B, w.before args s = true) : ∀ w' ∈ w :: B, w'.before args s = true := fun w' h' => (List.mem_cons.mp h').elim (fun e => by rw [e]; exact h) (t w')
theorem vx_n {args : Array Value} {s : State} : ∀ w ∈ ([] : List Cond), w.before args s = true := fun _ h => nomatch h
theorem vx_own {args : Array Value} {s : State} {L : List Cond} (h1 : ∀ w ∈ L.filter vx_no, w.before args s = true)
    (hU : (Cond.isRef (.static Bundle.tN "UNASSIGNED_STACK" Bundle.steD)).before args s = true) (hN : (Cond.isRef (.static Bundle.tN "SUPPRESSED_SENTINEL" Bundle.listD)).before args s = true)
    (lU : (Cond.laysStatic Bundle.tN "UNASSIGNED_STACK" Bundle.steD).before args s = true) (lN : (Cond.laysStatic Bundle.tN "SUPPRESSED_SENTINEL" Bundle.listD).before args s = true) : ∀ w ∈ L, w.before args s = true := by
  intro w hw
  by_cases e1 : w = .isRef (.static Bundle.tN "UNASSIGNED_STACK" Bundle.steD)
  · rw [e1]; exact hU
  · by_cases e2 : w = .isRef (.static Bundle.tN "SUPPRESSED_SENTINEL" Bundle.listD)
    · rw [e2]; exact hN
    · by_cases e3 : w = .laysStatic Bundle.tN "UNASSIGNED_STACK" Bundle.steD
      · rw [e3]; exact lU
      · by_cases e4 : w = .laysStatic Bundle.tN "SUPPRESSED_SENTINEL" Bundle.listD
        · rw [e4]; exact lN
        · exact h1 w (List.mem_filter.mpr ⟨hw, by unfold vx_no; rw [decide_eq_true e1, decide_eq_true e2, decide_eq_true e3, decide_eq_true e4]; rfl⟩)
/-- where a static field lies, its class's statics cell in H -/
def vx_L (C n d : String) (A : Nat → Prop) (U : State) (H : Heap) : Prop := ∃ (c : ClassId) (k : Class) (i : Nat) (f : Field) (a : Nat) (cell : Cell), U.vm.findClass C = some c ∧ U.fieldFound? C n d = some (c, k, i, f) ∧ f.isStatic = true ∧ k.statics = some a ∧ H[a]? = some cell ∧ cell.vm.isStatics = true ∧ cell.cls = c ∧ f.slot < cell.slots.size ∧ k.staticTypes[f.slot]? = some f.type ∧ ¬ A a
theorem vx_L.moved {C n d : String} {A : Nat → Prop} {u U : State} {H : Heap} (hvm : u.vm.Alike U.vm) (h : vx_L C n d A u H) : vx_L C n d A U H := by
  obtain ⟨c, k, i, f, a, cell, h1, h2, h3, h4, h5, h6, h7, h8, h9, h10⟩ := h
  obtain ⟨k', hi', he⟩ := State.fieldFound?_setVm hvm h2
  exact ⟨c, k', i, f, a, cell, by rw [hvm.findClass]; exact h1, hi', h3, by rw [he]; exact h4, h5, h6, h7, h8, by rw [he]; exact h9, h10⟩
theorem vx_L.kept {C n d : String} {A : Nat → Prop} {U : State} {H H1 : Heap} (h : vx_L C n d A U H) (hq : ∀ a : Nat, a < H.size → ¬ A a → H1[a]? = H[a]?) : vx_L C n d A U H1 := by
  obtain ⟨c, k, i, f, a, cell, h1, h2, h3, h4, h5, h6, h7, h8, h9, h10⟩ := h
  exact ⟨c, k, i, f, a, cell, h1, h2, h3, h4, by rw [hq a (Array.getElem?_eq_some_iff.mp h5).1 h10]; exact h5, h6, h7, h8, h9, h10⟩
theorem vx_L.narrow {C n d : String} {A B : Nat → Prop} {U : State} {H : Heap} (h : vx_L C n d A U H) (hAB : ∀ q, B q → A q) : vx_L C n d B U H := by
  obtain ⟨c, k, i, f, a, cell, h1, h2, h3, h4, h5, h6, h7, h8, h9, h10⟩ := h
  exact ⟨c, k, i, f, a, cell, h1, h2, h3, h4, h5, h6, h7, h8, h9, fun z => h10 (hAB _ z)⟩
theorem vx_L.word {C n d : String} {A : Nat → Prop} {s : State} {args : Array Value} (h : vx_L C n d A s s.heap) : (Cond.laysStatic C n d).before args s = true := by
  obtain ⟨c, k, i, f, a, cell, h1, h2, h3, h4, h5, h6, h7, h8, h9, -⟩ := h
  show (Cond.laysStatic C n d).holds args s none s [] = true
  exact Cond.laysStatic_of h1 h2 h3 h4 h5 h6 h7 h8 h9
/-- .. and what it holds: null or some reference -/
def vx_Zq (C n d : String) (A : Nat → Prop) (U : State) (H : Heap) : Prop := va_Zq C n d A U H ∧ vx_L C n d A U H
theorem vx_Zq.moved {C n d : String} {A : Nat → Prop} {u U : State} {H : Heap} (hvm : u.vm.Alike U.vm) (h : vx_Zq C n d A u H) : vx_Zq C n d A U H := ⟨va_Zq.moved hvm h.1, vx_L.moved hvm h.2⟩
theorem vx_Zq.kept {C n d : String} {A : Nat → Prop} {U : State} {H H1 : Heap} (h : vx_Zq C n d A U H) (hq : ∀ a : Nat, a < H.size → ¬ A a → H1[a]? = H[a]?) : vx_Zq C n d A U H1 := ⟨va_Zq.kept h.1 hq, vx_L.kept h.2 hq⟩
theorem vx_Zq.narrow {C n d : String} {A B : Nat → Prop} {U : State} {H : Heap} (h : vx_Zq C n d A U H) (hAB : ∀ q, B q → A q) : vx_Zq C n d B U H := ⟨va_Zq.narrow h.1 hAB, vx_L.narrow h.2 hAB⟩
theorem vx_Zqof {args : Array Value} {s : State} {C n d : String} {A : Nat → Prop} (hl : (Cond.laysStatic C n d).before args s = true) (hini : (Cond.initialized C).before args s = true) (h : (Cond.isRef (.static C n d)).before args s = true) (hA : ∀ a : Nat, a < s.heap.size → ¬ A a) : vx_Zq C n d A s s.heap := by
  refine ⟨va_Zqof hl hini h hA, ?_⟩
  obtain ⟨c, k, i, f, a, cell, h1, h2, h3, h4, h5, h6, h7, h8, h9⟩ := Cond.laysStatic_spec hl
  exact ⟨c, k, i, f, a, cell, h1, h2, h3, h4, h5, h6, h7, h8, h9, hA a (Array.getElem?_eq_some_iff.mp h5).1⟩
theorem vx_isRef {C n d : String} {v : Value} {A : Nat → Prop} {s : State} {args : Array Value} (h : va_Z C n d v A s s.heap) (hv : v.isRef = true) : (Cond.isRef (.static C n d)).before args s = true := by
  obtain ⟨cf, kf, fi, f, a, cell, h1, h2, h3, h4, h5, h6, h7, -⟩ := h
  have he : (Term.static C n d).eval args s none [] s = some v := by
    simp [Term.eval, State.fieldNamed?, h1, h2, h4, h5, h6, h7]
  simp only [Cond.before, Cond.holds, Cond.value, he]
  cases v <;> simp_all [Value.isRef]
theorem vx_isRefq {C n d : String} {A : Nat → Prop} {s : State} {args : Array Value} (h : va_Zq C n d A s s.heap) : (Cond.isRef (.static C n d)).before args s = true := by
  rcases h with h | ⟨t, h⟩
  · exact vx_isRef h rfl
  · exact vx_isRef h rfl
/-- the same frame, seen from here: as if the method were called anew in this heap -/
theorem vx_rebase {T : State} (X : Stand p l e R s m args below meth c T locs cells slots) {R' : Room} (hf : R'.frames ≤ R.frames) (hl : R'.locals ≤ R.locals) (hc : cells + R'.cells ≤ R.cells) (hs : slots + R'.slots ≤ R.slots) :
    Stand p l e R' ((T.setVm s.vm).setFrames (.invoking m args :: below)) m args below meth c T [] 0 0 := by
  have htop : (T.setVm s.vm).topJava?.isSome := X.here.top
  have hF : ((T.setVm s.vm).setFrames (.invoking m args :: below)).frames = .invoking m args :: below := State.frames_setFrames _ (State.cur_lt_of_top htop)
  obtain ⟨g₀, hg0⟩ := Option.isSome_iff_exists.mp htop
  obtain ⟨r, hr⟩ := State.topJava?_eq_some.mp hg0
  have hl9 : e.platform.stackLimits (T.setVm s.vm).me = e.platform.stackLimits s.me := X.limits
  have hb9 : (T.setVm s.vm).me.stackBytes = s.me.stackBytes := X.bytes
  refine ⟨X.admits, X.cas, X.clock, hF, ?_, X.hears, X.method, X.code, X.here, X.tail, X.warmed, ?_, ?_, ?_⟩
  · have h := X.room
    have hU : ((T.setVm s.vm).setFrames (.invoking m args :: below)).localsInUse = s.localsInUse := by
      rw [State.localsInUse_invoking hF (meth := meth) (c := c) X.method X.code, State.localsInUse_invoking X.frames X.method X.code]
    simp only [State.hasRoom, Bool.and_eq_true, decide_eq_true_eq] at h ⊢
    obtain ⟨⟨⟨⟨h1, h2, h3, h4, h5, h6⟩, h7⟩, h8⟩, h9⟩ := h
    rw [X.frames, List.length_cons] at h2 h3
    have q1 := X.heapSize
    have q2 := X.used
    simp only [hF, hU, List.length_cons, State.stackLimits_setFrames, State.stackBytes_setFrames, hl9, hb9]
    refine ⟨⟨⟨⟨by omega, by omega, by omega, by omega, by omega, h6⟩, ?_⟩, ?_⟩, X.book⟩
    · show T.heap.size + R'.cells ≤ e.platform.maxCells
      omega
    · show T.slotsUsed + R'.slots ≤ e.platform.maxSlots
      omega
  · rw [State.stackLimits_setFrames]; rfl
  · rw [State.stackBytes_setFrames]; rfl
  · refine ⟨?_, Nat.le_refl _, Nat.le_refl _, ?_, ?_, fun a c9 h9 => ⟨c9, h9, rfl, rfl, fun _ _ => rfl⟩⟩
    · obtain ⟨t, ht, -⟩ := State.frames_cons hr
      show T.setVm s.vm = { ((T.setVm s.vm).setFrames (.invoking m args :: below)).setFrames (T.setVm s.vm).frames with heap := T.heap, slotsUsed := T.slotsUsed }
      rw [State.setFrames_setFrames, State.setFrames_self ht]
      rfl
    · show T.slotsUsed = T.slotsUsed + ((T.heap.toList.drop T.heap.size).map (·.slots.size)).sum
      rw [List.drop_eq_nil_of_le (Nat.le_of_eq Array.length_toList)]
      rfl
    · show ((T.heap.toList.drop T.heap.size).map (·.slots.size)).sum ≤ 0
      rw [List.drop_eq_nil_of_le (Nat.le_of_eq Array.length_toList)]
      exact Nat.le_refl _
/-- 'throw new E()': new; dup; invokespecial; athrow -/
theorem vx_throw0 {cc : ByteArray} {pc : Nat} (hexec : p.tables.exec = Jvm.exec) (hb : c.code = cc) (hl : l.stackTraces = false) {own cls : String} {names : List String} {ik ic mc ms : Nat} {A : Nat → Prop}
    (hown : s.vm.findClass own = some m.cls) (hcls : Bundle.fit cls = true) (hnames : ∀ n ∈ names, Bundle.fit n = true)
    (hk : (Cond.classLink own ik cls).before args s = true) (hini : (Cond.initialized cls).before args s = true) (hat : ∀ w ∈ vx_at0 own ic cls names, w.before args s = true)
    (hgood : ∀ w ∈ Cond.classLink own ik cls :: Cond.initialized cls :: vx_at0 own ic cls names, vx_ot w = true)
    (hU : vx_Zq Bundle.tN "UNASSIGNED_STACK" Bundle.steD A s s.heap) (hN : vx_Zq Bundle.tN "SUPPRESSED_SENTINEL" Bundle.listD A s s.heap) (hS : va_S A s.heap H locs) (hsize : ls.size = c.maxLocals)
    (d0 : decode cc pc = .ok (.new ik, 3)) (d3 : decode cc (pc + 3) = .ok (.dup, 1)) (d4 : decode cc (pc + 4) = .ok (.invokespecial ic, 3)) (d7 : decode cc (pc + 7) = .ok (.athrow, 1))
    (hout : ∀ x ∈ c.exceptionTable.toList, covers x (pc + 7) = false)
    (hRframes : names.length + 3 < R.frames) (hRlocals : (rest.map fun v => v.category).sum + (13 * (names.length + 1) + 42) ≤ R.locals) (hRcells : cells + 1 ≤ R.cells) (hRslots : slots + 6 ≤ R.slots) (hlocks : meth.locks = false)
    (hx : ∀ t : State, s.vm.Alike t.vm → H.size ≤ t.heap.size → (∀ q : Nat, q < H.size → t.heap[q]? = H[q]?) → XC cls s t)
    (hf : ∀ z ∈ locs, free z.base) (hc : cells + 1 ≤ mc) (hs : slots + 6 ≤ ms) :
    W p l e R s m args below meth c H locs cells slots (vx_MQ below Qc XC args s mc ms free) (F0 m pc ls rest) := by
  intro T hT X
  have htr : e.platform.stackTraces = false := (show e.platform.stackTraces = l.stackTraces by rw [X.admits.platform]).trans hl
  have Y := vx_rebase X (R' := { frames := R.frames, locals := R.locals, cells := 1, slots := 6 }) (Nat.le_refl _) (Nat.le_refl _) hRcells hRslots
  obtain ⟨s', hA⟩ : ∃ z, z = (T.setVm s.vm).setFrames (.invoking m args :: below) := ⟨_, rfl⟩
  rw [← hA] at Y
  have hvm : s'.vm = s.vm := by rw [hA]; rfl
  have hhp : s'.heap = H := by rw [hA]; exact hT
  have hW0 : s.WarmedH s'.vm := by rw [hvm]; exact State.WarmedH.refl s
  have hat' : ∀ w ∈ vx_at0 own ic cls names, w.before args s' = true := fun w hw => vx_ot_at hW0 hvm.symm (hgood w (List.mem_cons_of_mem _ (List.mem_cons_of_mem _ hw))) (hat w hw)
  have hk' : (Cond.classLink own ik cls).before args s' = true := vx_ot_at hW0 hvm.symm (hgood _ List.mem_cons_self) hk
  have hini' : (Cond.initialized cls).before args s' = true := vx_ot_at hW0 hvm.symm (hgood _ (List.mem_cons_of_mem _ List.mem_cons_self)) hini
  have hU' : vx_Zq Bundle.tN "UNASSIGNED_STACK" Bundle.steD A s' s'.heap := by rw [hhp]; exact vx_Zq.moved hW0.alike (hU.kept hS.2.1)
  have hN' : vx_Zq Bundle.tN "SUPPRESSED_SENTINEL" Bundle.listD A s' s'.heap := by rw [hhp]; exact vx_Zq.moved hW0.alike (hN.kept hS.2.1)
  have h : ∀ w ∈ Bundle.ownAtoms0 own ic cls names, w.before args s' = true := vx_own hat' (vx_isRefq hU'.1) (vx_isRefq hN'.1) hU'.2.word hN'.2.word
  have hown' : s'.vm.findClass own = some m.cls := by rw [hvm]; exact hown
  have hins : (Cond.instantiable cls 6).before args s' = true := h _ (by simp [Bundle.ownAtoms0])
  obtain ⟨vm₁, cX, kX, hfX, hkX, -, -, X₁, st1⟩ := Y.newCold hexec (own := own) (C := cls) (index := ik) (n := 6) hown' hk' hins hini'
    (g := F0 m pc ls rest) rfl (by rw [hb]; exact d0) (Nat.le_refl _) (Nat.le_refl _)
  generalize hT1 : (T.setVm vm₁).pushCell { cls := cX, slots := kX.instanceTypes.map defaultValue, vm := .none } = T1 at X₁ st1
  have hcat : (Value.ref T.heap.size).category = 1 := rfl
  have hcellA : T1.heap[T.heap.size]? = some (freshCell cX kX) := by rw [← hT1]; exact State.heap_pushCell_size _ _
  have d3' : decode c.code (pc + 3) = .ok (.dup, 1) := by rw [hb]; exact d3
  obtain ⟨U, hsteps, hrun, hend, hW, hsame, ce, hce, hO⟩ := X₁.ctorThrow0 hexec htr (own := own) (cls := cls) (names := names) (ic := ic) hown' hcls hnames h (fun x hx => nomatch hx) hfX hkX hcellA (by rw [hhp, hT]; exact Nat.le_refl _)
    (g := { method := m, pc := pc + 4, locals := ls, stack := .ref T.heap.size :: .ref T.heap.size :: rest, locked := none }) rfl hsize rfl rfl (rest := rest) rfl
    (by rw [hb]; exact d4) (by rw [hb]; exact d7) hout hRframes (by simp only [List.map_cons, List.sum_cons, hcat]; omega) hlocks
  obtain ⟨f1, f2⟩ := vx_frame hsame
  rw [hhp] at f1 f2
  have hWs : s.WarmedH U.vm := State.WarmedH.trans hW0 hW
  have hcl : s.vm.findClass cls = some ce.cls := by
    have h9 := hO.cls
    rw [hvm] at h9
    exact h9
  have hall : s.sameButNew ({ U with vm := s.vm } : State) locs mc ms := by
    subst hA
    obtain ⟨e1, e2⟩ := hsame
    rw [State.setFrames_setFrames] at e1
    have h2 : (T.setVm s.vm).sameButNew ({ U with vm := s.vm } : State) [] (0 + 1) (0 + 6) := ⟨e1, e2⟩
    have h3 := X.same.trans h2
    rw [List.append_nil] at h3
    exact h3.mono hc hs
  refine ⟨U, ?_, .threw T.heap.size, hrun, hend, Or.inr ⟨T.heap.size, rfl, cls, ce, locs, hx U hWs.alike f1 (fun q hq => f2 q hq (fun z hz => nomatch hz)), hce, hO.vm, hcl, hWs, hall, hf⟩⟩
  refine st1 _ ?_
  show Steps p.tables e below (T1.setTop { method := m, pc := pc + 3, locals := ls, stack := .ref T.heap.size :: rest, locked := none }) _
  jvm_step X₁.here [X₁.here.top, hexec, d3', Value.category]
  exact hsteps
/-- 'throw new E("text")': new; dup; ldc; invokespecial; athrow -/
theorem vx_throwS {cc : ByteArray} {pc : Nat} (hexec : p.tables.exec = Jvm.exec) (hb : c.code = cc) (hl : l.stackTraces = false) {own cls text : String} {names : List String} {ik is ic mc ms sa : Nat} {A : Nat → Prop}
    (hown : s.vm.findClass own = some m.cls) (hcls : Bundle.fit cls = true) (hnames : ∀ n ∈ names, Bundle.fit n = true)
    (hk : (Cond.classLink own ik cls).before args s = true) (hini : (Cond.initialized cls).before args s = true) (hstr : vk_R own is text sa s) (hat : ∀ w ∈ vx_atS own ic cls names, w.before args s = true)
    (hgood : ∀ w ∈ Cond.classLink own ik cls :: Cond.initialized cls :: vx_atS own ic cls names, vx_ot w = true)
    (hU : vx_Zq Bundle.tN "UNASSIGNED_STACK" Bundle.steD A s s.heap) (hN : vx_Zq Bundle.tN "SUPPRESSED_SENTINEL" Bundle.listD A s s.heap) (hS : va_S A s.heap H locs) (hsize : ls.size = c.maxLocals)
    (d0 : decode cc pc = .ok (.new ik, 3)) (d3 : decode cc (pc + 3) = .ok (.dup, 1)) (d4 : decode cc (pc + 4) = .ok (.ldc is, 2)) (d6 : decode cc (pc + 6) = .ok (.invokespecial ic, 3)) (d9 : decode cc (pc + 9) = .ok (.athrow, 1))
    (hout : ∀ x ∈ c.exceptionTable.toList, covers x (pc + 9) = false)
    (hRframes : names.length + 3 < R.frames) (hRlocals : (rest.map fun v => v.category).sum + (13 * (names.length + 1) + 43) ≤ R.locals) (hRcells : cells + 1 ≤ R.cells) (hRslots : slots + 6 ≤ R.slots) (hlocks : meth.locks = false)
    (hx : ∀ t : State, s.vm.Alike t.vm → H.size ≤ t.heap.size → (∀ q : Nat, q < H.size → t.heap[q]? = H[q]?) → XC cls s t)
    (hf : ∀ z ∈ locs, free z.base) (hc : cells + 1 ≤ mc) (hs : slots + 6 ≤ ms) :
    W p l e R s m args below meth c H locs cells slots (vx_MQ below Qc XC args s mc ms free) (F0 m pc ls rest) := by
  intro T hT X
  have htr : e.platform.stackTraces = false := (show e.platform.stackTraces = l.stackTraces by rw [X.admits.platform]).trans hl
  have Y := vx_rebase X (R' := { frames := R.frames, locals := R.locals, cells := 1, slots := 6 }) (Nat.le_refl _) (Nat.le_refl _) hRcells hRslots
  obtain ⟨s', hA⟩ : ∃ z, z = (T.setVm s.vm).setFrames (.invoking m args :: below) := ⟨_, rfl⟩
  rw [← hA] at Y
  have hvm : s'.vm = s.vm := by rw [hA]; rfl
  have hhp : s'.heap = H := by rw [hA]; exact hT
  have hW0 : s.WarmedH s'.vm := by rw [hvm]; exact State.WarmedH.refl s
  have hat' : ∀ w ∈ vx_atS own ic cls names, w.before args s' = true := fun w hw => vx_ot_at hW0 hvm.symm (hgood w (List.mem_cons_of_mem _ (List.mem_cons_of_mem _ hw))) (hat w hw)
  have hk' : (Cond.classLink own ik cls).before args s' = true := vx_ot_at hW0 hvm.symm (hgood _ List.mem_cons_self) hk
  have hini' : (Cond.initialized cls).before args s' = true := vx_ot_at hW0 hvm.symm (hgood _ (List.mem_cons_of_mem _ List.mem_cons_self)) hini
  have hU' : vx_Zq Bundle.tN "UNASSIGNED_STACK" Bundle.steD A s' s'.heap := by rw [hhp]; exact vx_Zq.moved hW0.alike (hU.kept hS.2.1)
  have hN' : vx_Zq Bundle.tN "SUPPRESSED_SENTINEL" Bundle.listD A s' s'.heap := by rw [hhp]; exact vx_Zq.moved hW0.alike (hN.kept hS.2.1)
  have h : ∀ w ∈ Bundle.ownAtoms own ic cls names, w.before args s' = true := vx_own hat' (vx_isRefq hU'.1) (vx_isRefq hN'.1) hU'.2.word hN'.2.word
  have hown' : s'.vm.findClass own = some m.cls := by rw [hvm]; exact hown
  have hins : (Cond.instantiable cls 6).before args s' = true := h _ (by simp [Bundle.ownAtoms])
  obtain ⟨vm₁, cX, kX, hfX, hkX, -, -, X₁, st1⟩ := Y.newCold hexec (own := own) (C := cls) (index := ik) (n := 6) hown' hk' hins hini'
    (g := F0 m pc ls rest) rfl (by rw [hb]; exact d0) (Nat.le_refl _) (Nat.le_refl _)
  generalize hT1 : (T.setVm vm₁).pushCell { cls := cX, slots := kX.instanceTypes.map defaultValue, vm := .none } = T1 at X₁ st1
  have hcat : (Value.ref T.heap.size).category = 1 := rfl
  have hcellA : T1.heap[T.heap.size]? = some (freshCell cX kX) := by rw [← hT1]; exact State.heap_pushCell_size _ _
  have d3' : decode c.code (pc + 3) = .ok (.dup, 1) := by rw [hb]; exact d3
  have d4' : decode c.code (pc + 4) = .ok (.ldc is, 2) := by rw [hb]; exact d4
  have hstr' : vk_R own is text sa s' := vk_R.warm hW0 hstr
  obtain ⟨U, hsteps, hrun, hend, hW, hsame, ce, hce, hO⟩ := X₁.ctorThrowS hexec htr (own := own) (cls := cls) (names := names) (ic := ic) hown' hcls hnames h (fun x hx => nomatch hx) hfX hkX hcellA (by rw [hhp, hT]; exact Nat.le_refl _) (msg := .ref sa) rfl
    (g := { method := m, pc := pc + 6, locals := ls, stack := .ref sa :: .ref T.heap.size :: .ref T.heap.size :: rest, locked := none }) rfl hsize rfl rfl (rest := rest) rfl
    (by rw [hb]; exact d6) (by rw [hb]; exact d9) hout hRframes (by simp only [List.map_cons, List.sum_cons, hcat]; omega) hlocks
  obtain ⟨f1, f2⟩ := vx_frame hsame
  rw [hhp] at f1 f2
  have hWs : s.WarmedH U.vm := State.WarmedH.trans hW0 hW
  have hcl : s.vm.findClass cls = some ce.cls := by
    have h9 := hO.cls
    rw [hvm] at h9
    exact h9
  have hall : s.sameButNew ({ U with vm := s.vm } : State) locs mc ms := by
    subst hA
    obtain ⟨e1, e2⟩ := hsame
    rw [State.setFrames_setFrames] at e1
    have h2 : (T.setVm s.vm).sameButNew ({ U with vm := s.vm } : State) [] (0 + 1) (0 + 6) := ⟨e1, e2⟩
    have h3 := X.same.trans h2
    rw [List.append_nil] at h3
    exact h3.mono hc hs
  refine ⟨U, ?_, .threw T.heap.size, hrun, hend, Or.inr ⟨T.heap.size, rfl, cls, ce, locs, hx U hWs.alike f1 (fun q hq => f2 q hq (fun z hz => nomatch hz)), hce, hO.vm, hcl, hWs, hall, hf⟩⟩
  refine st1 _ ?_
  show Steps p.tables e below (T1.setTop { method := m, pc := pc + 3, locals := ls, stack := .ref T.heap.size :: rest, locked := none }) _
  jvm_step X₁.here [X₁.here.top, hexec, d3', Value.category]
  exact X₁.ldcString hexec (own := own) (text := text) (index := is) (a := sa) hown' hstr'.1 hstr'.2
    (g := { method := m, pc := pc + 4, locals := ls, stack := .ref T.heap.size :: .ref T.heap.size :: rest, locked := none }) rfl d4' _ hsteps
/-- 'throw new E("text")', the text by a wide index -/
theorem vx_throwSW {cc : ByteArray} {pc : Nat} (hexec : p.tables.exec = Jvm.exec) (hb : c.code = cc) (hl : l.stackTraces = false) {own cls text : String} {names : List String} {ik is ic mc ms sa : Nat} {A : Nat → Prop}
    (hown : s.vm.findClass own = some m.cls) (hcls : Bundle.fit cls = true) (hnames : ∀ n ∈ names, Bundle.fit n = true)
    (hk : (Cond.classLink own ik cls).before args s = true) (hini : (Cond.initialized cls).before args s = true) (hstr : vk_R own is text sa s) (hat : ∀ w ∈ vx_atS own ic cls names, w.before args s = true)
    (hgood : ∀ w ∈ Cond.classLink own ik cls :: Cond.initialized cls :: vx_atS own ic cls names, vx_ot w = true)
    (hU : vx_Zq Bundle.tN "UNASSIGNED_STACK" Bundle.steD A s s.heap) (hN : vx_Zq Bundle.tN "SUPPRESSED_SENTINEL" Bundle.listD A s s.heap) (hS : va_S A s.heap H locs) (hsize : ls.size = c.maxLocals)
    (d0 : decode cc pc = .ok (.new ik, 3)) (d3 : decode cc (pc + 3) = .ok (.dup, 1)) (d4 : decode cc (pc + 4) = .ok (.ldc_w is, 3)) (d7 : decode cc (pc + 7) = .ok (.invokespecial ic, 3)) (d10 : decode cc (pc + 10) = .ok (.athrow, 1))
    (hout : ∀ x ∈ c.exceptionTable.toList, covers x (pc + 10) = false)
    (hRframes : names.length + 3 < R.frames) (hRlocals : (rest.map fun v => v.category).sum + (13 * (names.length + 1) + 43) ≤ R.locals) (hRcells : cells + 1 ≤ R.cells) (hRslots : slots + 6 ≤ R.slots) (hlocks : meth.locks = false)
    (hx : ∀ t : State, s.vm.Alike t.vm → H.size ≤ t.heap.size → (∀ q : Nat, q < H.size → t.heap[q]? = H[q]?) → XC cls s t)
    (hf : ∀ z ∈ locs, free z.base) (hc : cells + 1 ≤ mc) (hs : slots + 6 ≤ ms) :
    W p l e R s m args below meth c H locs cells slots (vx_MQ below Qc XC args s mc ms free) (F0 m pc ls rest) := by
  intro T hT X
  have htr : e.platform.stackTraces = false := (show e.platform.stackTraces = l.stackTraces by rw [X.admits.platform]).trans hl
  have Y := vx_rebase X (R' := { frames := R.frames, locals := R.locals, cells := 1, slots := 6 }) (Nat.le_refl _) (Nat.le_refl _) hRcells hRslots
  obtain ⟨s', hA⟩ : ∃ z, z = (T.setVm s.vm).setFrames (.invoking m args :: below) := ⟨_, rfl⟩
  rw [← hA] at Y
  have hvm : s'.vm = s.vm := by rw [hA]; rfl
  have hhp : s'.heap = H := by rw [hA]; exact hT
  have hW0 : s.WarmedH s'.vm := by rw [hvm]; exact State.WarmedH.refl s
  have hat' : ∀ w ∈ vx_atS own ic cls names, w.before args s' = true := fun w hw => vx_ot_at hW0 hvm.symm (hgood w (List.mem_cons_of_mem _ (List.mem_cons_of_mem _ hw))) (hat w hw)
  have hk' : (Cond.classLink own ik cls).before args s' = true := vx_ot_at hW0 hvm.symm (hgood _ List.mem_cons_self) hk
  have hini' : (Cond.initialized cls).before args s' = true := vx_ot_at hW0 hvm.symm (hgood _ (List.mem_cons_of_mem _ List.mem_cons_self)) hini
  have hU' : vx_Zq Bundle.tN "UNASSIGNED_STACK" Bundle.steD A s' s'.heap := by rw [hhp]; exact vx_Zq.moved hW0.alike (hU.kept hS.2.1)
  have hN' : vx_Zq Bundle.tN "SUPPRESSED_SENTINEL" Bundle.listD A s' s'.heap := by rw [hhp]; exact vx_Zq.moved hW0.alike (hN.kept hS.2.1)
  have h : ∀ w ∈ Bundle.ownAtoms own ic cls names, w.before args s' = true := vx_own hat' (vx_isRefq hU'.1) (vx_isRefq hN'.1) hU'.2.word hN'.2.word
  have hown' : s'.vm.findClass own = some m.cls := by rw [hvm]; exact hown
  have hins : (Cond.instantiable cls 6).before args s' = true := h _ (by simp [Bundle.ownAtoms])
  obtain ⟨vm₁, cX, kX, hfX, hkX, -, -, X₁, st1⟩ := Y.newCold hexec (own := own) (C := cls) (index := ik) (n := 6) hown' hk' hins hini'
    (g := F0 m pc ls rest) rfl (by rw [hb]; exact d0) (Nat.le_refl _) (Nat.le_refl _)
  generalize hT1 : (T.setVm vm₁).pushCell { cls := cX, slots := kX.instanceTypes.map defaultValue, vm := .none } = T1 at X₁ st1
  have hcat : (Value.ref T.heap.size).category = 1 := rfl
  have hcellA : T1.heap[T.heap.size]? = some (freshCell cX kX) := by rw [← hT1]; exact State.heap_pushCell_size _ _
  have d3' : decode c.code (pc + 3) = .ok (.dup, 1) := by rw [hb]; exact d3
  have d4' : decode c.code (pc + 4) = .ok (.ldc_w is, 3) := by rw [hb]; exact d4
  have hstr' : vk_R own is text sa s' := vk_R.warm hW0 hstr
  obtain ⟨U, hsteps, hrun, hend, hW, hsame, ce, hce, hO⟩ := X₁.ctorThrowS hexec htr (own := own) (cls := cls) (names := names) (ic := ic) hown' hcls hnames h (fun x hx => nomatch hx) hfX hkX hcellA (by rw [hhp, hT]; exact Nat.le_refl _) (msg := .ref sa) rfl
    (g := { method := m, pc := pc + 7, locals := ls, stack := .ref sa :: .ref T.heap.size :: .ref T.heap.size :: rest, locked := none }) rfl hsize rfl rfl (rest := rest) rfl
    (by rw [hb]; exact d7) (by rw [hb]; exact d10) hout hRframes (by simp only [List.map_cons, List.sum_cons, hcat]; omega) hlocks
  obtain ⟨f1, f2⟩ := vx_frame hsame
  rw [hhp] at f1 f2
  have hWs : s.WarmedH U.vm := State.WarmedH.trans hW0 hW
  have hcl : s.vm.findClass cls = some ce.cls := by
    have h9 := hO.cls
    rw [hvm] at h9
    exact h9
  have hall : s.sameButNew ({ U with vm := s.vm } : State) locs mc ms := by
    subst hA
    obtain ⟨e1, e2⟩ := hsame
    rw [State.setFrames_setFrames] at e1
    have h2 : (T.setVm s.vm).sameButNew ({ U with vm := s.vm } : State) [] (0 + 1) (0 + 6) := ⟨e1, e2⟩
    have h3 := X.same.trans h2
    rw [List.append_nil] at h3
    exact h3.mono hc hs
  refine ⟨U, ?_, .threw T.heap.size, hrun, hend, Or.inr ⟨T.heap.size, rfl, cls, ce, locs, hx U hWs.alike f1 (fun q hq => f2 q hq (fun z hz => nomatch hz)), hce, hO.vm, hcl, hWs, hall, hf⟩⟩
  refine st1 _ ?_
  show Steps p.tables e below (T1.setTop { method := m, pc := pc + 3, locals := ls, stack := .ref T.heap.size :: rest, locked := none }) _
  jvm_step X₁.here [X₁.here.top, hexec, d3', Value.category]
  exact X₁.ldcStringW hexec (own := own) (text := text) (index := is) (a := sa) hown' hstr'.1 hstr'.2
    (g := { method := m, pc := pc + 4, locals := ls, stack := .ref T.heap.size :: .ref T.heap.size :: rest, locked := none }) rfl d4' _ hsteps
end Ends
section Bodies
variable {l : Launch}
theorem vx_ofW {y : MethodName} {ws ws' : List Cond} {rm : Room} {Pc : Array Value → State → Prop} {Qc : Array Value → State → Outcome → State → Prop} {XC : String → State → State → Prop} {mc ms : Nat} {free : Addr → Prop} {cc : ByteArray} {maxL : Nat} {ret : Option FieldType}
    (hy : plainName y.cls = true) (hw : ws = Cond.code y cc maxL ret :: ws')
    (body : ∀ p e s m args below meth c s₁, BodyLoose p l y (headSpec ws rm) cc maxL ret e s m args below meth c s₁ → c.maxLocals = maxL → (∀ x ∈ c.exceptionTable.toList, False) → Pc args s →
      W p l e (headSpec ws rm).room s m args below meth c s.heap [] 0 0 (vx_MQ below Qc XC args s mc ms free) (entryFrame m args maxL)) : vx_Met l y ws rm Pc Qc XC mc ms free := by
  refine MetFree.of_bodyS (code := cc) (maxLocals := maxL) (ret := ret) hy ?_ ?_
  · intro args s m h hn
    obtain ⟨meth, c, h1, h2, h3, h4, h5, h6, -, -⟩ := Cond.code_spec hn (atoms_spec (ws := ws) h _ (by rw [hw]; exact List.mem_cons_self))
    exact ⟨meth, c, h1, h2, h3, h4, h5, h6⟩
  · intro p e s m args below meth c s₁ B hml hP _
    have hh0 : s₁.heap = s.heap := by rw [B.state]; rfl
    have ht : ∀ x ∈ c.exceptionTable.toList, False := by
      obtain ⟨meth9, c9, h1, h2, -, -, -, -, h7, -⟩ := Cond.code_spec B.named (atoms_spec (ws := ws) B.pre _ (by rw [hw]; exact List.mem_cons_self))
      cases Option.some.inj (h1.symm.trans B.method)
      cases Option.some.inj (h2.symm.trans (Stand.of_body B).code)
      intro x hx
      rw [Array.isEmpty_iff.mp h7] at hx
      cases hx
    obtain ⟨t, a1, o, b1, b2, b3⟩ := body p e s m args below meth c s₁ B hml ht hP s₁ hh0 (Stand.of_body B)
    exact ⟨t, o, a1, b1, b2, b3⟩
/-- the table of a body with handlers -/
theorem vx_table {p : Program} {x y : MethodName} {S : Spec} {cc bytes : ByteArray} {maxL maxL' : Nat} {ret ret' : Option FieldType} {e : Env} {s s₁ : State} {m : MethodId} {args : Array Value} {below : List Frame} {meth : Method} {c : Code} {hh : List (Nat × Nat × Nat × Nat)}
    (B : BodyLoose p l y S cc maxL ret e s m args below meth c s₁) (h : (Cond.codeWith y bytes maxL' ret' hh).before args s = true) : c.exceptionTable.toList = tableOf hh := by
  obtain ⟨m9, meth9, c9, hn9, h1, h2, -, -, h6, -⟩ := Cond.codeWith_spec h
  cases Option.some.inj (hn9.symm.trans B.named)
  cases Option.some.inj (h1.symm.trans B.method)
  cases Option.some.inj (h2.symm.trans (Stand.of_body B).code)
  rw [← h6, table_eq]
end Bodies
end VXA
/-! ===== END ===== -/
/-! ===== BEGIN a static call of a method with an exception table ===== -/
section VXS
variable {p : Program} {l : Launch} {e : Env} {R : Room} {s : State} {m : MethodId} {args : Array Value} {below : List Frame} {meth : Method} {c : Code} {T : State} {H : Heap} {locs : List Loc} {cells slots : Nat}
abbrev vx_CSW (R : Room) (s : State) (args : Array Value) (own : String) (index : Nat) (y : MethodName) (bytes : ByteArray) (maxL : Nat) (ret : Option FieldType) (hh : List (Nat × Nat × Nat × Nat)) (ws : List Cond) (rm : Room) (mc ms n : Nat) : Prop :=
  (rm.cells = mc ∧ rm.slots = ms ∧ rm.frames + 1 ≤ R.frames ∧ 8 + (maxL + 11) + rm.locals ≤ R.locals ∧ (∀ w ∈ ws, ∀ (a' : Array Value) (U : State), s.WarmedH U.vm → w.before a' U = true) ∧ Cond.codeWith y bytes maxL ret hh ∈ ws) ∧
  (Cond.codeWith y bytes maxL ret hh).before args s = true ∧ (Cond.initialized y.cls).before args s = true ∧ (y.cls ≠ "java/lang/invoke/MethodHandle" ∧ y.cls ≠ "java/lang/invoke/VarHandle") ∧
  (∀ sig, parseMethodDescriptor y.desc = some sig → n = sig.parameters.length) ∧ (Cond.methodLink own index y).before args s = true ∧ (Cond.static y).before args s = true
theorem vx_cwSW {own : String} {index maxL mc ms : Nat} {y : MethodName} {bytes : ByteArray} {ret : Option FieldType} {hh : List (Nat × Nat × Nat × Nat)} {Ts ws ws' : List Cond} {rm : Room} (n : Nat) (ht : ∀ w ∈ Ts, w.before args s = true) (hT : GoodIn Ts (va_wsS own index y ws)) (hw : ws = Cond.codeWith y bytes maxL ret hh :: ws') (hrc : rm.cells = mc) (hrs : rm.slots = ms)
    (hd : y.cls ≠ "java/lang/invoke/MethodHandle" ∧ y.cls ≠ "java/lang/invoke/VarHandle" ∧ (parseMethodDescriptor y.desc).map (fun d => d.parameters.length) = some n) (hR : rm.frames + 1 ≤ R.frames ∧ 8 + (maxL + 11) + rm.locals ≤ R.locals) :
    vx_CSW R s args own index y bytes maxL ret hh ws rm mc ms n := by
  have ok : ∀ w ∈ va_wsS own index y ws, w.before args s = true := fun w h => ht w (hT w h).1
  have hG : GoodIn Ts ws := fun w h => hT w (by unfold va_wsS; exact List.mem_append_right _ h)
  have hc : Cond.codeWith y bytes maxL ret hh ∈ ws := by rw [hw]; exact List.mem_cons_self
  refine ⟨⟨hrc, hrs, hR.1, hR.2, pay_in ht hG, hc⟩, ht _ (hG _ hc).1, ok _ (by simp [va_wsS]), ⟨hd.1, hd.2.1⟩, fun sig h => ?_, ok _ (by simp [va_wsS]), ok _ (by simp [va_wsS])⟩
  have h2 := hd.2.2
  rw [h] at h2
  exact (Option.some.inj h2).symm
theorem vx_callSW (X : Stand p l e R s m args below meth c T locs cells slots) (hexec : p.tables.exec = Jvm.exec) {own : String} {index : Nat} {y : MethodName} {bytes : ByteArray} {maxL : Nat} {ret : Option FieldType} {hh : List (Nat × Nat × Nat × Nat)}
    (hown : s.vm.findClass own = some m.cls) (hlink : (Cond.methodLink own index y).before args s = true) (hstat : (Cond.static y).before args s = true) (hinit : (Cond.initialized y.cls).before args s = true)
    (hcode : (Cond.codeWith y bytes maxL ret hh).before args s = true) (hy : y.cls ≠ "java/lang/invoke/MethodHandle" ∧ y.cls ≠ "java/lang/invoke/VarHandle")
    {W9 : Nat} {Pre : Pt → Array Value → Prop} {Post : Pt → Array Value → Option Value → Pt → Prop} (hK : Back l R p e below s args y 3 W9 Pre Post)
    {g : JFrame} (hg : g.method = m) (hsize : g.locals.size = c.maxLocals) {argsL rest : List Value} (hlen : ∀ sig, parseMethodDescriptor y.desc = some sig → argsL.length = sig.parameters.length)
    (hstack : g.stack = argsL.reverse ++ rest) (hW : 2 * g.monitorRoom + (rest.map fun v => v.category).sum ≤ W9) (hdg : decode c.code g.pc = .ok (.invokestatic index, 3))
    (hpre : ∀ vm₁, s.WarmedH vm₁ → Pre ⟨T.setVm vm₁, locs, cells, slots⟩ argsL.toArray) :
    ∃ (v : Option Value) (vm₁ : Vm) (B : Pt), s.WarmedH vm₁ ∧ Stand p l e R s m args below meth c B.U B.locs B.cells B.slots ∧ Post ⟨T.setVm vm₁, locs, cells, slots⟩ argsL.toArray v B ∧
      ∀ target, Steps p.tables e below (B.U.setTop { g with pc := g.pc + 3, stack := v.toList ++ rest }) target → Steps p.tables e below (T.setTop g) target := by
  obtain ⟨mk, methM, cM, hnamed, hmethM, -, -, -, -, -, -, hsigM⟩ := Cond.codeWith_spec hcode
  have hstatic : methM.isStatic = true := Cond.static_spec hnamed hmethM hstat
  obtain ⟨kP, hkP, -⟩ := className_of_methodNamed hnamed
  have hinitP : kP.init = .initialized := Cond.initialized_spec (findClass_of_methodNamed hnamed) hkP hinit
  obtain ⟨vm₁, X₁, hstep₁⟩ := X.invokestatic hexec hown hlink hnamed hmethM hstatic hkP hinitP hy (g := g) hg (argsL := argsL) (rest := rest) (hlen _ hsigM) hstack hdg
  obtain ⟨v, B, X', hpost, hsteps⟩ := hK m meth c ⟨T.setVm vm₁, locs, cells, slots⟩ { g with stack := rest } (.invokestatic index) mk argsL.toArray X₁ hg hsize hdg hW (X₁.named hnamed) (hpre vm₁ X₁.warmed)
  exact ⟨v, vm₁, B, X₁.warmed, X', hpost, fun target h => hstep₁ _ fun acts => by rw [doInvoke_state]; exact hsteps.trans h⟩
theorem vx_runSW {y : MethodName} {bytes cc : ByteArray} {maxL nL mc ms n index : Nat} {ret : Option FieldType} {hh : List (Nat × Nat × Nat × Nat)} {ws : List Cond} {rm : Room} {Pc : Array Value → State → Prop} {Qc : Array Value → State → Outcome → State → Prop} {free : Addr → Prop} {Ts : List Cond} {own : String} {As rest : List Value} {g : JFrame}
    (S : CallFix p m c cc nL s args Ts own) (hM : Met l y ws rm Pc Qc mc ms free) (cw : vx_CSW R s args own index y bytes maxL ret hh ws rm mc ms n) (hp : PreS s H Pc As)
    (hg : g.method = m) (hn : As.length = n) (hsize : g.locals.size = nL) (hstack : g.stack = As.reverse ++ rest) (hW : 2 * g.monitorRoom + (rest.map fun v => v.category).sum ≤ 8) (hdg : decode cc g.pc = .ok (.invokestatic index, 3)) (hf : cells + mc ≤ R.cells ∧ slots + ms ≤ R.slots) :
    va_Run p l e R s m args below meth c H locs cells slots mc ms g rest (Qc As.toArray) (free) := by
  obtain ⟨⟨hrc, hrs, hfr, hlo, hws, hcw⟩, hcode, hini, hy, hlen, hl, hstt⟩ := cw
  have hK : Back l R p e below s args y 3 8 (PreOf R mc ms Pc) (PostOf Qc mc ms free) := va_backW (hh := hh) (bytes := bytes) (maxL := maxL) (ret := ret) hM hp.1 hrc hrs hfr hlo hws hcw (fun a' U hW => word_at hW (Or.inl (by first | rfl | simp [Cond.onTables, Cond.keeps, Cond.steady])) hini)
  obtain ⟨hx, hb, hml, ho, -⟩ := S
  intro T hT X
  obtain ⟨v, vm₁, ⟨U', l2, c2, s2⟩, hW₁, X', ⟨g', mk, t, L, e1, e2, hq, h1, hL, h2, h3⟩, st⟩ := vx_callSW X hx (hh := hh) (bytes := bytes) (maxL := maxL) (ret := ret) ho hl hstt hini hcode hy hK hg (hsize.trans hml.symm) (argsL := As) (rest := rest) (fun sig h => hn.trans (hlen sig h)) hstack hW (by rw [hb]; exact hdg)
    (fun vm₁ hW₁ => ⟨hf.1, hf.2, hp.2 (T.setVm vm₁) hT hW₁⟩)
  dsimp only [Pt.U, Pt.locs, Pt.cells, Pt.slots] at X' e1 e2 h1 h2 h3 st
  subst h1; subst h2; subst h3
  exact ⟨v, (T.setVm vm₁).calling g' mk As.toArray, t, U', L, hT, X', hL, e1, e2, hq, st⟩
/-- not caught here, past rows that name other classes: it goes on to the caller -/
theorem vx_outP {p : Program} {l : Launch} {e : Env} {R : Room} {s : State} {m : MethodId} {args : Array Value} {below : List Frame} {meth : Method} {c : Code} {H : Heap} {locs : List Loc} {cells slots : Nat} {free : Addr → Prop} {ls : Array Slot} {rest : List Value} {Qc : Array Value → State → Outcome → State → Prop} {XC : String → State → State → Prop}
    {pc : Nat} {own E : String} {ce : Cell} {q : Addr} {mc ms : Nat} (hown : s.vm.findClass own = some m.cls) (hlocks : meth.locks = false)
    (hpass : ∀ z ∈ c.exceptionTable.toList, covers z pc = false ∨ (z.catchType ≠ 0 ∧ ∃ nm : String, (Cond.classLink own z.catchType nm).before args s = true ∧ va_Nc E nm s)) (hcell : H[q]? = some ce) (hv : ce.vm = .none) (hcl : s.vm.findClass E = some ce.cls)
    (hx : ∀ t : State, t.heap = H → s.vm.Alike t.vm → XC E s t) (hf : ∀ z ∈ locs, free z.base) (hc : cells ≤ mc) (hs : slots ≤ ms) :
    vx_W p l e R s m args below meth c H locs cells slots (vx_MQ below Qc XC args s mc ms free) (F0 m pc ls rest) q := by
  intro T hT X
  have hpl : e.platform.magicAccessors = ({} : Platform).magicAccessors := by rw [X.admits.platform]
  obtain ⟨vm', hW', X', st⟩ := X.outThrough hlocks q (g := F0 m pc ls rest) rfl rfl rfl (cell := ce) (by rw [hT]; exact hcell) (by rw [hv]; rfl)
    (by obtain ⟨k9, h9, -⟩ := Vm.findClass_spec hcl; exact ⟨k9, h9⟩) (fun z hz => by
      rcases hpass z hz with h | ⟨hz0, nm, hl1, hn1⟩
      · exact Or.inl h
      · obtain ⟨c6, hc6, hcl6⟩ := Cond.classLink_spec hown hl1 e.platform hpl
        obtain ⟨a8, b8, h1, h2, h3⟩ := hn1
        cases Option.some.inj (h1.symm.trans hcl)
        cases Option.some.inj (h2.symm.trans hc6)
        exact Or.inr ⟨hz0, _, hcl6, h3⟩)
  obtain ⟨g₀, hfr⟩ := X'.frames_eq
  have hcell9 : ((T.setVm vm').setFrames (.throwing q :: below)).heap[q]? = some ce := by
    show T.heap[q]? = some ce
    rw [hT]; exact hcell
  have hend : Ended ((T.setVm vm').setFrames (.throwing q :: below)) below (.threw q) := State.frames_setFrames _ (State.cur_lt_of_frames hfr)
  refine ⟨(T.setVm vm').setFrames (.throwing q :: below), ?_, .threw q, X'.here.running, hend, Or.inr ⟨q, rfl, E, ce, locs, hx _ hT (X'.ends _).1.alike, hcell9, hv, hcl, (X'.ends _).1, (X'.ends _).2.mono hc hs, hf⟩⟩
  rw [X.pushThrowing_eq]
  exact st
/-- a thing of a world lies in the heap -/
theorem vx_lt {D : va_G} {cl : List vw_C} {ws : va_W} {H1 : Heap} (h : va_P D cl ws H1) {k : Nat} {q : Nat × va_E} (hk : ws[k]? = some q) : q.1 < H1.size := (h k q hk).lt
end VXS
/-! ===== END ===== -/
/-! ===== BEGIN methods with a table of their own: called by a name, returning or throwing ===== -/
section VXH
/-! vx_backW, vx_callVX, vx_callSX, vx_callVW, vx_runVW, vx_runVX, vx_runSX, vx_ofWH follow the same proofs as their sisters above (Free/Laws.lean, Shelf42/LK1.lean); vx_outP calls Shelf42/NT130.lean (outThrough). -/
section
variable {l : Launch} {R : Room} {p : Program} {e : Env} {below : List Frame} {s : State} {sargs : Array Value} {y : MethodName} {len W9 : Nat}
theorem vx_backW {ws : List Cond} {rm : Room} {Pc : Array Value → State → Prop} {Qc : Array Value → State → Outcome → State → Prop} {XC : String → State → State → Prop} {mc ms : Nat} {free : Addr → Prop} {bytes : ByteArray} {maxL : Nat} {ret : Option FieldType} {hh : List (Nat × Nat × Nat × Nat)}
    (hM : vx_Met l y ws rm Pc Qc XC mc ms free) (hblind : FrameBlind Pc) (hrc : rm.cells = mc) (hrs : rm.slots = ms)
    (hframes : rm.frames + 1 ≤ R.frames) (hlocals : W9 + (maxL + 11) + rm.locals ≤ R.locals)
    (hws : ∀ w ∈ ws, ∀ a' U, s.WarmedH U.vm → w.before a' U = true) (hcode : Cond.codeWith y bytes maxL ret hh ∈ ws) (hinit : ∀ a' U, s.WarmedH U.vm → (Cond.initialized y.cls).before a' U = true) :
    vx_Back l R p e below s sargs y len W9 (PreOf R mc ms Pc) (PostOf Qc mc ms free) (vx_Post XC mc ms free) := by
  intro m meth c A g ig mk a X hg hsize hdg hW hn hp
  have h1 : (headSpec ws rm).pre.before a A.U = true := atoms_intro fun w hw => hws w hw _ _ X.warmed
  have h2 : (Cond.codeWith y bytes maxL ret hh).before a A.U = true := hws _ hcode _ _ X.warmed
  have h3 : (Cond.initialized y.cls).before a A.U = true := hinit _ _ X.warmed
  have h4 : A.cells + (headSpec ws rm).room.cells ≤ R.cells := by rw [show (headSpec ws rm).room.cells = mc from hrc]; exact hp.1
  have h5 : A.slots + (headSpec ws rm).room.slots ≤ R.slots := by rw [show (headSpec ws rm).room.slots = ms from hrs]; exact hp.2.1
  have hPc : Pc a (A.U.calling g mk a) := hblind _ _ _ _ hp.2.2
  obtain ⟨U, Ls, c0, s0⟩ := A
  dsimp only [Pt.U, Pt.locs, Pt.cells, Pt.slots] at h1 h2 h3 h4 h5 X hn hPc ⊢
  obtain ⟨m9, methY, cY, hn9, hmY, hcY, -, hlY, -⟩ := Cond.codeWith_spec h2
  cases Option.some.inj (hn9.symm.trans hn)
  obtain ⟨kY, hkY, -⟩ := className_of_methodNamed hn
  have hinitY : kY.init = .initialized := Cond.initialized_spec (findClass_of_methodNamed hn) hkY h3
  have h : At U g.method c below := by rw [hg]; exact X.here
  have hlocals9 : W9 + (maxL + 11) + (headSpec ws rm).room.locals ≤ R.locals := hlocals
  have happ : (headSpec ws rm).appliesLoose y e.platform (U.calling g mk a) = true :=
    Spec.appliesLoose_calling (g := g) h hdg hn hkY hinitY
      (X.room_calling (g := g) (R' := (headSpec ws rm).room) hsize hmY hcY hframes (by rw [hlY]; omega) h4 h5) h1
  obtain ⟨mid, hmid⟩ := h.above
  have hfr : (U.setTop g).frames = (.java g :: mid) ++ below := by rw [State.frames_setTop' g h.top, hmid]; rfl
  obtain ⟨o, s₂, hsteps, -, hend, hq⟩ := Steps.callFree hM p X.admits X.cas X.clock (acts := []) hfr happ hPc trivial
  have hq' : vx_Q Qc XC mc ms free a (U.calling g mk a) o s₂ := hq
  rw [State.frames_setTop' g h.top] at hend
  obtain ⟨g₀, hg0⟩ := Option.isSome_iff_exists.mp h.top
  obtain ⟨r, hr⟩ := State.topJava?_eq_some.mp hg0
  have hr' : (({ U with heap := s₂.heap, slotsUsed := s₂.slotsUsed } : State).setVm s₂.vm).frames = .java g₀ :: r := hr
  rcases hq' with ⟨hqc, L, hfe, hL⟩ | ⟨q, rfl, E, ce, L, hx, hce, hcv, hcl, hW₂, hsm, hL⟩
  · obtain ⟨⟨v, rfl⟩, hW₂, e2, q2, q3, q4, q5, q6⟩ := id hfe
    have e3 : s₂ = ({ (U.calling g mk a).setFrames s₂.frames with heap := s₂.heap, slotsUsed := s₂.slotsUsed } : State).setVm s₂.vm := by
      have : s₂ = ({ s₂ with vm := (U.calling g mk a).vm } : State).setVm s₂.vm := rfl
      rw [e2] at this
      exact this
    obtain ⟨c₂, i₂, len₂, hc₂, hd₂, hf₂⟩ := hend
    have hW' : U.WarmedH s₂.vm := hW₂
    have hcc : c₂ = c := by
      have h1 : s₂.code? g.method = U.code? g.method := by
        rw [State.code?_eq, State.code?_eq, hW'.alike.method?]
      exact Option.some.inj (hc₂.symm.trans (h1.trans h.code))
    subst hcc
    have hlen : len₂ = len := by rw [hdg] at hd₂; cases hd₂; rfl
    subst hlen
    have hs₂ : s₂ = (({ U with heap := s₂.heap, slotsUsed := s₂.slotsUsed } : State).setVm s₂.vm).setTop { g with pc := g.pc + len₂, stack := v.toList ++ g.stack } := by
      refine e3.trans ?_
      rw [hf₂, State.calling_eq h.top, State.setFrames_setFrames, State.setTop_of_frames _ hr', hr]
      rfl
    have hsame : U.sameButNew ({ U with heap := s₂.heap, slotsUsed := s₂.slotsUsed } : State) L mc ms := by
      refine ⟨?_, q2, q3, q4, q5, q6⟩
      obtain ⟨t, ht, -⟩ := State.frames_cons hr
      show ({ U with heap := s₂.heap, slotsUsed := s₂.slotsUsed } : State) = { U.setFrames U.frames with heap := s₂.heap, slotsUsed := s₂.slotsUsed }
      rw [State.setFrames_self ht]
    subst hg
    refine Or.inl ⟨v, ⟨(({ U with heap := s₂.heap, slotsUsed := s₂.slotsUsed } : State).setVm s₂.vm), Ls ++ L, c0 + mc, s0 + ms⟩,
      ⟨X.admits, X.cas, X.clock, X.frames, X.room, X.hears, X.method, X.code, (X.here.setHeapUsed s₂.heap s₂.slotsUsed).setVm hW'.alike, X.tail, State.WarmedH.trans X.warmed hW', X.limits, X.bytes, X.same.trans (hsame.setVm s.vm)⟩,
      ⟨g, mk, s₂, L, rfl, rfl, hqc, rfl, hL, rfl, rfl⟩, ?_⟩
    show Steps p.tables e below _ ((({ U with heap := s₂.heap, slotsUsed := s₂.slotsUsed } : State).setVm s₂.vm).setTop { g with pc := g.pc + len₂, stack := v.toList ++ g.stack })
    rw [← hs₂]
    exact hsteps
  · obtain ⟨e2, q2, q3, q4, q5, q6⟩ := id hsm
    have e3 : s₂ = ({ (U.calling g mk a).setFrames s₂.frames with heap := s₂.heap, slotsUsed := s₂.slotsUsed } : State).setVm s₂.vm := by
      have : s₂ = ({ s₂ with vm := (U.calling g mk a).vm } : State).setVm s₂.vm := rfl
      rw [e2] at this
      exact this
    have hf₂ : s₂.frames = .throwing q :: .java g :: U.frames.tail := hend
    have hW' : U.WarmedH s₂.vm := hW₂
    have hs₂ : s₂ = ((({ U with heap := s₂.heap, slotsUsed := s₂.slotsUsed } : State).setVm s₂.vm).setTop g).pushFrame (.throwing q) := by
      refine e3.trans ?_
      rw [hf₂, State.calling_eq h.top, State.setFrames_setFrames, State.pushFrame, State.frames_setTop _ hr', State.setTop_of_frames _ hr', State.setFrames_setFrames, hr]
      rfl
    have hsame : U.sameButNew ({ U with heap := s₂.heap, slotsUsed := s₂.slotsUsed } : State) L mc ms := by
      refine ⟨?_, q2, q3, q4, q5, q6⟩
      obtain ⟨t, ht, -⟩ := State.frames_cons hr
      show ({ U with heap := s₂.heap, slotsUsed := s₂.slotsUsed } : State) = { U.setFrames U.frames with heap := s₂.heap, slotsUsed := s₂.slotsUsed }
      rw [State.setFrames_self ht]
    subst hg
    refine Or.inr ⟨q, ⟨(({ U with heap := s₂.heap, slotsUsed := s₂.slotsUsed } : State).setVm s₂.vm), Ls ++ L, c0 + mc, s0 + ms⟩,
      ⟨X.admits, X.cas, X.clock, X.frames, X.room, X.hears, X.method, X.code, (X.here.setHeapUsed s₂.heap s₂.slotsUsed).setVm hW'.alike, X.tail, State.WarmedH.trans X.warmed hW', X.limits, X.bytes, X.same.trans (hsame.setVm s.vm)⟩,
      ⟨g, mk, s₂, L, E, ce, rfl, rfl, hx, hce, hcv, hcl, rfl, hL, rfl, rfl⟩, ?_⟩
    show Steps p.tables e below _ (((({ U with heap := s₂.heap, slotsUsed := s₂.slotsUsed } : State).setVm s₂.vm).setTop g).pushFrame (.throwing q))
    rw [← hs₂]
    exact hsteps
end
variable {p : Program} {l : Launch} {e : Env} {R : Room} {s : State} {m : MethodId} {args : Array Value} {below : List Frame} {meth : Method} {c : Code} {T : State} {H : Heap} {locs : List Loc} {cells slots : Nat}
theorem vx_callVX (X : Stand p l e R s m args below meth c T locs cells slots) (hexec : p.tables.exec = Jvm.exec) {own C : String} {index : Nat} {y : MethodName} {bytes : ByteArray} {maxL : Nat} {ret : Option FieldType} {hh : List (Nat × Nat × Nat × Nat)}
    (hown : s.vm.findClass own = some m.cls) (hlink : (Cond.methodLink own index y).before args s = true) (hinst : (Cond.instanceMethod y).before args s = true) (hsel : (Cond.selects C y y).before args s = true)
    (hcode : (Cond.codeWith y bytes maxL ret hh).before args s = true) (hy : y.cls ≠ "java/lang/invoke/MethodHandle" ∧ y.cls ≠ "java/lang/invoke/VarHandle")
    {W9 : Nat} {Pre : Pt → Array Value → Prop} {Post : Pt → Array Value → Option Value → Pt → Prop} {PostX : Pt → Array Value → Addr → Pt → Prop} (hK : vx_Back l R p e below s args y 3 W9 Pre Post PostX)
    {b : Addr} {cellB : Cell} (hcell : T.heap[b]? = some cellB) (hobj : cellB.vm.isStatics = false) (hcls : s.vm.findClass C = some cellB.cls)
    {g : JFrame} (hg : g.method = m) (hsize : g.locals.size = c.maxLocals) {argsL rest : List Value} (hlen : ∀ sig, parseMethodDescriptor y.desc = some sig → argsL.length = sig.parameters.length)
    (hstack : g.stack = argsL.reverse ++ .ref b :: rest) (hW : 2 * g.monitorRoom + (rest.map fun v => v.category).sum ≤ W9) (hdg : decode c.code g.pc = .ok (.invokevirtual index, 3))
    (hpre : ∀ vm₁, s.WarmedH vm₁ → Pre ⟨T.setVm vm₁, locs, cells, slots⟩ (Value.ref b :: argsL).toArray) :
    (∃ (v : Option Value) (vm₁ : Vm) (B : Pt), s.WarmedH vm₁ ∧ Stand p l e R s m args below meth c B.U B.locs B.cells B.slots ∧ Post ⟨T.setVm vm₁, locs, cells, slots⟩ (Value.ref b :: argsL).toArray v B ∧
      ∀ target, Steps p.tables e below (B.U.setTop { g with pc := g.pc + 3, stack := v.toList ++ rest }) target → Steps p.tables e below (T.setTop g) target) ∨
    (∃ (q : Addr) (vm₁ : Vm) (B : Pt), s.WarmedH vm₁ ∧ Stand p l e R s m args below meth c B.U B.locs B.cells B.slots ∧ PostX ⟨T.setVm vm₁, locs, cells, slots⟩ (Value.ref b :: argsL).toArray q B ∧
      Steps p.tables e below (T.setTop g) ((B.U.setTop { g with stack := rest }).pushFrame (.throwing q))) := by
  obtain ⟨mk, methM, hnamed, hmethM, hstM, habM⟩ := Cond.instanceMethod_spec hinst
  obtain ⟨m8, methM', cM, hn8, hmethM', -, -, -, -, -, -, hsigM⟩ := Cond.codeWith_spec hcode
  cases Option.some.inj (hn8.symm.trans hnamed)
  cases hmethM.symm.trans hmethM'
  obtain ⟨c2, r2, m2, q1, q2, q3, q4, kP, hkP, hkPi⟩ := Cond.selects_spec hsel
  cases hcls.symm.trans q1
  cases (State.methodFound?_of_named hnamed hy).symm.trans q2
  cases hnamed.symm.trans q3
  have hselP : selectMethod e.platform s.vm cellB.cls mk = .method mk := by rw [Launch.admits_selectMethod X.admits]; exact q4
  obtain ⟨vm₁, X₁, hstep₁⟩ := X.invokevirtual hexec hown hlink hnamed hmethM hstM hkP hkPi hy (a := b) (cell := cellB) hcell
    (fun z h => by rw [h] at hobj; cases hobj) hselP hmethM habM hkP hkPi (g := g) hg (argsL := argsL) (rest := rest) (hlen _ hsigM) hstack hdg
  rcases hK m meth c ⟨T.setVm vm₁, locs, cells, slots⟩ { g with stack := rest } (.invokevirtual index) mk (Value.ref b :: argsL).toArray X₁ hg hsize hdg hW (X₁.named hnamed) (hpre vm₁ X₁.warmed) with ⟨v, B, X', hpost, hsteps⟩ | ⟨q, B, X', hpost, hsteps⟩
  · exact Or.inl ⟨v, vm₁, B, X₁.warmed, X', hpost, fun target h => hstep₁ _ fun acts => by rw [doInvoke_state]; exact hsteps.trans h⟩
  · exact Or.inr ⟨q, vm₁, B, X₁.warmed, X', hpost, hstep₁ _ fun acts => by rw [doInvoke_state]; exact hsteps⟩
theorem vx_callSX (X : Stand p l e R s m args below meth c T locs cells slots) (hexec : p.tables.exec = Jvm.exec) {own : String} {index : Nat} {y : MethodName} {bytes : ByteArray} {maxL : Nat} {ret : Option FieldType} {hh : List (Nat × Nat × Nat × Nat)}
    (hown : s.vm.findClass own = some m.cls) (hlink : (Cond.methodLink own index y).before args s = true) (hstat : (Cond.static y).before args s = true) (hinit : (Cond.initialized y.cls).before args s = true)
    (hcode : (Cond.codeWith y bytes maxL ret hh).before args s = true) (hy : y.cls ≠ "java/lang/invoke/MethodHandle" ∧ y.cls ≠ "java/lang/invoke/VarHandle")
    {W9 : Nat} {Pre : Pt → Array Value → Prop} {Post : Pt → Array Value → Option Value → Pt → Prop} {PostX : Pt → Array Value → Addr → Pt → Prop} (hK : vx_Back l R p e below s args y 3 W9 Pre Post PostX)
    {g : JFrame} (hg : g.method = m) (hsize : g.locals.size = c.maxLocals) {argsL rest : List Value} (hlen : ∀ sig, parseMethodDescriptor y.desc = some sig → argsL.length = sig.parameters.length)
    (hstack : g.stack = argsL.reverse ++ rest) (hW : 2 * g.monitorRoom + (rest.map fun v => v.category).sum ≤ W9) (hdg : decode c.code g.pc = .ok (.invokestatic index, 3))
    (hpre : ∀ vm₁, s.WarmedH vm₁ → Pre ⟨T.setVm vm₁, locs, cells, slots⟩ argsL.toArray) :
    (∃ (v : Option Value) (vm₁ : Vm) (B : Pt), s.WarmedH vm₁ ∧ Stand p l e R s m args below meth c B.U B.locs B.cells B.slots ∧ Post ⟨T.setVm vm₁, locs, cells, slots⟩ argsL.toArray v B ∧
      ∀ target, Steps p.tables e below (B.U.setTop { g with pc := g.pc + 3, stack := v.toList ++ rest }) target → Steps p.tables e below (T.setTop g) target) ∨
    (∃ (q : Addr) (vm₁ : Vm) (B : Pt), s.WarmedH vm₁ ∧ Stand p l e R s m args below meth c B.U B.locs B.cells B.slots ∧ PostX ⟨T.setVm vm₁, locs, cells, slots⟩ argsL.toArray q B ∧
      Steps p.tables e below (T.setTop g) ((B.U.setTop { g with stack := rest }).pushFrame (.throwing q))) := by
  obtain ⟨mk, methM, cM, hnamed, hmethM, -, -, -, -, -, -, hsigM⟩ := Cond.codeWith_spec hcode
  have hstatic : methM.isStatic = true := Cond.static_spec hnamed hmethM hstat
  obtain ⟨kP, hkP, -⟩ := className_of_methodNamed hnamed
  have hinitP : kP.init = .initialized := Cond.initialized_spec (findClass_of_methodNamed hnamed) hkP hinit
  obtain ⟨vm₁, X₁, hstep₁⟩ := X.invokestatic hexec hown hlink hnamed hmethM hstatic hkP hinitP hy (g := g) hg (argsL := argsL) (rest := rest) (hlen _ hsigM) hstack hdg
  rcases hK m meth c ⟨T.setVm vm₁, locs, cells, slots⟩ { g with stack := rest } (.invokestatic index) mk argsL.toArray X₁ hg hsize hdg hW (X₁.named hnamed) (hpre vm₁ X₁.warmed) with ⟨v, B, X', hpost, hsteps⟩ | ⟨q, B, X', hpost, hsteps⟩
  · exact Or.inl ⟨v, vm₁, B, X₁.warmed, X', hpost, fun target h => hstep₁ _ fun acts => by rw [doInvoke_state]; exact hsteps.trans h⟩
  · exact Or.inr ⟨q, vm₁, B, X₁.warmed, X', hpost, hstep₁ _ fun acts => by rw [doInvoke_state]; exact hsteps⟩
theorem vx_callVW (X : Stand p l e R s m args below meth c T locs cells slots) (hexec : p.tables.exec = Jvm.exec) {own C : String} {index : Nat} {y : MethodName} {bytes : ByteArray} {maxL : Nat} {ret : Option FieldType} {hh : List (Nat × Nat × Nat × Nat)}
    (hown : s.vm.findClass own = some m.cls) (hlink : (Cond.methodLink own index y).before args s = true) (hinst : (Cond.instanceMethod y).before args s = true) (hsel : (Cond.selects C y y).before args s = true)
    (hcode : (Cond.codeWith y bytes maxL ret hh).before args s = true) (hy : y.cls ≠ "java/lang/invoke/MethodHandle" ∧ y.cls ≠ "java/lang/invoke/VarHandle")
    {W9 : Nat} {Pre : Pt → Array Value → Prop} {Post : Pt → Array Value → Option Value → Pt → Prop} (hK : Back l R p e below s args y 3 W9 Pre Post)
    {b : Addr} {cellB : Cell} (hcell : T.heap[b]? = some cellB) (hobj : cellB.vm.isStatics = false) (hcls : s.vm.findClass C = some cellB.cls)
    {g : JFrame} (hg : g.method = m) (hsize : g.locals.size = c.maxLocals) {argsL rest : List Value} (hlen : ∀ sig, parseMethodDescriptor y.desc = some sig → argsL.length = sig.parameters.length)
    (hstack : g.stack = argsL.reverse ++ .ref b :: rest) (hW : 2 * g.monitorRoom + (rest.map fun v => v.category).sum ≤ W9) (hdg : decode c.code g.pc = .ok (.invokevirtual index, 3))
    (hpre : ∀ vm₁, s.WarmedH vm₁ → Pre ⟨T.setVm vm₁, locs, cells, slots⟩ (Value.ref b :: argsL).toArray) :
    ∃ (v : Option Value) (vm₁ : Vm) (B : Pt), s.WarmedH vm₁ ∧ Stand p l e R s m args below meth c B.U B.locs B.cells B.slots ∧ Post ⟨T.setVm vm₁, locs, cells, slots⟩ (Value.ref b :: argsL).toArray v B ∧
      ∀ target, Steps p.tables e below (B.U.setTop { g with pc := g.pc + 3, stack := v.toList ++ rest }) target → Steps p.tables e below (T.setTop g) target := by
  obtain ⟨mk, methM, hnamed, hmethM, hstM, habM⟩ := Cond.instanceMethod_spec hinst
  obtain ⟨m8, methM', cM, hn8, hmethM', -, -, -, -, -, -, hsigM⟩ := Cond.codeWith_spec hcode
  cases Option.some.inj (hn8.symm.trans hnamed)
  cases hmethM.symm.trans hmethM'
  obtain ⟨c2, r2, m2, q1, q2, q3, q4, kP, hkP, hkPi⟩ := Cond.selects_spec hsel
  cases hcls.symm.trans q1
  cases (State.methodFound?_of_named hnamed hy).symm.trans q2
  cases hnamed.symm.trans q3
  have hselP : selectMethod e.platform s.vm cellB.cls mk = .method mk := by rw [Launch.admits_selectMethod X.admits]; exact q4
  obtain ⟨vm₁, X₁, hstep₁⟩ := X.invokevirtual hexec hown hlink hnamed hmethM hstM hkP hkPi hy (a := b) (cell := cellB) hcell
    (fun z h => by rw [h] at hobj; cases hobj) hselP hmethM habM hkP hkPi (g := g) hg (argsL := argsL) (rest := rest) (hlen _ hsigM) hstack hdg
  obtain ⟨v, B, X', hpost, hsteps⟩ := hK m meth c ⟨T.setVm vm₁, locs, cells, slots⟩ { g with stack := rest } (.invokevirtual index) mk (Value.ref b :: argsL).toArray X₁ hg hsize hdg hW (X₁.named hnamed) (hpre vm₁ X₁.warmed)
  exact ⟨v, vm₁, B, X₁.warmed, X', hpost, fun target h => hstep₁ _ fun acts => by rw [doInvoke_state]; exact hsteps.trans h⟩
abbrev vx_CVW (R : Room) (s : State) (args : Array Value) (own C : String) (index : Nat) (y : MethodName) (bytes : ByteArray) (maxL : Nat) (ret : Option FieldType) (hh : List (Nat × Nat × Nat × Nat)) (ws : List Cond) (rm : Room) (mc ms n : Nat) : Prop :=
  (rm.cells = mc ∧ rm.slots = ms ∧ rm.frames + 1 ≤ R.frames ∧ 8 + (maxL + 11) + rm.locals ≤ R.locals ∧ (∀ w ∈ ws, ∀ (a' : Array Value) (U : State), s.WarmedH U.vm → w.before a' U = true) ∧ Cond.codeWith y bytes maxL ret hh ∈ ws) ∧
  (Cond.codeWith y bytes maxL ret hh).before args s = true ∧ (Cond.initialized y.cls).before args s = true ∧ (y.cls ≠ "java/lang/invoke/MethodHandle" ∧ y.cls ≠ "java/lang/invoke/VarHandle") ∧
  (∀ sig, parseMethodDescriptor y.desc = some sig → n = sig.parameters.length) ∧ (Cond.methodLink own index y).before args s = true ∧ (Cond.instanceMethod y).before args s = true ∧ (Cond.selects C y y).before args s = true
theorem vx_cwVW {own C : String} {index maxL mc ms : Nat} {y : MethodName} {bytes : ByteArray} {ret : Option FieldType} {hh : List (Nat × Nat × Nat × Nat)} {Ts ws ws' : List Cond} {rm : Room} (n : Nat) (ht : ∀ w ∈ Ts, w.before args s = true) (hT : GoodIn Ts (wsV own index C y ws)) (hw : ws = Cond.codeWith y bytes maxL ret hh :: ws') (hrc : rm.cells = mc) (hrs : rm.slots = ms)
    (hd : y.cls = C ∧ y.cls ≠ "java/lang/invoke/MethodHandle" ∧ y.cls ≠ "java/lang/invoke/VarHandle" ∧ (parseMethodDescriptor y.desc).map (fun d => d.parameters.length) = some n) (hR : rm.frames + 1 ≤ R.frames ∧ 8 + (maxL + 11) + rm.locals ≤ R.locals) :
    vx_CVW R s args own C index y bytes maxL ret hh ws rm mc ms n := by
  obtain ⟨hC, hd⟩ := hd
  subst hC
  have ok : ∀ w ∈ wsV own index y.cls y ws, w.before args s = true := fun w h => ht w (hT w h).1
  have hG : GoodIn Ts ws := fun w h => hT w (by unfold wsV; exact List.mem_append_right _ h)
  have hc : Cond.codeWith y bytes maxL ret hh ∈ ws := by rw [hw]; exact List.mem_cons_self
  refine ⟨⟨hrc, hrs, hR.1, hR.2, pay_in ht hG, hc⟩, ht _ (hG _ hc).1, ok _ (by simp [wsV]), ⟨hd.1, hd.2.1⟩, fun sig h => ?_, ok _ (by simp [wsV]), ok _ (by simp [wsV]), ok _ (by simp [wsV])⟩
  have h2 := hd.2.2
  rw [h] at h2
  exact (Option.some.inj h2).symm
theorem vx_runVW {y : MethodName} {bytes cc : ByteArray} {maxL nL mc ms n index : Nat} {ret : Option FieldType} {hh : List (Nat × Nat × Nat × Nat)} {ws : List Cond} {rm : Room} {Pc : Array Value → State → Prop} {Qc : Array Value → State → Outcome → State → Prop} {free : Addr → Prop} {Ts : List Cond} {own C : String} {b : Addr} {As rest : List Value} {g : JFrame}
    (S : CallFix p m c cc nL s args Ts own) (hM : Met l y ws rm Pc Qc mc ms free) (cw : vx_CVW R s args own C index y bytes maxL ret hh ws rm mc ms n) (hp : PreV s H C b Pc As)
    (hg : g.method = m) (hn : As.length = n) (hsize : g.locals.size = nL) (hstack : g.stack = As.reverse ++ .ref b :: rest) (hW : 2 * g.monitorRoom + (rest.map fun v => v.category).sum ≤ 8) (hdg : decode cc g.pc = .ok (.invokevirtual index, 3)) (hf : cells + mc ≤ R.cells ∧ slots + ms ≤ R.slots) :
    va_Run p l e R s m args below meth c H locs cells slots mc ms g rest (Qc (Value.ref b :: As).toArray) free := by
  obtain ⟨⟨hrc, hrs, hfr, hlo, hws, hcw⟩, hcode, hini, hy, hlen, hl, hin, hse⟩ := cw
  have hK : Back l R p e below s args y 3 8 (PreOf R mc ms Pc) (PostOf Qc mc ms free) := va_backW (hh := hh) (bytes := bytes) (maxL := maxL) (ret := ret) hM hp.1 hrc hrs hfr hlo hws hcw (fun a' U hW => word_at hW (Or.inl (by first | rfl | simp [Cond.onTables, Cond.keeps, Cond.steady])) hini)
  obtain ⟨hx, hb, hml, ho, -⟩ := S
  obtain ⟨-, ⟨cellB, hcB, hoB, hclB⟩, hPc⟩ := hp
  intro T hT X
  obtain ⟨v, vm₁, ⟨U', l2, c2, s2⟩, hW₁, X', ⟨g', mk, t, L, e1, e2, hq, h1, hL, h2, h3⟩, st⟩ := vx_callVW X hx (C := C) (hh := hh) (bytes := bytes) (maxL := maxL) (ret := ret) ho hl hin hse hcode hy hK (by rw [hT]; exact hcB) hoB hclB hg (hsize.trans hml.symm) (argsL := As) (rest := rest) (fun sig h => hn.trans (hlen sig h)) hstack hW (by rw [hb]; exact hdg)
    (fun vm₁ hW₁ => ⟨hf.1, hf.2, hPc (T.setVm vm₁) hT hW₁⟩)
  dsimp only [Pt.U, Pt.locs, Pt.cells, Pt.slots] at X' e1 e2 h1 h2 h3 st
  subst h1; subst h2; subst h3
  exact ⟨v, (T.setVm vm₁).calling g' mk (Value.ref b :: As).toArray, t, U', L, hT, X', hL, e1, e2, hq, st⟩
section
variable {y : MethodName} {bytes cc : ByteArray} {maxL nL mc ms n index : Nat} {ret : Option FieldType} {ws : List Cond} {rm : Room} {Pc : Array Value → State → Prop} {Qc : Array Value → State → Outcome → State → Prop} {XC : String → State → State → Prop} {free : Addr → Prop} {Ts : List Cond} {own C : String} {b : Addr} {As rest : List Value} {g : JFrame}
theorem vx_runVX {hh : List (Nat × Nat × Nat × Nat)} (S : CallFix p m c cc nL s args Ts own) (hM : vx_Met l y ws rm Pc Qc XC mc ms free) (cw : vx_CVW R s args own C index y bytes maxL ret hh ws rm mc ms n) (hp : PreV s H C b Pc As)
    (hg : g.method = m) (hn : As.length = n) (hsize : g.locals.size = nL) (hstack : g.stack = As.reverse ++ .ref b :: rest) (hW : 2 * g.monitorRoom + (rest.map fun v => v.category).sum ≤ 8) (hdg : decode cc g.pc = .ok (.invokevirtual index, 3)) (hf : cells + mc ≤ R.cells ∧ slots + ms ≤ R.slots) :
    vx_Run p l e R s m args below meth c H locs cells slots mc ms g rest (Qc (Value.ref b :: As).toArray) XC free := by
  obtain ⟨⟨hrc, hrs, hfr, hlo, hws, hcw⟩, hcode, hini, hy, hlen, hl, hin, hse⟩ := cw
  have hK : vx_Back l R p e below s args y 3 8 (PreOf R mc ms Pc) (PostOf Qc mc ms free) (vx_Post XC mc ms free) := vx_backW (hh := hh) (bytes := bytes) (maxL := maxL) (ret := ret) hM hp.1 hrc hrs hfr hlo hws hcw (fun a' U hW => word_at hW (Or.inl (by first | rfl | simp [Cond.onTables, Cond.keeps, Cond.steady])) hini)
  obtain ⟨hx, hb, hml, ho, -⟩ := S
  obtain ⟨-, ⟨cellB, hcB, hoB, hclB⟩, hPc⟩ := hp
  intro T hT X
  rcases vx_callVX X hx (C := C) (hh := hh) (bytes := bytes) (maxL := maxL) (ret := ret) ho hl hin hse hcode hy hK (by rw [hT]; exact hcB) hoB hclB hg (hsize.trans hml.symm) (argsL := As) (rest := rest) (fun sig h => hn.trans (hlen sig h)) hstack hW (by rw [hb]; exact hdg)
    (fun vm₁ hW₁ => ⟨hf.1, hf.2, hPc (T.setVm vm₁) hT hW₁⟩) with ⟨v, vm₁, ⟨U', l2, c2, s2⟩, hW₁, X', ⟨g', mk, t, L, e1, e2, hq, h1, hL, h2, h3⟩, st⟩ | ⟨q, vm₁, ⟨U', l2, c2, s2⟩, hW₁, X', ⟨g', mk, t, L, E, ce, e1, e2, hq, hce, hcv, hcl, h1, hL, h2, h3⟩, st⟩
  · dsimp only [Pt.U, Pt.locs, Pt.cells, Pt.slots] at X' e1 e2 h1 h2 h3 st
    subst h1; subst h2; subst h3
    exact Or.inl ⟨v, (T.setVm vm₁).calling g' mk (Value.ref b :: As).toArray, t, U', L, hT, X', hL, e1, e2, hq, st⟩
  · dsimp only [Pt.U, Pt.locs, Pt.cells, Pt.slots] at X' e1 e2 h1 h2 h3 st hcl
    subst h1; subst h2; subst h3
    exact Or.inr ⟨q, (T.setVm vm₁).calling g' mk (Value.ref b :: As).toArray, t, U', L, E, ce, hT, X', hL, e1, e2, hq, hce, hcv, vx_cls hW₁ hcl, st⟩
theorem vx_runSX {hh : List (Nat × Nat × Nat × Nat)} (S : CallFix p m c cc nL s args Ts own) (hM : vx_Met l y ws rm Pc Qc XC mc ms free) (cw : vx_CSW R s args own index y bytes maxL ret hh ws rm mc ms n) (hp : PreS s H Pc As)
    (hg : g.method = m) (hn : As.length = n) (hsize : g.locals.size = nL) (hstack : g.stack = As.reverse ++ rest) (hW : 2 * g.monitorRoom + (rest.map fun v => v.category).sum ≤ 8) (hdg : decode cc g.pc = .ok (.invokestatic index, 3)) (hf : cells + mc ≤ R.cells ∧ slots + ms ≤ R.slots) :
    vx_Run p l e R s m args below meth c H locs cells slots mc ms g rest (Qc As.toArray) XC free := by
  obtain ⟨⟨hrc, hrs, hfr, hlo, hws, hcw⟩, hcode, hini, hy, hlen, hl, hstt⟩ := cw
  have hK : vx_Back l R p e below s args y 3 8 (PreOf R mc ms Pc) (PostOf Qc mc ms free) (vx_Post XC mc ms free) := vx_backW (hh := hh) (bytes := bytes) (maxL := maxL) (ret := ret) hM hp.1 hrc hrs hfr hlo hws hcw (fun a' U hW => word_at hW (Or.inl (by first | rfl | simp [Cond.onTables, Cond.keeps, Cond.steady])) hini)
  obtain ⟨hx, hb, hml, ho, -⟩ := S
  intro T hT X
  rcases vx_callSX X hx (hh := hh) (bytes := bytes) (maxL := maxL) (ret := ret) ho hl hstt hini hcode hy hK hg (hsize.trans hml.symm) (argsL := As) (rest := rest) (fun sig h => hn.trans (hlen sig h)) hstack hW (by rw [hb]; exact hdg)
    (fun vm₁ hW₁ => ⟨hf.1, hf.2, hp.2 (T.setVm vm₁) hT hW₁⟩) with ⟨v, vm₁, ⟨U', l2, c2, s2⟩, hW₁, X', ⟨g', mk, t, L, e1, e2, hq, h1, hL, h2, h3⟩, st⟩ | ⟨q, vm₁, ⟨U', l2, c2, s2⟩, hW₁, X', ⟨g', mk, t, L, E, ce, e1, e2, hq, hce, hcv, hcl, h1, hL, h2, h3⟩, st⟩
  · dsimp only [Pt.U, Pt.locs, Pt.cells, Pt.slots] at X' e1 e2 h1 h2 h3 st
    subst h1; subst h2; subst h3
    exact Or.inl ⟨v, (T.setVm vm₁).calling g' mk As.toArray, t, U', L, hT, X', hL, e1, e2, hq, st⟩
  · dsimp only [Pt.U, Pt.locs, Pt.cells, Pt.slots] at X' e1 e2 h1 h2 h3 st hcl
    subst h1; subst h2; subst h3
    exact Or.inr ⟨q, (T.setVm vm₁).calling g' mk As.toArray, t, U', L, E, ce, hT, X', hL, e1, e2, hq, hce, hcv, vx_cls hW₁ hcl, st⟩
end
end VXH
theorem vx_ofWH {l : Launch} {y : MethodName} {ws ws' : List Cond} {rm : Room} {Pc : Array Value → State → Prop} {Qc : Array Value → State → Outcome → State → Prop} {XC : String → State → State → Prop} {mc ms : Nat} {free : Addr → Prop} {cc : ByteArray} {maxL : Nat} {ret : Option FieldType} {hh : List (Nat × Nat × Nat × Nat)}
    (hy : plainName y.cls = true) (hw : ws = Cond.codeWith y cc maxL ret hh :: ws')
    (body : ∀ p e s m args below meth c s₁, BodyLoose p l y (headSpec ws rm) cc maxL ret e s m args below meth c s₁ → c.maxLocals = maxL → Pc args s →
      W p l e (headSpec ws rm).room s m args below meth c s.heap [] 0 0 (vx_MQ below Qc XC args s mc ms free) (entryFrame m args maxL)) : vx_Met l y ws rm Pc Qc XC mc ms free := by
  refine MetFree.of_bodyS (code := cc) (maxLocals := maxL) (ret := ret) hy ?_ ?_
  · intro args s m h hn
    obtain ⟨m9, meth, c, hn9, h1, h2, h3, h4, -, h5, h6, -⟩ := Cond.codeWith_spec (atoms_spec (ws := ws) h _ (by rw [hw]; exact List.mem_cons_self))
    cases hn.symm.trans hn9
    exact ⟨meth, c, h1, h2, h3, h4, h5, h6⟩
  · intro p e s m args below meth c s₁ B hml hP _
    have hh0 : s₁.heap = s.heap := by rw [B.state]; rfl
    obtain ⟨t, a1, o, b1, b2, b3⟩ := body p e s m args below meth c s₁ B hml hP s₁ hh0 (Stand.of_body B)
    exact ⟨t, o, a1, b1, b2, b3⟩
/-! ===== END ===== -/
end
section
/-! tables of the class, the reference and the law, written by program out of the claim's own Statement and names -/
section XT
def xT0 : u_T := fun k => match k with
  | 0 => ("SkateSheet$Couples", "count", "I", false)
  | 1 => ("SkateSheet$Couples", "clubs", "LSkateSheet$Row;", true)
  | 2 => ("SkateSheet$Couples", "levels", "LSkateSheet$Row;", true)
  | 3 => ("SkateSheet$Couples", "met", "LSkateSheet$Grid;", true)
  | _ => ("SkateSheet$Couples", "points", "LSkateSheet$Grid;", true)
def xTy0 : Nat → FieldType := fun k => match k with
  | 0 => .int
  | 1 => .object "SkateSheet$Row"
  | 2 => .object "SkateSheet$Row"
  | 3 => .object "SkateSheet$Grid"
  | _ => .object "SkateSheet$Grid"
def xT1 : u_T := fun k => match k with
  | 0 => ("SkateSheet$Event", "isOpen", "Z", false)
  | 1 => ("SkateSheet$Event", "entered", "I", false)
  | 2 => ("SkateSheet$Event", "inside", "I", false)
  | 3 => ("SkateSheet$Event", "panel", "I", false)
  | 4 => ("SkateSheet$Event", "dances", "I", false)
  | 5 => ("SkateSheet$Event", "rounds", "I", false)
  | _ => ("SkateSheet$Event", "outIn", "LSkateSheet$Row;", true)
def xTy1 : Nat → FieldType := fun k => match k with
  | 0 => .boolean
  | 1 => .int
  | 2 => .int
  | 3 => .int
  | 4 => .int
  | 5 => .int
  | _ => .object "SkateSheet$Row"
def xT2 : u_T := fun k => match k with
  | 0 => ("SkateSheet$Grid", "columns", "I", true)
  | _ => ("SkateSheet$Grid", "cells", "[I", true)
def xTy2 : Nat → FieldType := fun k => match k with
  | 0 => .int
  | _ => .array .int
def xT3 : u_T := fun k => match k with
  | 0 => ("SkateSheet$Judges", "count", "I", false)
  | 1 => ("SkateSheet$Judges", "clubs", "LSkateSheet$Row;", true)
  | _ => ("SkateSheet$Judges", "drifts", "LSkateSheet$Row;", true)
def xTy3 : Nat → FieldType := fun k => match k with
  | 0 => .int
  | 1 => .object "SkateSheet$Row"
  | _ => .object "SkateSheet$Row"
def xT4 : u_T := fun k => match k with
  | 0 => ("SkateSheet$Round", "isRunning", "Z", false)
  | 1 => ("SkateSheet$Round", "quota", "I", false)
  | 2 => ("SkateSheet$Round", "danced", "I", false)
  | 3 => ("SkateSheet$Round", "size", "I", false)
  | 4 => ("SkateSheet$Round", "crosses", "LSkateSheet$Grid;", true)
  | 5 => ("SkateSheet$Round", "heatOf", "LSkateSheet$Row;", true)
  | _ => ("SkateSheet$Round", "heats", "LSkateSheet$Row;", true)
def xTy4 : Nat → FieldType := fun k => match k with
  | 0 => .boolean
  | 1 => .int
  | 2 => .int
  | 3 => .int
  | 4 => .object "SkateSheet$Grid"
  | 5 => .object "SkateSheet$Row"
  | _ => .object "SkateSheet$Row"
def xT5 : u_T := fun k => match k with
  | _ => ("SkateSheet$Row", "cells", "[I", true)
def xTy5 : Nat → FieldType := fun k => match k with
  | _ => .array .int
def xT6 : u_T := fun k => match k with
  | 0 => ("SkateSheet$Score", "size", "I", false)
  | 1 => ("SkateSheet$Score", "dances", "I", false)
  | 2 => ("SkateSheet$Score", "places", "LSkateSheet$Grid;", true)
  | 3 => ("SkateSheet$Score", "reasons", "LSkateSheet$Grid;", true)
  | 4 => ("SkateSheet$Score", "totals", "LSkateSheet$Row;", true)
  | 5 => ("SkateSheet$Score", "endPlaces", "LSkateSheet$Row;", true)
  | 6 => ("SkateSheet$Score", "endReasons", "LSkateSheet$Row;", true)
  | 7 => ("SkateSheet$Score", "marks", "LSkateSheet$Tally;", true)
  | 8 => ("SkateSheet$Score", "sheetsOf", "LSkateSheet$Row;", true)
  | 9 => ("SkateSheet$Score", "turns", "LSkateSheet$Row;", true)
  | _ => ("SkateSheet$Score", "weights", "LSkateSheet$Row;", true)
def xTy6 : Nat → FieldType := fun k => match k with
  | 0 => .int
  | 1 => .int
  | 2 => .object "SkateSheet$Grid"
  | 3 => .object "SkateSheet$Grid"
  | 4 => .object "SkateSheet$Row"
  | 5 => .object "SkateSheet$Row"
  | 6 => .object "SkateSheet$Row"
  | 7 => .object "SkateSheet$Tally"
  | 8 => .object "SkateSheet$Row"
  | 9 => .object "SkateSheet$Row"
  | _ => .object "SkateSheet$Row"
def xT7 : u_T := fun k => match k with
  | 0 => ("SkateSheet$Sheets", "size", "I", false)
  | 1 => ("SkateSheet$Sheets", "dances", "I", false)
  | 2 => ("SkateSheet$Sheets", "marks", "LSkateSheet$Grid;", true)
  | _ => ("SkateSheet$Sheets", "penalised", "LSkateSheet$Row;", true)
def xTy7 : Nat → FieldType := fun k => match k with
  | 0 => .int
  | 1 => .int
  | 2 => .object "SkateSheet$Grid"
  | _ => .object "SkateSheet$Row"
def xT8 : u_T := fun k => match k with
  | 0 => ("SkateSheet$Tally", "worst", "I", false)
  | 1 => ("SkateSheet$Tally", "numbers", "LSkateSheet$Grid;", true)
  | _ => ("SkateSheet$Tally", "weights", "LSkateSheet$Grid;", true)
def xTy8 : Nat → FieldType := fun k => match k with
  | 0 => .int
  | 1 => .object "SkateSheet$Grid"
  | _ => .object "SkateSheet$Grid"
def xT9 : u_T := fun k => match k with
  | 0 => ("SkateSheet", "allCouples", "LSkateSheet$Couples;", true)
  | 1 => ("SkateSheet", "allJudges", "LSkateSheet$Judges;", true)
  | 2 => ("SkateSheet", "event", "LSkateSheet$Event;", true)
  | 3 => ("SkateSheet", "latest", "LSkateSheet$Round;", true)
  | 4 => ("SkateSheet", "sheets", "LSkateSheet$Sheets;", true)
  | 5 => ("SkateSheet", "score", "LSkateSheet$Score;", true)
  | 6 => ("SkateSheet", "trial", "LSkateSheet$Score;", true)
  | 7 => ("SkateSheet", "inFinal", "Z", false)
  | _ => ("SkateSheet", "closedEvents", "I", false)
def xTy9 : Nat → FieldType := fun k => match k with
  | 0 => .object "SkateSheet$Couples"
  | 1 => .object "SkateSheet$Judges"
  | 2 => .object "SkateSheet$Event"
  | 3 => .object "SkateSheet$Round"
  | 4 => .object "SkateSheet$Sheets"
  | 5 => .object "SkateSheet$Score"
  | 6 => .object "SkateSheet$Score"
  | 7 => .boolean
  | _ => .int
def xT10 : u_T := fun k => match k with
  | 0 => ("SkateSheetLaw$Told", "m", "LSkateSheet;", true)
  | 1 => ("SkateSheetLaw$Told", "s", "[I", true)
  | 2 => ("SkateSheetLaw$Told", "draws", "I", false)
  | 3 => ("SkateSheetLaw$Told", "clubs", "[I", false)
  | 4 => ("SkateSheetLaw$Told", "judges", "[I", false)
  | 5 => ("SkateSheetLaw$Told", "levels", "[I", true)
  | 6 => ("SkateSheetLaw$Told", "drift", "[I", true)
  | 7 => ("SkateSheetLaw$Told", "met", "[[I", true)
  | 8 => ("SkateSheetLaw$Told", "closed", "[[I", false)
  | 9 => ("SkateSheetLaw$Told", "isOpen", "Z", false)
  | 10 => ("SkateSheetLaw$Told", "isFinal", "Z", false)
  | 11 => ("SkateSheetLaw$Told", "isRound", "Z", false)
  | 12 => ("SkateSheetLaw$Told", "entered", "I", false)
  | 13 => ("SkateSheetLaw$Told", "in", "I", false)
  | 14 => ("SkateSheetLaw$Told", "panel", "I", false)
  | 15 => ("SkateSheetLaw$Told", "dances", "I", false)
  | 16 => ("SkateSheetLaw$Told", "rounds", "I", false)
  | 17 => ("SkateSheetLaw$Told", "quota", "I", false)
  | 18 => ("SkateSheetLaw$Told", "size", "I", false)
  | 19 => ("SkateSheetLaw$Told", "danced", "I", false)
  | 20 => ("SkateSheetLaw$Told", "out", "[I", false)
  | 21 => ("SkateSheetLaw$Told", "heats", "[I", false)
  | 22 => ("SkateSheetLaw$Told", "crosses", "[[I", false)
  | 23 => ("SkateSheetLaw$Told", "final8", "[I", false)
  | 24 => ("SkateSheetLaw$Told", "sheets", "[[[I", false)
  | _ => ("SkateSheetLaw$Told", "penalties", "[[Z", false)
def xTy10 : Nat → FieldType := fun k => match k with
  | 0 => .object "SkateSheet"
  | 1 => .array .int
  | 2 => .int
  | 3 => .array .int
  | 4 => .array .int
  | 5 => .array .int
  | 6 => .array .int
  | 7 => .array (.array .int)
  | 8 => .array (.array .int)
  | 9 => .boolean
  | 10 => .boolean
  | 11 => .boolean
  | 12 => .int
  | 13 => .int
  | 14 => .int
  | 15 => .int
  | 16 => .int
  | 17 => .int
  | 18 => .int
  | 19 => .int
  | 20 => .array .int
  | 21 => .array .int
  | 22 => .array (.array .int)
  | 23 => .array .int
  | 24 => .array (.array (.array .int))
  | _ => .array (.array .boolean)
def xTe : u_T := fun _ => ("", "", "", false)
def xTye : Nat → FieldType := fun _ => .int
abbrev xcl : List vw_C := [("SkateSheet$Couples", xT0, 5), ("SkateSheet$Event", xT1, 7), ("SkateSheet$Grid", xT2, 2), ("SkateSheet$Judges", xT3, 3), ("SkateSheet$Round", xT4, 7), ("SkateSheet$Row", xT5, 1), ("SkateSheet$Score", xT6, 11), ("SkateSheet$Sheets", xT7, 4), ("SkateSheet$Tally", xT8, 3), ("SkateSheet", xT9, 9), ("SkateSheetLaw$Told", xT10, 26), ("java/lang/IndexOutOfBoundsException", xTe, 0), ("java/lang/IllegalArgumentException", xTe, 0), ("java/lang/IllegalStateException", xTe, 0)]
def xdef : Nat → List Value
  | 0 => [.int 0, .null, .null, .null, .null]
  | 1 => [.int 0, .int 0, .int 0, .int 0, .int 0, .int 0, .null]
  | 2 => [.int 0, .null]
  | 3 => [.int 0, .null, .null]
  | 4 => [.int 0, .int 0, .int 0, .int 0, .null, .null, .null]
  | 5 => [.null]
  | 6 => [.int 0, .int 0, .null, .null, .null, .null, .null, .null, .null, .null, .null]
  | 7 => [.int 0, .int 0, .null, .null]
  | 8 => [.int 0, .null, .null]
  | 9 => [.null, .null, .null, .null, .null, .null, .null, .int 0, .int 0]
  | 10 => [.null, .null, .int 0, .null, .null, .null, .null, .null, .null, .int 0, .int 0, .int 0, .int 0, .int 0, .int 0, .int 0, .int 0, .int 0, .int 0, .int 0, .null, .null, .null, .null, .null, .null]
  | _ => []
def xtyf : Nat → Nat → FieldType
  | 0 => xTy0
  | 1 => xTy1
  | 2 => xTy2
  | 3 => xTy3
  | 4 => xTy4
  | 5 => xTy5
  | 6 => xTy6
  | 7 => xTy7
  | 8 => xTy8
  | 9 => xTy9
  | 10 => xTy10
  | _ => xTye
def xown : Nat → String
  | 0 => "SkateSheet$Couples"
  | 1 => "SkateSheet$Event"
  | 2 => "SkateSheet$Grid"
  | 3 => "SkateSheet$Judges"
  | 4 => "SkateSheet$Round"
  | 5 => "SkateSheet$Row"
  | 6 => "SkateSheet$Score"
  | 7 => "SkateSheet$Sheets"
  | 8 => "SkateSheet$Tally"
  | 9 => "SkateSheet"
  | 10 => "SkateSheetLaw$Told"
  | 11 => "SkateSheetLaw"
  | 12 => "java/lang/Throwable"
  | 13 => "java/lang/Object"
  | 14 => "java/lang/IndexOutOfBoundsException"
  | 15 => "java/lang/RuntimeException"
  | 16 => "java/lang/Exception"
  | 17 => "java/lang/Math"
  | 18 => "java/lang/Integer"
  | 19 => "java/lang/IllegalArgumentException"
  | 20 => "java/lang/IllegalStateException"
  | _ => ""
def xmo : Nat → Nat
  | 0 => 9
  | 1 => 9
  | 2 => 7
  | 3 => 7
  | 4 => 2
  | 5 => 7
  | 6 => 7
  | 7 => 2
  | 8 => 6
  | 9 => 8
  | 10 => 2
  | 11 => 5
  | 12 => 9
  | 13 => 6
  | 14 => 5
  | 15 => 6
  | 16 => 8
  | 17 => 2
  | 18 => 6
  | 19 => 8
  | 20 => 7
  | 21 => 5
  | 22 => 6
  | 23 => 8
  | 24 => 5
  | 25 => 6
  | 26 => 8
  | 27 => 9
  | 28 => 6
  | 29 => 8
  | 30 => 6
  | 31 => 6
  | 32 => 6
  | 33 => 6
  | 34 => 18
  | 35 => 6
  | 36 => 6
  | 37 => 6
  | 38 => 7
  | 39 => 9
  | 40 => 9
  | 41 => 1
  | 42 => 9
  | 43 => 9
  | 44 => 7
  | 45 => 9
  | 46 => 1
  | 47 => 9
  | 48 => 9
  | 49 => 6
  | 50 => 9
  | 51 => 9
  | 52 => 7
  | 53 => 9
  | 54 => 9
  | 55 => 9
  | 56 => 0
  | 57 => 4
  | 58 => 4
  | 59 => 9
  | 60 => 9
  | 61 => 9
  | 62 => 9
  | 63 => 9
  | 64 => 6
  | 65 => 9
  | 66 => 7
  | 67 => 10
  | 68 => 9
  | 69 => 0
  | 70 => 5
  | 71 => 2
  | 72 => 3
  | 73 => 1
  | 74 => 4
  | 75 => 7
  | 76 => 6
  | 77 => 8
  | 78 => 10
  | 79 => 10
  | 80 => 11
  | 81 => 11
  | 82 => 10
  | 83 => 10
  | 84 => 10
  | 85 => 9
  | 86 => 7
  | 87 => 10
  | 88 => 11
  | 89 => 10
  | 90 => 10
  | 91 => 10
  | 92 => 9
  | 93 => 9
  | 94 => 0
  | 95 => 10
  | 96 => 9
  | 97 => 3
  | 98 => 10
  | 99 => 10
  | 100 => 9
  | 101 => 0
  | 102 => 0
  | 103 => 3
  | 104 => 1
  | 105 => 10
  | 106 => 10
  | 107 => 9
  | 108 => 7
  | 109 => 11
  | 110 => 11
  | 111 => 11
  | _ => 0
def xmy : Nat → MethodName
  | 0 => ⟨"SkateSheet", "lose", "(II)I"⟩
  | 1 => ⟨"SkateSheet", "needSheet", "(II)V"⟩
  | 2 => ⟨"SkateSheet$Sheets", "has", "(II)Z"⟩
  | 3 => ⟨"SkateSheet$Sheets", "mark", "(III)I"⟩
  | 4 => ⟨"SkateSheet$Grid", "get", "(II)I"⟩
  | 5 => ⟨"SkateSheet$Sheets", "erase", "(II)V"⟩
  | 6 => ⟨"SkateSheet$Sheets", "write", "(III)V"⟩
  | 7 => ⟨"SkateSheet$Grid", "set", "(III)V"⟩
  | 8 => ⟨"SkateSheet$Score", "settle", "(LSkateSheet$Sheets;I)V"⟩
  | 9 => ⟨"SkateSheet$Tally", "clear", "(I)V"⟩
  | 10 => ⟨"SkateSheet$Grid", "fill", "(I)V"⟩
  | 11 => ⟨"SkateSheet$Row", "fill", "(I)V"⟩
  | 12 => ⟨"SkateSheet", "holds", "(II)Z"⟩
  | 13 => ⟨"SkateSheet$Score", "countMarksOf", "(ILSkateSheet$Sheets;)V"⟩
  | 14 => ⟨"SkateSheet$Row", "add", "(II)V"⟩
  | 15 => ⟨"SkateSheet$Score", "rowOf", "(II)I"⟩
  | 16 => ⟨"SkateSheet$Tally", "count", "(II)V"⟩
  | 17 => ⟨"SkateSheet$Grid", "add", "(III)V"⟩
  | 18 => ⟨"SkateSheet$Score", "placeInDance", "(ILSkateSheet$Sheets;)V"⟩
  | 19 => ⟨"SkateSheet$Tally", "sumUp", "(I)V"⟩
  | 20 => ⟨"SkateSheet$Sheets", "isPenalised", "(II)Z"⟩
  | 21 => ⟨"SkateSheet$Row", "get", "(I)I"⟩
  | 22 => ⟨"SkateSheet$Score", "turnOf", "(IIZ)I"⟩
  | 23 => ⟨"SkateSheet$Tally", "number", "(II)I"⟩
  | 24 => ⟨"SkateSheet$Row", "set", "(II)V"⟩
  | 25 => ⟨"SkateSheet$Score", "compareInDance", "(III)I"⟩
  | 26 => ⟨"SkateSheet$Tally", "compare", "(III)I"⟩
  | 27 => ⟨"SkateSheet", "inHalves", "(II)I"⟩
  | 28 => ⟨"SkateSheet$Score", "reasonAmongCandidates", "(II)I"⟩
  | 29 => ⟨"SkateSheet$Tally", "weight", "(II)I"⟩
  | 30 => ⟨"SkateSheet$Score", "addPlaces", "()V"⟩
  | 31 => ⟨"SkateSheet$Score", "placeOverAll", "()V"⟩
  | 32 => ⟨"SkateSheet$Score", "bestByTotal", "(I)I"⟩
  | 33 => ⟨"SkateSheet$Score", "heaviest", "(I)I"⟩
  | 34 => ⟨"java/lang/Integer", "bitCount", "(I)I"⟩
  | 35 => ⟨"SkateSheet$Score", "bestByPlaces", "(II)I"⟩
  | 36 => ⟨"SkateSheet$Score", "bestByMarks", "(II)I"⟩
  | 37 => ⟨"SkateSheet$Score", "takePlaces", "(III)V"⟩
  | 38 => ⟨"SkateSheet$Sheets", "ofDance", "(I)I"⟩
  | 39 => ⟨"SkateSheet", "result", "(II)I"⟩
  | 40 => ⟨"SkateSheet", "needInFinal", "(I)V"⟩
  | 41 => ⟨"SkateSheet$Event", "positionOf", "(I)I"⟩
  | 42 => ⟨"SkateSheet", "exchanged", "(IIIII)I"⟩
  | 43 => ⟨"SkateSheet", "tryExchange", "(IIII)V"⟩
  | 44 => ⟨"SkateSheet$Sheets", "exchange", "(IIII)V"⟩
  | 45 => ⟨"SkateSheet", "bestExchange", "(III)I"⟩
  | 46 => ⟨"SkateSheet$Event", "memberAt", "(I)I"⟩
  | 47 => ⟨"SkateSheet", "without", "(II)I"⟩
  | 48 => ⟨"SkateSheet", "fragile", "()I"⟩
  | 49 => ⟨"SkateSheet$Score", "winners", "()I"⟩
  | 50 => ⟨"SkateSheet", "digest", "()J"⟩
  | 51 => ⟨"SkateSheet", "many", "(I)I"⟩
  | 52 => ⟨"SkateSheet$Sheets", "ofAll", "()I"⟩
  | 53 => ⟨"SkateSheet", "digestCouple", "(JI)J"⟩
  | 54 => ⟨"SkateSheet", "ofCouple", "(II)I"⟩
  | 55 => ⟨"SkateSheet", "needCouple", "(I)V"⟩
  | 56 => ⟨"SkateSheet$Couples", "standingOf", "(I)I"⟩
  | 57 => ⟨"SkateSheet$Round", "crossesOf", "(I)I"⟩
  | 58 => ⟨"SkateSheet$Round", "crossesIn", "(II)I"⟩
  | 59 => ⟨"SkateSheet", "meetings", "(II)I"⟩
  | 60 => ⟨"SkateSheet", "digestFinalist", "(JI)J"⟩
  | 61 => ⟨"SkateSheet", "placed", "(III)I"⟩
  | 62 => ⟨"SkateSheet", "needDance", "(I)V"⟩
  | 63 => ⟨"SkateSheet", "votes", "(III)I"⟩
  | 64 => ⟨"SkateSheet$Score", "marksOfOrBetter", "(III)I"⟩
  | 65 => ⟨"SkateSheet", "ofJudge", "(II)I"⟩
  | 66 => ⟨"SkateSheet$Sheets", "ofOneJudge", "(I)I"⟩
  | 67 => ⟨"SkateSheetLaw$Told", "<init>", "([II)V"⟩
  | 68 => ⟨"SkateSheet", "<init>", "()V"⟩
  | 69 => ⟨"SkateSheet$Couples", "<init>", "()V"⟩
  | 70 => ⟨"SkateSheet$Row", "<init>", "(I)V"⟩
  | 71 => ⟨"SkateSheet$Grid", "<init>", "(II)V"⟩
  | 72 => ⟨"SkateSheet$Judges", "<init>", "()V"⟩
  | 73 => ⟨"SkateSheet$Event", "<init>", "()V"⟩
  | 74 => ⟨"SkateSheet$Round", "<init>", "()V"⟩
  | 75 => ⟨"SkateSheet$Sheets", "<init>", "()V"⟩
  | 76 => ⟨"SkateSheet$Score", "<init>", "()V"⟩
  | 77 => ⟨"SkateSheet$Tally", "<init>", "(I)V"⟩
  | 78 => ⟨"SkateSheetLaw$Told", "noHeats", "()V"⟩
  | 79 => ⟨"SkateSheetLaw$Told", "draw", "(I)I"⟩
  | 80 => ⟨"SkateSheetLaw", "cell", "([II)I"⟩
  | 81 => ⟨"SkateSheetLaw", "below", "(II)I"⟩
  | 82 => ⟨"SkateSheetLaw$Told", "panelist", "(I)I"⟩
  | 83 => ⟨"SkateSheetLaw$Told", "has", "(II)Z"⟩
  | 84 => ⟨"SkateSheetLaw$Told", "sheet", "(III)Z"⟩
  | 85 => ⟨"SkateSheet", "sheet", "(III)I"⟩
  | 86 => ⟨"SkateSheet$Sheets", "areMarks", "(I)Z"⟩
  | 87 => ⟨"SkateSheetLaw$Told", "sheetsOf", "(I)I"⟩
  | 88 => ⟨"SkateSheetLaw", "isBegun", "(LSkateSheetLaw$Told;)Z"⟩
  | 89 => ⟨"SkateSheetLaw$Told", "found", "(I)Z"⟩
  | 90 => ⟨"SkateSheetLaw$Told", "couple", "(I)Z"⟩
  | 91 => ⟨"SkateSheetLaw$Told", "plus", "([II)[I"⟩
  | 92 => ⟨"SkateSheet", "couple", "(I)I"⟩
  | 93 => ⟨"SkateSheet", "needClub", "(I)V"⟩
  | 94 => ⟨"SkateSheet$Couples", "enrol", "(I)I"⟩
  | 95 => ⟨"SkateSheetLaw$Told", "judge", "(I)Z"⟩
  | 96 => ⟨"SkateSheet", "judge", "(I)I"⟩
  | 97 => ⟨"SkateSheet$Judges", "enrol", "(I)I"⟩
  | 98 => ⟨"SkateSheetLaw$Told", "open", "(II)Z"⟩
  | 99 => ⟨"SkateSheetLaw$Told", "panelFor", "(I)I"⟩
  | 100 => ⟨"SkateSheet", "open", "(II)I"⟩
  | 101 => ⟨"SkateSheet$Couples", "haveAll", "(I)Z"⟩
  | 102 => ⟨"SkateSheet$Couples", "clubsOf", "(I)I"⟩
  | 103 => ⟨"SkateSheet$Judges", "panelBeside", "(I)I"⟩
  | 104 => ⟨"SkateSheet$Event", "start", "(III)V"⟩
  | 105 => ⟨"SkateSheetLaw$Told", "many", "(I)I"⟩
  | 106 => ⟨"SkateSheetLaw$Told", "begin", "()Z"⟩
  | 107 => ⟨"SkateSheet", "begin", "()I"⟩
  | 108 => ⟨"SkateSheet$Sheets", "clear", "(II)V"⟩
  | 109 => ⟨"SkateSheetLaw", "isSame", "(LSkateSheet;II[I)Z"⟩
  | 110 => ⟨"SkateSheetLaw", "winners", "(LSkateSheet;[I)I"⟩
  | 111 => ⟨"SkateSheetLaw", "law", "([I)Z"⟩
  | _ => ⟨"", "", ""⟩
def xmb : Nat → ByteArray
  | 0 => prog_1_method_11_code
  | 1 => prog_1_method_33_code
  | 2 => prog_9_method_6_code
  | 3 => prog_9_method_7_code
  | 4 => prog_4_method_2_code
  | 5 => prog_9_method_5_code
  | 6 => prog_9_method_4_code
  | 7 => prog_4_method_3_code
  | 8 => prog_8_method_2_code
  | 9 => prog_10_method_2_code
  | 10 => prog_4_method_5_code
  | 11 => prog_7_method_5_code
  | 12 => prog_1_method_37_code
  | 13 => prog_8_method_7_code
  | 14 => prog_7_method_4_code
  | 15 => prog_8_method_6_code
  | 16 => prog_10_method_3_code
  | 17 => prog_4_method_4_code
  | 18 => prog_8_method_8_code
  | 19 => prog_10_method_4_code
  | 20 => prog_9_method_9_code
  | 21 => prog_7_method_2_code
  | 22 => prog_8_method_9_code
  | 23 => prog_10_method_5_code
  | 24 => prog_7_method_3_code
  | 25 => prog_8_method_10_code
  | 26 => prog_10_method_7_code
  | 27 => prog_1_method_38_code
  | 28 => prog_8_method_11_code
  | 29 => prog_10_method_6_code
  | 30 => prog_8_method_12_code
  | 31 => prog_8_method_13_code
  | 32 => prog_8_method_14_code
  | 33 => prog_8_method_17_code
  | 34 => prog_19_method_49_code
  | 35 => prog_8_method_15_code
  | 36 => prog_8_method_16_code
  | 37 => prog_8_method_18_code
  | 38 => prog_9_method_11_code
  | 39 => prog_1_method_19_code
  | 40 => prog_1_method_31_code
  | 41 => prog_3_method_5_code
  | 42 => prog_1_method_22_code
  | 43 => prog_1_method_34_code
  | 44 => prog_9_method_8_code
  | 45 => prog_1_method_23_code
  | 46 => prog_3_method_6_code
  | 47 => prog_1_method_24_code
  | 48 => prog_1_method_25_code
  | 49 => prog_8_method_4_code
  | 50 => prog_1_method_26_code
  | 51 => prog_1_method_20_code
  | 52 => prog_9_method_13_code
  | 53 => prog_1_method_27_code
  | 54 => prog_1_method_14_code
  | 55 => prog_1_method_30_code
  | 56 => prog_2_method_8_code
  | 57 => prog_6_method_8_code
  | 58 => prog_6_method_7_code
  | 59 => prog_1_method_15_code
  | 60 => prog_1_method_28_code
  | 61 => prog_1_method_18_code
  | 62 => prog_1_method_32_code
  | 63 => prog_1_method_17_code
  | 64 => prog_8_method_3_code
  | 65 => prog_1_method_16_code
  | 66 => prog_9_method_12_code
  | 67 => prog_12_method_1_code
  | 68 => prog_1_method_1_code
  | 69 => prog_2_method_1_code
  | 70 => prog_7_method_1_code
  | 71 => prog_4_method_1_code
  | 72 => prog_5_method_1_code
  | 73 => prog_3_method_1_code
  | 74 => prog_6_method_1_code
  | 75 => prog_9_method_1_code
  | 76 => prog_8_method_1_code
  | 77 => prog_10_method_1_code
  | 78 => prog_12_method_3_code
  | 79 => prog_12_method_2_code
  | 80 => method_3_code
  | 81 => method_2_code
  | 82 => prog_12_method_16_code
  | 83 => prog_12_method_4_code
  | 84 => prog_12_method_20_code
  | 85 => prog_1_method_10_code
  | 86 => prog_9_method_3_code
  | 87 => prog_12_method_21_code
  | 88 => method_5_code
  | 89 => prog_12_method_9_code
  | 90 => prog_12_method_7_code
  | 91 => prog_12_method_6_code
  | 92 => prog_1_method_2_code
  | 93 => prog_1_method_29_code
  | 94 => prog_2_method_2_code
  | 95 => prog_12_method_8_code
  | 96 => prog_1_method_3_code
  | 97 => prog_5_method_2_code
  | 98 => prog_12_method_11_code
  | 99 => prog_12_method_10_code
  | 100 => prog_1_method_4_code
  | 101 => prog_2_method_3_code
  | 102 => prog_2_method_4_code
  | 103 => prog_5_method_3_code
  | 104 => prog_3_method_2_code
  | 105 => prog_12_method_5_code
  | 106 => prog_12_method_19_code
  | 107 => prog_1_method_9_code
  | 108 => prog_9_method_2_code
  | 109 => method_6_code
  | 110 => method_7_code
  | 111 => code
  | _ => ⟨#[]⟩
def xml : Nat → Nat
  | 0 => 3
  | 1 => 3
  | 2 => 3
  | 3 => 4
  | 4 => 4
  | 5 => 3
  | 6 => 6
  | 7 => 5
  | 8 => 4
  | 9 => 2
  | 10 => 3
  | 11 => 3
  | 12 => 2
  | 13 => 5
  | 14 => 3
  | 15 => 2
  | 16 => 3
  | 17 => 5
  | 18 => 8
  | 19 => 6
  | 20 => 3
  | 21 => 2
  | 22 => 6
  | 23 => 3
  | 24 => 3
  | 25 => 6
  | 26 => 6
  | 27 => 2
  | 28 => 8
  | 29 => 3
  | 30 => 4
  | 31 => 7
  | 32 => 3
  | 33 => 6
  | 34 => 1
  | 35 => 7
  | 36 => 8
  | 37 => 6
  | 38 => 4
  | 39 => 4
  | 40 => 2
  | 41 => 2
  | 42 => 6
  | 43 => 5
  | 44 => 6
  | 45 => 10
  | 46 => 3
  | 47 => 3
  | 48 => 5
  | 49 => 4
  | 50 => 5
  | 51 => 2
  | 52 => 3
  | 53 => 7
  | 54 => 3
  | 55 => 2
  | 56 => 7
  | 57 => 4
  | 58 => 5
  | 59 => 3
  | 60 => 7
  | 61 => 5
  | 62 => 2
  | 63 => 4
  | 64 => 4
  | 65 => 3
  | 66 => 4
  | 67 => 3
  | 68 => 1
  | 69 => 1
  | 70 => 2
  | 71 => 4
  | 72 => 1
  | 73 => 1
  | 74 => 1
  | 75 => 1
  | 76 => 1
  | 77 => 2
  | 78 => 2
  | 79 => 3
  | 80 => 2
  | 81 => 2
  | 82 => 3
  | 83 => 2
  | 84 => 10
  | 85 => 4
  | 86 => 6
  | 87 => 7
  | 88 => 1
  | 89 => 3
  | 90 => 2
  | 91 => 3
  | 92 => 2
  | 93 => 1
  | 94 => 2
  | 95 => 2
  | 96 => 2
  | 97 => 2
  | 98 => 3
  | 99 => 6
  | 100 => 4
  | 101 => 2
  | 102 => 4
  | 103 => 5
  | 104 => 4
  | 105 => 3
  | 106 => 2
  | 107 => 2
  | 108 => 3
  | 109 => 6
  | 110 => 8
  | 111 => 20
  | _ => 0
def xmr : Nat → Option FieldType
  | 0 => (Option.some Jvm.ClassFile.FieldType.int)
  | 1 => (Option.none : Option Jvm.ClassFile.FieldType)
  | 2 => (Option.some Jvm.ClassFile.FieldType.boolean)
  | 3 => (Option.some Jvm.ClassFile.FieldType.int)
  | 4 => (Option.some Jvm.ClassFile.FieldType.int)
  | 5 => (Option.none : Option Jvm.ClassFile.FieldType)
  | 6 => (Option.none : Option Jvm.ClassFile.FieldType)
  | 7 => (Option.none : Option Jvm.ClassFile.FieldType)
  | 8 => (Option.none : Option Jvm.ClassFile.FieldType)
  | 9 => (Option.none : Option Jvm.ClassFile.FieldType)
  | 10 => (Option.none : Option Jvm.ClassFile.FieldType)
  | 11 => (Option.none : Option Jvm.ClassFile.FieldType)
  | 12 => (Option.some Jvm.ClassFile.FieldType.boolean)
  | 13 => (Option.none : Option Jvm.ClassFile.FieldType)
  | 14 => (Option.none : Option Jvm.ClassFile.FieldType)
  | 15 => (Option.some Jvm.ClassFile.FieldType.int)
  | 16 => (Option.none : Option Jvm.ClassFile.FieldType)
  | 17 => (Option.none : Option Jvm.ClassFile.FieldType)
  | 18 => (Option.none : Option Jvm.ClassFile.FieldType)
  | 19 => (Option.none : Option Jvm.ClassFile.FieldType)
  | 20 => (Option.some Jvm.ClassFile.FieldType.boolean)
  | 21 => (Option.some Jvm.ClassFile.FieldType.int)
  | 22 => (Option.some Jvm.ClassFile.FieldType.int)
  | 23 => (Option.some Jvm.ClassFile.FieldType.int)
  | 24 => (Option.none : Option Jvm.ClassFile.FieldType)
  | 25 => (Option.some Jvm.ClassFile.FieldType.int)
  | 26 => (Option.some Jvm.ClassFile.FieldType.int)
  | 27 => (Option.some Jvm.ClassFile.FieldType.int)
  | 28 => (Option.some Jvm.ClassFile.FieldType.int)
  | 29 => (Option.some Jvm.ClassFile.FieldType.int)
  | 30 => (Option.none : Option Jvm.ClassFile.FieldType)
  | 31 => (Option.none : Option Jvm.ClassFile.FieldType)
  | 32 => (Option.some Jvm.ClassFile.FieldType.int)
  | 33 => (Option.some Jvm.ClassFile.FieldType.int)
  | 34 => (Option.some Jvm.ClassFile.FieldType.int)
  | 35 => (Option.some Jvm.ClassFile.FieldType.int)
  | 36 => (Option.some Jvm.ClassFile.FieldType.int)
  | 37 => (Option.none : Option Jvm.ClassFile.FieldType)
  | 38 => (Option.some Jvm.ClassFile.FieldType.int)
  | 39 => (Option.some Jvm.ClassFile.FieldType.int)
  | 40 => (Option.none : Option Jvm.ClassFile.FieldType)
  | 41 => (Option.some Jvm.ClassFile.FieldType.int)
  | 42 => (Option.some Jvm.ClassFile.FieldType.int)
  | 43 => (Option.none : Option Jvm.ClassFile.FieldType)
  | 44 => (Option.none : Option Jvm.ClassFile.FieldType)
  | 45 => (Option.some Jvm.ClassFile.FieldType.int)
  | 46 => (Option.some Jvm.ClassFile.FieldType.int)
  | 47 => (Option.some Jvm.ClassFile.FieldType.int)
  | 48 => (Option.some Jvm.ClassFile.FieldType.int)
  | 49 => (Option.some Jvm.ClassFile.FieldType.int)
  | 50 => (Option.some Jvm.ClassFile.FieldType.long)
  | 51 => (Option.some Jvm.ClassFile.FieldType.int)
  | 52 => (Option.some Jvm.ClassFile.FieldType.int)
  | 53 => (Option.some Jvm.ClassFile.FieldType.long)
  | 54 => (Option.some Jvm.ClassFile.FieldType.int)
  | 55 => (Option.none : Option Jvm.ClassFile.FieldType)
  | 56 => (Option.some Jvm.ClassFile.FieldType.int)
  | 57 => (Option.some Jvm.ClassFile.FieldType.int)
  | 58 => (Option.some Jvm.ClassFile.FieldType.int)
  | 59 => (Option.some Jvm.ClassFile.FieldType.int)
  | 60 => (Option.some Jvm.ClassFile.FieldType.long)
  | 61 => (Option.some Jvm.ClassFile.FieldType.int)
  | 62 => (Option.none : Option Jvm.ClassFile.FieldType)
  | 63 => (Option.some Jvm.ClassFile.FieldType.int)
  | 64 => (Option.some Jvm.ClassFile.FieldType.int)
  | 65 => (Option.some Jvm.ClassFile.FieldType.int)
  | 66 => (Option.some Jvm.ClassFile.FieldType.int)
  | 67 => (Option.none : Option Jvm.ClassFile.FieldType)
  | 68 => (Option.none : Option Jvm.ClassFile.FieldType)
  | 69 => (Option.none : Option Jvm.ClassFile.FieldType)
  | 70 => (Option.none : Option Jvm.ClassFile.FieldType)
  | 71 => (Option.none : Option Jvm.ClassFile.FieldType)
  | 72 => (Option.none : Option Jvm.ClassFile.FieldType)
  | 73 => (Option.none : Option Jvm.ClassFile.FieldType)
  | 74 => (Option.none : Option Jvm.ClassFile.FieldType)
  | 75 => (Option.none : Option Jvm.ClassFile.FieldType)
  | 76 => (Option.none : Option Jvm.ClassFile.FieldType)
  | 77 => (Option.none : Option Jvm.ClassFile.FieldType)
  | 78 => (Option.none : Option Jvm.ClassFile.FieldType)
  | 79 => (Option.some Jvm.ClassFile.FieldType.int)
  | 80 => (Option.some Jvm.ClassFile.FieldType.int)
  | 81 => (Option.some Jvm.ClassFile.FieldType.int)
  | 82 => (Option.some Jvm.ClassFile.FieldType.int)
  | 83 => (Option.some Jvm.ClassFile.FieldType.boolean)
  | 84 => (Option.some Jvm.ClassFile.FieldType.boolean)
  | 85 => (Option.some Jvm.ClassFile.FieldType.int)
  | 86 => (Option.some Jvm.ClassFile.FieldType.boolean)
  | 87 => (Option.some Jvm.ClassFile.FieldType.int)
  | 88 => (Option.some Jvm.ClassFile.FieldType.boolean)
  | 89 => (Option.some Jvm.ClassFile.FieldType.boolean)
  | 90 => (Option.some Jvm.ClassFile.FieldType.boolean)
  | 91 => (Option.some (Jvm.ClassFile.FieldType.array Jvm.ClassFile.FieldType.int))
  | 92 => (Option.some Jvm.ClassFile.FieldType.int)
  | 93 => (Option.none : Option Jvm.ClassFile.FieldType)
  | 94 => (Option.some Jvm.ClassFile.FieldType.int)
  | 95 => (Option.some Jvm.ClassFile.FieldType.boolean)
  | 96 => (Option.some Jvm.ClassFile.FieldType.int)
  | 97 => (Option.some Jvm.ClassFile.FieldType.int)
  | 98 => (Option.some Jvm.ClassFile.FieldType.boolean)
  | 99 => (Option.some Jvm.ClassFile.FieldType.int)
  | 100 => (Option.some Jvm.ClassFile.FieldType.int)
  | 101 => (Option.some Jvm.ClassFile.FieldType.boolean)
  | 102 => (Option.some Jvm.ClassFile.FieldType.int)
  | 103 => (Option.some Jvm.ClassFile.FieldType.int)
  | 104 => (Option.none : Option Jvm.ClassFile.FieldType)
  | 105 => (Option.some Jvm.ClassFile.FieldType.int)
  | 106 => (Option.some Jvm.ClassFile.FieldType.boolean)
  | 107 => (Option.some Jvm.ClassFile.FieldType.int)
  | 108 => (Option.none : Option Jvm.ClassFile.FieldType)
  | 109 => (Option.some Jvm.ClassFile.FieldType.boolean)
  | 110 => (Option.some Jvm.ClassFile.FieldType.int)
  | 111 => (Option.some Jvm.ClassFile.FieldType.boolean)
  | _ => none
def xmn : Nat → Nat
  | 0 => 2
  | 1 => 2
  | 2 => 2
  | 3 => 3
  | 4 => 2
  | 5 => 2
  | 6 => 3
  | 7 => 3
  | 8 => 2
  | 9 => 1
  | 10 => 1
  | 11 => 1
  | 12 => 2
  | 13 => 2
  | 14 => 2
  | 15 => 2
  | 16 => 2
  | 17 => 3
  | 18 => 2
  | 19 => 1
  | 20 => 2
  | 21 => 1
  | 22 => 3
  | 23 => 2
  | 24 => 2
  | 25 => 3
  | 26 => 3
  | 27 => 2
  | 28 => 2
  | 29 => 2
  | 30 => 0
  | 31 => 0
  | 32 => 1
  | 33 => 1
  | 34 => 1
  | 35 => 2
  | 36 => 2
  | 37 => 3
  | 38 => 1
  | 39 => 2
  | 40 => 1
  | 41 => 1
  | 42 => 5
  | 43 => 4
  | 44 => 4
  | 45 => 3
  | 46 => 1
  | 47 => 2
  | 48 => 0
  | 49 => 0
  | 50 => 0
  | 51 => 1
  | 52 => 0
  | 53 => 2
  | 54 => 2
  | 55 => 1
  | 56 => 1
  | 57 => 1
  | 58 => 2
  | 59 => 2
  | 60 => 2
  | 61 => 3
  | 62 => 1
  | 63 => 3
  | 64 => 3
  | 65 => 2
  | 66 => 1
  | 67 => 2
  | 68 => 0
  | 69 => 0
  | 70 => 1
  | 71 => 2
  | 72 => 0
  | 73 => 0
  | 74 => 0
  | 75 => 0
  | 76 => 0
  | 77 => 1
  | 78 => 0
  | 79 => 1
  | 80 => 2
  | 81 => 2
  | 82 => 1
  | 83 => 2
  | 84 => 3
  | 85 => 3
  | 86 => 1
  | 87 => 1
  | 88 => 1
  | 89 => 1
  | 90 => 1
  | 91 => 2
  | 92 => 1
  | 93 => 1
  | 94 => 1
  | 95 => 1
  | 96 => 1
  | 97 => 1
  | 98 => 2
  | 99 => 1
  | 100 => 2
  | 101 => 1
  | 102 => 1
  | 103 => 1
  | 104 => 3
  | 105 => 1
  | 106 => 0
  | 107 => 0
  | 108 => 2
  | 109 => 4
  | 110 => 2
  | 111 => 1
  | _ => 0
def xc0 : List (Option Instr) := [some (.aload_n 0), some (.iload_n 1), some (.iload_n 2), some (.invokevirtual 206), none, none, some (.aload_n 0), some (.getfield 40), none, none, some (.iload_n 1), some (.iload_n 2), some (.invokevirtual 209), none, none, some (.aload_n 0), some (.getfield 47), none, none, some (.aload_n 0), some (.getfield 40), none, none, some (.iconst 0), some (.invokevirtual 186), none, none, some (.aload_n 0), some (.getfield 40), none, none, some (.iload_n 2), some (.invokevirtual 203), none, none, some (.ireturn)]
def xc1 : List (Option Instr) := [some (.aload_n 0), some (.getfield 111), none, none, some (.ifCond .eq 15), none, none, some (.aload_n 0), some (.getfield 40), none, none, some (.iload_n 1), some (.iload_n 2), some (.invokevirtual 380), none, none, some (.ifCond .ne 14), none, none, some (.new 147), none, none, some (.dup), some (.ldc_w 383), none, none, some (.invokespecial 151), none, none, some (.athrow), some (.return_)]
def xc2 : List (Option Instr) := [some (.iload_n 1), some (.ifCond .lt 32), none, none, some (.iload_n 1), some (.bipush 7), none, some (.if_icmp .ge 26), none, none, some (.iload_n 2), some (.ifCond .lt 22), none, none, some (.iload_n 2), some (.iconst 5), some (.if_icmp .ge 17), none, none, some (.aload_n 0), some (.iload_n 1), some (.iload_n 2), some (.iconst 0), some (.invokevirtual 51), none, none, some (.ifCond .eq 7), none, none, some (.iconst 1), some (.goto 4), none, none, some (.iconst 0), some (.ireturn)]
def xc3 : List (Option Instr) := [some (.aload_n 0), some (.getfield 14), none, none, some (.iload_n 1), some (.iconst 5), some (.imul), some (.iload_n 2), some (.iadd), some (.iload_n 3), some (.invokevirtual 55), none, none, some (.ireturn)]
def xc4 : List (Option Instr) := [some (.iload_n 2), some (.ifCond .lt 22), none, none, some (.iload_n 2), some (.aload_n 0), some (.getfield 9), none, none, some (.if_icmp .ge 14), none, none, some (.iload_n 1), some (.aload_n 0), some (.getfield 9), none, none, some (.imul), some (.iload_n 2), some (.iadd), some (.goto 4), none, none, some (.iconst (-1)), some (.istore_n 3), some (.iload_n 3), some (.ifCond .lt 21), none, none, some (.iload_n 3), some (.aload_n 0), some (.getfield 15), none, none, some (.arraylength), some (.if_icmp .ge 12), none, none, some (.aload_n 0), some (.getfield 15), none, none, some (.iload_n 3), some (.iaload), some (.goto 4), none, none, some (.iconst 0), some (.ireturn)]
def xc5 : List (Option Instr) := [some (.aload_n 0), some (.iload_n 1), some (.iload_n 2), some (.iconst 0), some (.invokevirtual 48), none, none, some (.return_)]
def xc6 : List (Option Instr) := [some (.iload_n 3), some (.istore 4), none, some (.iconst 0), some (.istore 5), none, some (.iload 5), none, some (.aload_n 0), some (.getfield 29), none, none, some (.if_icmp .ge 35), none, none, some (.aload_n 0), some (.getfield 14), none, none, some (.iload_n 1), some (.iconst 5), some (.imul), some (.iload_n 2), some (.iadd), some (.iload 5), none, some (.iload 4), none, some (.bipush 10), none, some (.irem), some (.invokevirtual 44), none, none, some (.iload 4), none, some (.bipush 10), none, some (.idiv), some (.istore 4), none, some (.iinc 5 1), none, none, some (.goto (-38)), none, none, some (.return_)]
def xc7 : List (Option Instr) := [some (.iload_n 2), some (.ifCond .lt 22), none, none, some (.iload_n 2), some (.aload_n 0), some (.getfield 9), none, none, some (.if_icmp .ge 14), none, none, some (.iload_n 1), some (.aload_n 0), some (.getfield 9), none, none, some (.imul), some (.iload_n 2), some (.iadd), some (.goto 4), none, none, some (.iconst (-1)), some (.istore 4), none, some (.iload 4), none, some (.ifCond .lt 21), none, none, some (.iload 4), none, some (.aload_n 0), some (.getfield 15), none, none, some (.arraylength), some (.if_icmp .ge 11), none, none, some (.aload_n 0), some (.getfield 15), none, none, some (.iload 4), none, some (.iload_n 3), some (.iastore), some (.return_)]
def xc8 : List (Option Instr) := [some (.aload_n 0), some (.aload_n 1), some (.getfield 54), none, none, some (.putfield 60), none, none, some (.aload_n 0), some (.aload_n 1), some (.getfield 61), none, none, some (.putfield 64), none, none, some (.aload_n 0), some (.getfield 41), none, none, some (.aload_n 0), some (.getfield 60), none, none, some (.invokevirtual 65), none, none, some (.aload_n 0), some (.getfield 45), none, none, some (.iconst 0), some (.invokevirtual 68), none, none, some (.iconst 0), some (.istore_n 3), some (.iload_n 3), some (.bipush 7), none, some (.if_icmp .ge 23), none, none, some (.iload_n 2), some (.iload_n 3), some (.invokestatic 71), none, none, some (.ifCond .ne 9), none, none, some (.aload_n 0), some (.iload_n 3), some (.aload_n 1), some (.invokevirtual 75), none, none, some (.iinc 3 1), none, none, some (.goto (-23)), none, none, some (.iconst 0), some (.istore_n 3), some (.iload_n 3), some (.aload_n 0), some (.getfield 64), none, none, some (.if_icmp .ge 15), none, none, some (.aload_n 0), some (.iload_n 3), some (.aload_n 1), some (.invokevirtual 79), none, none, some (.iinc 3 1), none, none, some (.goto (-17)), none, none, some (.aload_n 0), some (.invokevirtual 82), none, none, some (.aload_n 0), some (.invokevirtual 85), none, none, some (.return_)]
def xc9 : List (Option Instr) := [some (.aload_n 0), some (.iload_n 1), some (.putfield 23), none, none, some (.aload_n 0), some (.getfield 14), none, none, some (.iconst 0), some (.invokevirtual 27), none, none, some (.return_)]
def xc10 : List (Option Instr) := [some (.iconst 0), some (.istore_n 2), some (.iload_n 2), some (.aload_n 0), some (.getfield 15), none, none, some (.arraylength), some (.if_icmp .ge 16), none, none, some (.aload_n 0), some (.getfield 15), none, none, some (.iload_n 2), some (.iload_n 1), some (.iastore), some (.iinc 2 1), none, none, some (.goto (-19)), none, none, some (.return_)]
def xc11 : List (Option Instr) := [some (.iconst 0), some (.istore_n 2), some (.iload_n 2), some (.aload_n 0), some (.getfield 7), none, none, some (.arraylength), some (.if_icmp .ge 16), none, none, some (.aload_n 0), some (.getfield 7), none, none, some (.iload_n 2), some (.iload_n 1), some (.iastore), some (.iinc 2 1), none, none, some (.goto (-19)), none, none, some (.return_)]
def xc12 : List (Option Instr) := [some (.iload_n 1), some (.ifCond .lt 22), none, none, some (.iload_n 1), some (.bipush 10), none, some (.if_icmp .ge 16), none, none, some (.iload_n 0), some (.iload_n 1), some (.ishr), some (.iconst 1), some (.iand), some (.iconst 1), some (.if_icmp .ne 7), none, none, some (.iconst 1), some (.goto 4), none, none, some (.iconst 0), some (.ireturn)]
def xc13 : List (Option Instr) := [some (.iconst 0), some (.istore_n 3), some (.iload_n 3), some (.aload_n 0), some (.getfield 64), none, none, some (.if_icmp .ge 66), none, none, some (.aload_n 2), some (.iload_n 1), some (.iload_n 3), some (.invokevirtual 113), none, none, some (.ifCond .eq 51), none, none, some (.aload_n 0), some (.getfield 45), none, none, some (.iload_n 3), some (.iconst 1), some (.invokevirtual 116), none, none, some (.iconst 0), some (.istore 4), none, some (.iload 4), none, some (.aload_n 0), some (.getfield 60), none, none, some (.if_icmp .ge 30), none, none, some (.aload_n 0), some (.getfield 41), none, none, some (.iload_n 3), some (.iload 4), none, some (.invokestatic 88), none, none, some (.aload_n 2), some (.iload_n 1), some (.iload_n 3), some (.iload 4), none, some (.invokevirtual 104), none, none, some (.invokevirtual 119), none, none, some (.iinc 4 1), none, none, some (.goto (-33)), none, none, some (.iinc 3 1), none, none, some (.goto (-68)), none, none, some (.return_)]
def xc14 : List (Option Instr) := [some (.iload_n 1), some (.ifCond .lt 22), none, none, some (.iload_n 1), some (.aload_n 0), some (.getfield 7), none, none, some (.arraylength), some (.if_icmp .ge 13), none, none, some (.aload_n 0), some (.getfield 7), none, none, some (.iload_n 1), some (.dup2), some (.iaload), some (.iload_n 2), some (.iadd), some (.iastore), some (.return_)]
def xc15 : List (Option Instr) := [some (.iload_n 0), some (.bipush 8), none, some (.imul), some (.iload_n 1), some (.iadd), some (.ireturn)]
def xc16 : List (Option Instr) := [some (.aload_n 0), some (.getfield 14), none, none, some (.iload_n 1), some (.iload_n 2), some (.iconst 1), some (.invokevirtual 31), none, none, some (.return_)]
def xc17 : List (Option Instr) := [some (.iload_n 2), some (.ifCond .lt 22), none, none, some (.iload_n 2), some (.aload_n 0), some (.getfield 9), none, none, some (.if_icmp .ge 14), none, none, some (.iload_n 1), some (.aload_n 0), some (.getfield 9), none, none, some (.imul), some (.iload_n 2), some (.iadd), some (.goto 4), none, none, some (.iconst (-1)), some (.istore 4), none, some (.iload 4), none, some (.ifCond .lt 24), none, none, some (.iload 4), none, some (.aload_n 0), some (.getfield 15), none, none, some (.arraylength), some (.if_icmp .ge 14), none, none, some (.aload_n 0), some (.getfield 15), none, none, some (.iload 4), none, some (.dup2), some (.iaload), some (.iload_n 3), some (.iadd), some (.iastore), some (.return_)]
def xc18 : List (Option Instr) := [some (.iconst 0), some (.istore_n 3), some (.iload_n 3), some (.aload_n 0), some (.getfield 60), none, none, some (.if_icmp .ge 41), none, none, some (.aload_n 0), some (.getfield 41), none, none, some (.iload_n 1), some (.iload_n 3), some (.invokestatic 88), none, none, some (.invokevirtual 122), none, none, some (.aload_n 0), some (.getfield 48), none, none, some (.iload_n 3), some (.aload_n 0), some (.iload_n 1), some (.iload_n 3), some (.aload_n 2), some (.iload_n 3), some (.iload_n 1), some (.invokevirtual 125), none, none, some (.invokevirtual 128), none, none, some (.invokevirtual 132), none, none, some (.iinc 3 1), none, none, some (.goto (-43)), none, none, some (.iconst 0), some (.istore_n 3), some (.iload_n 3), some (.aload_n 0), some (.getfield 60), none, none, some (.if_icmp .ge 133), none, none, some (.iconst 0), some (.istore 4), none, some (.iconst 0), some (.istore 5), none, some (.iconst 0), some (.istore 6), none, some (.iload 6), none, some (.aload_n 0), some (.getfield 60), none, none, some (.if_icmp .ge 49), none, none, some (.aload_n 0), some (.iload_n 1), some (.iload 6), none, some (.iload_n 3), some (.invokevirtual 135), none, none, some (.istore 7), none, some (.iload 4), none, some (.iload 7), none, some (.ifCond .ge 7), none, none, some (.iconst 1), some (.goto 4), none, none, some (.iconst 0), some (.iadd), some (.istore 4), none, some (.iload 5), none, some (.iload 7), none, some (.ifCond .ne 7), none, none, some (.iconst 1), some (.goto 4), none, none, some (.iconst 0), some (.iadd), some (.istore 5), none, some (.iinc 6 1), none, none, some (.goto (-52)), none, none, some (.aload_n 0), some (.getfield 14), none, none, some (.iload_n 1), some (.iload_n 3), some (.iload 4), none, some (.iconst 1), some (.iadd), some (.iload 5), none, some (.invokestatic 138), none, none, some (.invokevirtual 141), none, none, some (.iload 5), none, some (.iconst 1), some (.if_icmp .le 7), none, none, some (.iconst 4), some (.goto 9), none, none, some (.aload_n 0), some (.iload_n 1), some (.iload_n 3), some (.invokevirtual 144), none, none, some (.istore 6), none, some (.aload_n 0), some (.getfield 20), none, none, some (.iload_n 1), some (.iload_n 3), some (.aload_n 2), some (.iload_n 3), some (.iload_n 1), some (.invokevirtual 125), none, none, some (.ifCond .eq 7), none, none, some (.iconst 5), some (.goto 5), none, none, some (.iload 6), none, some (.invokevirtual 141), none, none, some (.iinc 3 1), none, none, some (.goto (-135)), none, none, some (.return_)]
def xc19 : List (Option Instr) := [some (.iconst 0), some (.istore_n 2), some (.iconst 0), some (.istore_n 3), some (.iconst 1), some (.istore 4), none, some (.iload 4), none, some (.aload_n 0), some (.getfield 23), none, none, some (.if_icmp .gt 60), none, none, some (.aload_n 0), some (.getfield 14), none, none, some (.iload_n 1), some (.iload 4), none, some (.invokevirtual 35), none, none, some (.istore 5), none, some (.iload_n 2), some (.iload 5), none, some (.iadd), some (.istore_n 2), some (.iload_n 3), some (.iload 5), none, some (.sipush 1000), none, none, some (.iload 4), none, some (.isub), some (.imul), some (.iadd), some (.istore_n 3), some (.aload_n 0), some (.getfield 14), none, none, some (.iload_n 1), some (.iload 4), none, some (.iload_n 2), some (.invokevirtual 39), none, none, some (.aload_n 0), some (.getfield 20), none, none, some (.iload_n 1), some (.iload 4), none, some (.iload_n 3), some (.invokevirtual 39), none, none, some (.iinc 4 1), none, none, some (.goto (-63)), none, none, some (.return_)]
def xc20 : List (Option Instr) := [some (.aload_n 0), some (.getfield 25), none, none, some (.iload_n 2), some (.invokevirtual 59), none, none, some (.iload_n 1), some (.invokestatic 40), none, none, some (.ireturn)]
def xc21 : List (Option Instr) := [some (.iload_n 1), some (.ifCond .lt 21), none, none, some (.iload_n 1), some (.aload_n 0), some (.getfield 7), none, none, some (.arraylength), some (.if_icmp .ge 12), none, none, some (.aload_n 0), some (.getfield 7), none, none, some (.iload_n 1), some (.iaload), some (.goto 4), none, none, some (.iconst 0), some (.ireturn)]
def xc22 : List (Option Instr) := [some (.aload_n 0), some (.getfield 45), none, none, some (.iload_n 1), some (.invokevirtual 95), none, none, some (.iconst 2), some (.idiv), some (.iconst 1), some (.iadd), some (.istore 4), none, some (.iconst 1), some (.istore 5), none, some (.iload 5), none, some (.aload_n 0), some (.getfield 60), none, none, some (.if_icmp .gt 35), none, none, some (.iload_n 3), some (.ifCond .ne 31), none, none, some (.aload_n 0), some (.getfield 41), none, none, some (.iload_n 1), some (.iload_n 2), some (.invokestatic 88), none, none, some (.iload 5), none, some (.invokevirtual 92), none, none, some (.iload 4), none, some (.if_icmp .lt 6), none, none, some (.iload 5), none, some (.ireturn), some (.iinc 5 1), none, none, some (.goto (-38)), none, none, some (.aload_n 0), some (.getfield 60), none, none, some (.iconst 1), some (.iadd), some (.ireturn)]
def xc23 : List (Option Instr) := [some (.aload_n 0), some (.getfield 14), none, none, some (.iload_n 1), some (.iload_n 2), some (.invokevirtual 35), none, none, some (.ireturn)]
def xc24 : List (Option Instr) := [some (.iload_n 1), some (.ifCond .lt 19), none, none, some (.iload_n 1), some (.aload_n 0), some (.getfield 7), none, none, some (.arraylength), some (.if_icmp .ge 10), none, none, some (.aload_n 0), some (.getfield 7), none, none, some (.iload_n 1), some (.iload_n 2), some (.iastore), some (.return_)]
def xc25 : List (Option Instr) := [some (.aload_n 0), some (.getfield 48), none, none, some (.iload_n 2), some (.invokevirtual 95), none, none, some (.istore 4), none, some (.iload 4), none, some (.aload_n 0), some (.getfield 48), none, none, some (.iload_n 3), some (.invokevirtual 95), none, none, some (.isub), some (.istore 5), none, some (.iload 5), none, some (.ifCond .eq 8), none, none, some (.iload 5), none, some (.goto 22), none, none, some (.aload_n 0), some (.getfield 41), none, none, some (.iload_n 1), some (.iload_n 2), some (.invokestatic 88), none, none, some (.iload_n 1), some (.iload_n 3), some (.invokestatic 88), none, none, some (.iload 4), none, some (.invokevirtual 147), none, none, some (.ireturn)]
def xc26 : List (Option Instr) := [some (.iload_n 3), some (.istore 4), none, some (.iload 4), none, some (.aload_n 0), some (.getfield 23), none, none, some (.if_icmp .gt 40), none, none, some (.aload_n 0), some (.getfield 20), none, none, some (.iload_n 2), some (.iload 4), none, some (.invokevirtual 35), none, none, some (.aload_n 0), some (.getfield 20), none, none, some (.iload_n 1), some (.iload 4), none, some (.invokevirtual 35), none, none, some (.isub), some (.istore 5), none, some (.iload 5), none, some (.ifCond .eq 6), none, none, some (.iload 5), none, some (.ireturn), some (.iinc 4 1), none, none, some (.goto (-43)), none, none, some (.iconst 0), some (.ireturn)]
def xc27 : List (Option Instr) := [some (.iconst 2), some (.iload_n 0), some (.imul), some (.iload_n 1), some (.iadd), some (.iconst 1), some (.isub), some (.ireturn)]
def xc28 : List (Option Instr) := [some (.aload_n 0), some (.getfield 48), none, none, some (.iload_n 2), some (.invokevirtual 95), none, none, some (.istore_n 3), some (.iload_n 1), some (.iload_n 2), some (.invokestatic 88), none, none, some (.istore 4), none, some (.iconst 0), some (.istore 5), none, some (.iconst 0), some (.istore 6), none, some (.iload 6), none, some (.aload_n 0), some (.getfield 60), none, none, some (.if_icmp .ge 110), none, none, some (.iload_n 1), some (.iload 6), none, some (.invokestatic 88), none, none, some (.istore 7), none, some (.iload 6), none, some (.iload_n 2), some (.if_icmp .eq 90), none, none, some (.aload_n 0), some (.getfield 48), none, none, some (.iload 6), none, some (.invokevirtual 95), none, none, some (.iload_n 3), some (.if_icmp .eq 6), none, none, some (.goto 74), none, none, some (.aload_n 0), some (.getfield 41), none, none, some (.iload 7), none, some (.iload_n 3), some (.invokevirtual 150), none, none, some (.aload_n 0), some (.getfield 41), none, none, some (.iload 4), none, some (.iload_n 3), some (.invokevirtual 150), none, none, some (.if_icmp .ne 9), none, none, some (.iconst 3), some (.istore 5), none, some (.goto 45), none, none, some (.aload_n 0), some (.getfield 41), none, none, some (.iload 7), none, some (.iload_n 3), some (.invokevirtual 92), none, none, some (.aload_n 0), some (.getfield 41), none, none, some (.iload 4), none, some (.iload_n 3), some (.invokevirtual 92), none, none, some (.if_icmp .ne 14), none, none, some (.iload 5), none, some (.iconst 2), some (.invokestatic 153), none, none, some (.istore 5), none, some (.goto 11), none, none, some (.iload 5), none, some (.iconst 1), some (.invokestatic 153), none, none, some (.istore 5), none, some (.iinc 6 1), none, none, some (.goto (-113)), none, none, some (.iload 5), none, some (.ireturn)]
def xc29 : List (Option Instr) := [some (.aload_n 0), some (.getfield 20), none, none, some (.iload_n 1), some (.iload_n 2), some (.invokevirtual 35), none, none, some (.ireturn)]
def xc30 : List (Option Instr) := [some (.iconst 0), some (.istore_n 1), some (.iload_n 1), some (.aload_n 0), some (.getfield 60), none, none, some (.if_icmp .ge 48), none, none, some (.iconst 0), some (.istore_n 2), some (.iconst 0), some (.istore_n 3), some (.iload_n 3), some (.aload_n 0), some (.getfield 64), none, none, some (.if_icmp .ge 21), none, none, some (.iload_n 2), some (.aload_n 0), some (.getfield 14), none, none, some (.iload_n 3), some (.iload_n 1), some (.invokevirtual 108), none, none, some (.iadd), some (.istore_n 2), some (.iinc 3 1), none, none, some (.goto (-23)), none, none, some (.aload_n 0), some (.getfield 28), none, none, some (.iload_n 1), some (.iload_n 2), some (.invokevirtual 132), none, none, some (.iinc 1 1), none, none, some (.goto (-50)), none, none, some (.return_)]
def xc31 : List (Option Instr) := [some (.iconst 1), some (.aload_n 0), some (.getfield 60), none, none, some (.ishl), some (.iconst 1), some (.isub), some (.istore_n 1), some (.iconst 0), some (.istore_n 2), some (.iconst 1), some (.istore_n 3), some (.iconst 0), some (.istore 4), none, some (.iload 4), none, some (.aload_n 0), some (.getfield 60), none, none, some (.if_icmp .ge 119), none, none, some (.iload_n 1), some (.ifCond .eq 115), none, none, some (.aload_n 0), some (.iload_n 1), some (.invokevirtual 156), none, none, some (.istore 5), none, some (.iload 5), none, some (.invokestatic 159), none, none, some (.iconst 1), some (.if_icmp .le 8), none, none, some (.iload_n 2), some (.iload 5), none, some (.ior), some (.istore_n 2), some (.iload 5), none, some (.iload_n 2), some (.iand), some (.ifCond .ne 8), none, none, some (.bipush 9), none, some (.goto 5), none, none, some (.bipush 10), none, some (.istore 6), none, some (.aload_n 0), some (.iload 5), none, some (.iload_n 3), some (.invokevirtual 164), none, none, some (.istore 5), none, some (.iload 5), none, some (.invokestatic 159), none, none, some (.iconst 1), some (.if_icmp .le 30), none, none, some (.aload_n 0), some (.iload 5), none, some (.iload_n 3), some (.invokevirtual 167), none, none, some (.istore 5), none, some (.iload 5), none, some (.invokestatic 159), none, none, some (.iconst 1), some (.if_icmp .le 8), none, none, some (.bipush 12), none, some (.goto 5), none, none, some (.bipush 11), none, some (.istore 6), none, some (.aload_n 0), some (.iload 5), none, some (.iload_n 3), some (.iload 6), none, some (.invokevirtual 170), none, none, some (.iload_n 3), some (.iload 5), none, some (.invokestatic 159), none, none, some (.iadd), some (.istore_n 3), some (.iload_n 1), some (.iload 5), none, some (.iconst (-1)), some (.ixor), some (.iand), some (.istore_n 1), some (.iinc 4 1), none, none, some (.goto (-122)), none, none, some (.return_)]
def xc32 : List (Option Instr) := [some (.iconst 0), some (.istore_n 2), some (.iload_n 2), some (.aload_n 0), some (.getfield 60), none, none, some (.if_icmp .ge 26), none, none, some (.aload_n 0), some (.getfield 51), none, none, some (.iload_n 2), some (.aload_n 0), some (.getfield 28), none, none, some (.iload_n 2), some (.invokevirtual 95), none, none, some (.ineg), some (.invokevirtual 132), none, none, some (.iinc 2 1), none, none, some (.goto (-28)), none, none, some (.aload_n 0), some (.iload_n 1), some (.invokevirtual 173), none, none, some (.ireturn)]
def xc33 : List (Option Instr) := [some (.iconst 0), some (.istore_n 2), some (.iconst 0), some (.istore_n 3), some (.iconst 0), some (.istore 4), none, some (.iload 4), none, some (.aload_n 0), some (.getfield 60), none, none, some (.if_icmp .ge 66), none, none, some (.aload_n 0), some (.getfield 51), none, none, some (.iload 4), none, some (.invokevirtual 95), none, none, some (.istore 5), none, some (.iload_n 1), some (.iload 4), none, some (.invokestatic 71), none, none, some (.ifCond .eq 40), none, none, some (.iload_n 2), some (.ifCond .eq 9), none, none, some (.iload 5), none, some (.iload_n 3), some (.if_icmp .lt 30), none, none, some (.iload_n 2), some (.ifCond .eq 18), none, none, some (.iload 5), none, some (.iload_n 3), some (.if_icmp .ne 12), none, none, some (.iload_n 2), some (.iconst 1), some (.iload 4), none, some (.ishl), some (.ior), some (.goto 7), none, none, some (.iconst 1), some (.iload 4), none, some (.ishl), some (.istore_n 2), some (.iload 5), none, some (.istore_n 3), some (.iinc 4 1), none, none, some (.goto (-69)), none, none, some (.iload_n 2), some (.ireturn)]
def xc34 : List (Option Instr) := [some (.iload_n 0), some (.iload_n 0), some (.iconst 1), some (.iushr), some (.ldc_w 265), none, none, some (.iand), some (.isub), some (.istore_n 0), some (.iload_n 0), some (.ldc_w 266), none, none, some (.iand), some (.iload_n 0), some (.iconst 2), some (.iushr), some (.ldc_w 266), none, none, some (.iand), some (.iadd), some (.istore_n 0), some (.iload_n 0), some (.iload_n 0), some (.iconst 4), some (.iushr), some (.iadd), some (.ldc_w 267), none, none, some (.iand), some (.istore_n 0), some (.iload_n 0), some (.iload_n 0), some (.bipush 8), none, some (.iushr), some (.iadd), some (.istore_n 0), some (.iload_n 0), some (.iload_n 0), some (.bipush 16), none, some (.iushr), some (.iadd), some (.istore_n 0), some (.iload_n 0), some (.bipush 63), none, some (.iand), some (.ireturn)]
def xc35 : List (Option Instr) := [some (.iconst 0), some (.istore_n 3), some (.iload_n 3), some (.aload_n 0), some (.getfield 60), none, none, some (.if_icmp .ge 75), none, none, some (.iconst 0), some (.istore 4), none, some (.iconst 0), some (.istore 5), none, some (.iload 5), none, some (.aload_n 0), some (.getfield 64), none, none, some (.if_icmp .ge 44), none, none, some (.aload_n 0), some (.getfield 14), none, none, some (.iload 5), none, some (.iload_n 3), some (.invokevirtual 108), none, none, some (.istore 6), none, some (.iload 4), none, some (.iload 6), none, some (.iconst 2), some (.iload_n 2), some (.imul), some (.if_icmp .gt 12), none, none, some (.sipush 1000), none, none, some (.iload 6), none, some (.isub), some (.goto 4), none, none, some (.iconst 0), some (.iadd), some (.istore 4), none, some (.iinc 5 1), none, none, some (.goto (-47)), none, none, some (.aload_n 0), some (.getfield 51), none, none, some (.iload_n 3), some (.iload 4), none, some (.invokevirtual 132), none, none, some (.iinc 3 1), none, none, some (.goto (-77)), none, none, some (.aload_n 0), some (.iload_n 1), some (.invokevirtual 173), none, none, some (.ireturn)]
def xc36 : List (Option Instr) := [some (.iload_n 1), some (.istore_n 3), some (.iload_n 2), some (.istore 4), none, some (.iload 4), none, some (.aload_n 0), some (.getfield 60), none, none, some (.if_icmp .gt 86), none, none, some (.iconst 0), some (.istore 5), none, some (.iload 5), none, some (.aload_n 0), some (.getfield 60), none, none, some (.if_icmp .ge 62), none, none, some (.iconst 0), some (.istore 6), none, some (.iconst 0), some (.istore 7), none, some (.iload 7), none, some (.aload_n 0), some (.getfield 64), none, none, some (.if_icmp .ge 30), none, none, some (.iload 6), none, some (.aload_n 0), some (.getfield 41), none, none, some (.iload 7), none, some (.iload 5), none, some (.invokestatic 88), none, none, some (.iload 4), none, some (.invokevirtual 150), none, none, some (.iadd), some (.istore 6), none, some (.iinc 7 1), none, none, some (.goto (-33)), none, none, some (.aload_n 0), some (.getfield 51), none, none, some (.iload 5), none, some (.iload 6), none, some (.invokevirtual 132), none, none, some (.iinc 5 1), none, none, some (.goto (-65)), none, none, some (.aload_n 0), some (.iload_n 3), some (.invokevirtual 173), none, none, some (.istore_n 3), some (.iinc 4 1), none, none, some (.goto (-89)), none, none, some (.iload_n 3), some (.ireturn)]
def xc37 : List (Option Instr) := [some (.iload_n 2), some (.iload_n 1), some (.invokestatic 159), none, none, some (.invokestatic 138), none, none, some (.istore 4), none, some (.iconst 0), some (.istore 5), none, some (.iload 5), none, some (.aload_n 0), some (.getfield 60), none, none, some (.if_icmp .ge 39), none, none, some (.iload_n 1), some (.iload 5), none, some (.invokestatic 71), none, none, some (.ifCond .eq 24), none, none, some (.aload_n 0), some (.getfield 32), none, none, some (.iload 5), none, some (.iload 4), none, some (.invokevirtual 132), none, none, some (.aload_n 0), some (.getfield 35), none, none, some (.iload 5), none, some (.iload_n 3), some (.invokevirtual 132), none, none, some (.iinc 5 1), none, none, some (.goto (-42)), none, none, some (.return_)]
def xc38 : List (Option Instr) := [some (.iconst 0), some (.istore_n 2), some (.iconst 0), some (.istore_n 3), some (.iload_n 3), some (.bipush 7), none, some (.if_icmp .ge 21), none, none, some (.aload_n 0), some (.iload_n 3), some (.iload_n 1), some (.invokevirtual 64), none, none, some (.ifCond .eq 6), none, none, some (.iinc 2 1), none, none, some (.iinc 3 1), none, none, some (.goto (-21)), none, none, some (.iload_n 2), some (.ireturn)]
def xc39 : List (Option Instr) := [some (.aload_n 0), some (.iload_n 1), some (.invokevirtual 212), none, none, some (.aload_n 0), some (.getfield 26), none, none, some (.iload_n 1), some (.invokevirtual 215), none, none, some (.istore_n 3), some (.iload_n 2), some (.tableswitch 61 0 2 #[25, 37, 49]), none, none, none, none, none, none, none, none, none, none, none, none, none, none, none, none, none, none, none, none, none, none, none, none, some (.aload_n 0), some (.getfield 47), none, none, some (.getfield 308), none, none, some (.iload_n 3), some (.invokevirtual 253), none, none, some (.ireturn), some (.aload_n 0), some (.getfield 47), none, none, some (.getfield 311), none, none, some (.iload_n 3), some (.invokevirtual 253), none, none, some (.ireturn), some (.aload_n 0), some (.getfield 47), none, none, some (.getfield 314), none, none, some (.iload_n 3), some (.invokevirtual 253), none, none, some (.ireturn), some (.new 90), none, none, some (.dup), some (.ldc_w 317), none, none, some (.invokespecial 94), none, none, some (.athrow)]
def xc40 : List (Option Instr) := [some (.aload_n 0), some (.getfield 111), none, none, some (.ifCond .eq 17), none, none, some (.aload_n 0), some (.getfield 26), none, none, some (.getfield 117), none, none, some (.iload_n 1), some (.invokestatic 143), none, none, some (.ifCond .ne 14), none, none, some (.new 147), none, none, some (.dup), some (.ldc_w 376), none, none, some (.invokespecial 151), none, none, some (.athrow), some (.return_)]
def xc41 : List (Option Instr) := [some (.aload_n 0), some (.getfield 28), none, none, some (.iconst 1), some (.iload_n 1), some (.ishl), some (.iconst 1), some (.isub), some (.iand), some (.invokestatic 55), none, none, some (.ireturn)]
def xc42 : List (Option Instr) := [some (.aload_n 0), some (.iload_n 1), some (.iload_n 2), some (.invokevirtual 206), none, none, some (.aload_n 0), some (.iload_n 3), some (.invokevirtual 212), none, none, some (.aload_n 0), some (.iload 4), none, some (.invokevirtual 212), none, none, some (.aload_n 0), some (.iload 5), none, some (.invokevirtual 212), none, none, some (.aload_n 0), some (.iload_n 1), some (.iload_n 2), some (.aload_n 0), some (.getfield 26), none, none, some (.iload_n 3), some (.invokevirtual 215), none, none, some (.aload_n 0), some (.getfield 26), none, none, some (.iload 4), none, some (.invokevirtual 215), none, none, some (.invokevirtual 325), none, none, some (.aload_n 0), some (.getfield 51), none, none, some (.getfield 308), none, none, some (.aload_n 0), some (.getfield 26), none, none, some (.iload 5), none, some (.invokevirtual 215), none, none, some (.invokevirtual 253), none, none, some (.ireturn)]
def xc43 : List (Option Instr) := [some (.aload_n 0), some (.getfield 40), none, none, some (.iload_n 1), some (.iload_n 2), some (.iload_n 3), some (.iload 4), none, some (.invokevirtual 385), none, none, some (.aload_n 0), some (.getfield 51), none, none, some (.aload_n 0), some (.getfield 40), none, none, some (.iconst 0), some (.invokevirtual 186), none, none, some (.aload_n 0), some (.getfield 40), none, none, some (.iload_n 1), some (.iload_n 2), some (.iload_n 3), some (.iload 4), none, some (.invokevirtual 385), none, none, some (.return_)]
def xc44 : List (Option Instr) := [some (.aload_n 0), some (.iload_n 1), some (.iload_n 2), some (.iload_n 3), some (.invokevirtual 51), none, none, some (.istore 5), none, some (.aload_n 0), some (.getfield 14), none, none, some (.iload_n 1), some (.iconst 5), some (.imul), some (.iload_n 2), some (.iadd), some (.iload_n 3), some (.aload_n 0), some (.iload_n 1), some (.iload_n 2), some (.iload 4), none, some (.invokevirtual 51), none, none, some (.invokevirtual 44), none, none, some (.aload_n 0), some (.getfield 14), none, none, some (.iload_n 1), some (.iconst 5), some (.imul), some (.iload_n 2), some (.iadd), some (.iload 4), none, some (.iload 5), none, some (.invokevirtual 44), none, none, some (.return_)]
def xc45 : List (Option Instr) := [some (.aload_n 0), some (.iload_n 1), some (.iload_n 2), some (.invokevirtual 206), none, none, some (.aload_n 0), some (.iload_n 3), some (.invokevirtual 212), none, none, some (.aload_n 0), some (.getfield 26), none, none, some (.iload_n 3), some (.invokevirtual 215), none, none, some (.istore 4), none, some (.aload_n 0), some (.getfield 47), none, none, some (.getfield 308), none, none, some (.iload 4), none, some (.invokevirtual 253), none, none, some (.istore 5), none, some (.iconst (-1)), some (.istore 6), none, some (.iconst 0), some (.istore 7), none, some (.iload 7), none, some (.aload_n 0), some (.getfield 40), none, none, some (.getfield 291), none, none, some (.if_icmp .ge 92), none, none, some (.iload 7), none, some (.iconst 1), some (.iadd), some (.istore 8), none, some (.iload 8), none, some (.aload_n 0), some (.getfield 40), none, none, some (.getfield 291), none, none, some (.if_icmp .ge 68), none, none, some (.aload_n 0), some (.iload_n 1), some (.iload_n 2), some (.iload 7), none, some (.iload 8), none, some (.invokevirtual 325), none, none, some (.aload_n 0), some (.getfield 51), none, none, some (.getfield 308), none, none, some (.iload 4), none, some (.invokevirtual 253), none, none, some (.istore 9), none, some (.iload 9), none, some (.iload 5), none, some (.if_icmp .ge 31), none, none, some (.iload 9), none, some (.istore 5), none, some (.bipush 10), none, some (.aload_n 0), some (.getfield 26), none, none, some (.iload 7), none, some (.invokevirtual 329), none, none, some (.imul), some (.aload_n 0), some (.getfield 26), none, none, some (.iload 8), none, some (.invokevirtual 329), none, none, some (.iadd), some (.istore 6), none, some (.iinc 8 1), none, none, some (.goto (-74)), none, none, some (.iinc 7 1), none, none, some (.goto (-98)), none, none, some (.iload 6), none, some (.ireturn)]
def xc46 : List (Option Instr) := [some (.iconst 0), some (.istore_n 2), some (.iload_n 2), some (.bipush 10), none, some (.if_icmp .ge 31), none, none, some (.aload_n 0), some (.getfield 28), none, none, some (.iload_n 2), some (.invokestatic 47), none, none, some (.ifCond .eq 14), none, none, some (.aload_n 0), some (.iload_n 2), some (.invokevirtual 61), none, none, some (.iload_n 1), some (.if_icmp .ne 5), none, none, some (.iload_n 2), some (.ireturn), some (.iinc 2 1), none, none, some (.goto (-31)), none, none, some (.iconst (-1)), some (.ireturn)]
def xc47 : List (Option Instr) := [some (.aload_n 0), some (.iload_n 2), some (.invokevirtual 212), none, none, some (.iload_n 1), some (.ifCond .lt 10), none, none, some (.iload_n 1), some (.sipush 128), none, none, some (.if_icmp .lt 14), none, none, some (.new 90), none, none, some (.dup), some (.ldc_w 332), none, none, some (.invokespecial 94), none, none, some (.athrow), some (.aload_n 0), some (.getfield 51), none, none, some (.aload_n 0), some (.getfield 40), none, none, some (.iload_n 1), some (.invokevirtual 186), none, none, some (.aload_n 0), some (.getfield 51), none, none, some (.getfield 308), none, none, some (.aload_n 0), some (.getfield 26), none, none, some (.iload_n 2), some (.invokevirtual 215), none, none, some (.invokevirtual 253), none, none, some (.ireturn)]
def xc48 : List (Option Instr) := [some (.aload_n 0), some (.getfield 111), none, none, some (.ifCond .ne 5), none, none, some (.iconst (-1)), some (.ireturn), some (.aload_n 0), some (.getfield 47), none, none, some (.invokevirtual 334), none, none, some (.istore_n 1), some (.aload_n 0), some (.getfield 26), none, none, some (.getfield 140), none, none, some (.invokestatic 85), none, none, some (.istore_n 2), some (.iconst 1), some (.istore_n 3), some (.iload_n 3), some (.iload_n 2), some (.if_icmp .ge 76), none, none, some (.iconst 1), some (.istore 4), none, some (.iload 4), none, some (.sipush 128), none, none, some (.if_icmp .ge 59), none, none, some (.iload 4), none, some (.aload_n 0), some (.getfield 26), none, none, some (.getfield 140), none, none, some (.iconst (-1)), some (.ixor), some (.iand), some (.ifCond .ne 38), none, none, some (.iload 4), none, some (.invokestatic 85), none, none, some (.iload_n 3), some (.if_icmp .ne 29), none, none, some (.aload_n 0), some (.getfield 51), none, none, some (.aload_n 0), some (.getfield 40), none, none, some (.iload 4), none, some (.invokevirtual 186), none, none, some (.aload_n 0), some (.getfield 51), none, none, some (.invokevirtual 334), none, none, some (.iload_n 1), some (.if_icmp .eq 5), none, none, some (.iload_n 3), some (.ireturn), some (.iinc 4 1), none, none, some (.goto (-61)), none, none, some (.iinc 3 1), none, none, some (.goto (-75)), none, none, some (.iconst (-1)), some (.ireturn)]
def xc49 : List (Option Instr) := [some (.bipush 16), none, some (.istore_n 1), some (.iconst 0), some (.istore_n 2), some (.iload_n 2), some (.aload_n 0), some (.getfield 60), none, none, some (.if_icmp .ge 22), none, none, some (.iload_n 1), some (.aload_n 0), some (.getfield 32), none, none, some (.iload_n 2), some (.invokevirtual 95), none, none, some (.invokestatic 99), none, none, some (.istore_n 1), some (.iinc 2 1), none, none, some (.goto (-24)), none, none, some (.iconst 0), some (.istore_n 2), some (.iconst 0), some (.istore_n 3), some (.iload_n 3), some (.aload_n 0), some (.getfield 60), none, none, some (.if_icmp .ge 27), none, none, some (.aload_n 0), some (.getfield 32), none, none, some (.iload_n 3), some (.invokevirtual 95), none, none, some (.iload_n 1), some (.if_icmp .ne 9), none, none, some (.iload_n 2), some (.iconst 1), some (.iload_n 3), some (.ishl), some (.ior), some (.istore_n 2), some (.iinc 3 1), none, none, some (.goto (-29)), none, none, some (.iload_n 2), some (.ireturn)]
def xc50 : List (Option Instr) := [some (.ldc2_w 337), none, none, some (.lstore_n 1), some (.iconst 0), some (.istore_n 3), some (.iload_n 3), some (.bipush 10), none, some (.if_icmp .gt 22), none, none, some (.lload_n 1), some (.ldc2_w 339), none, none, some (.lmul), some (.aload_n 0), some (.iload_n 3), some (.invokevirtual 341), none, none, some (.i2l), some (.ladd), some (.lstore_n 1), some (.iinc 3 1), none, none, some (.goto (-22)), none, none, some (.iconst 0), some (.istore_n 3), some (.iload_n 3), some (.aload_n 0), some (.getfield 10), none, none, some (.getfield 58), none, none, some (.if_icmp .ge 16), none, none, some (.aload_n 0), some (.lload_n 1), some (.iload_n 3), some (.invokevirtual 344), none, none, some (.lstore_n 1), some (.iinc 3 1), none, none, some (.goto (-21)), none, none, some (.iconst 0), some (.istore_n 3), some (.iload_n 3), some (.aload_n 0), some (.getfield 19), none, none, some (.getfield 73), none, none, some (.if_icmp .ge 39), none, none, some (.iconst 0), some (.istore 4), none, some (.iload 4), none, some (.iconst 3), some (.if_icmp .gt 24), none, none, some (.lload_n 1), some (.ldc2_w 339), none, none, some (.lmul), some (.aload_n 0), some (.iload_n 3), some (.iload 4), none, some (.invokevirtual 348), none, none, some (.i2l), some (.ladd), some (.lstore_n 1), some (.iinc 4 1), none, none, some (.goto (-24)), none, none, some (.iinc 3 1), none, none, some (.goto (-44)), none, none, some (.lload_n 1), some (.ldc2_w 339), none, none, some (.lmul), some (.aload_n 0), some (.invokevirtual 351), none, none, some (.i2l), some (.ladd), some (.lreturn)]
def xc51 : List (Option Instr) := [some (.iload_n 1), some (.tableswitch 160 0 10 #[59, 67, 75, 80, 96, 109, 117, 125, 133, 141, 152]), none, none, none, none, none, none, none, none, none, none, none, none, none, none, none, none, none, none, none, none, none, none, none, none, none, none, none, none, none, none, none, none, none, none, none, none, none, none, none, none, none, none, none, none, none, none, none, none, none, none, none, none, none, none, none, none, none, none, some (.aload_n 0), some (.getfield 10), none, none, some (.getfield 58), none, none, some (.ireturn), some (.aload_n 0), some (.getfield 19), none, none, some (.getfield 73), none, none, some (.ireturn), some (.aload_n 0), some (.getfield 243), none, none, some (.ireturn), some (.aload_n 0), some (.getfield 26), none, none, some (.getfield 74), none, none, some (.ifCond .eq 7), none, none, some (.iconst 1), some (.goto 4), none, none, some (.iconst 0), some (.ireturn), some (.aload_n 0), some (.getfield 111), none, none, some (.ifCond .eq 7), none, none, some (.iconst 1), some (.goto 4), none, none, some (.iconst 0), some (.ireturn), some (.aload_n 0), some (.getfield 26), none, none, some (.getfield 122), none, none, some (.ireturn), some (.aload_n 0), some (.getfield 26), none, none, some (.getfield 131), none, none, some (.ireturn), some (.aload_n 0), some (.getfield 33), none, none, some (.getfield 128), none, none, some (.ireturn), some (.aload_n 0), some (.getfield 26), none, none, some (.getfield 117), none, none, some (.ireturn), some (.aload_n 0), some (.getfield 26), none, none, some (.getfield 140), none, none, some (.invokestatic 85), none, none, some (.ireturn), some (.aload_n 0), some (.getfield 40), none, none, some (.invokevirtual 319), none, none, some (.ireturn), some (.new 90), none, none, some (.dup), some (.ldc_w 323), none, none, some (.invokespecial 94), none, none, some (.athrow)]
def xc52 : List (Option Instr) := [some (.iconst 0), some (.istore_n 1), some (.iconst 0), some (.istore_n 2), some (.iload_n 2), some (.aload_n 0), some (.getfield 33), none, none, some (.if_icmp .ge 17), none, none, some (.iload_n 1), some (.aload_n 0), some (.iload_n 2), some (.invokevirtual 67), none, none, some (.iadd), some (.istore_n 1), some (.iinc 2 1), none, none, some (.goto (-19)), none, none, some (.iload_n 1), some (.ireturn)]
def xc53 : List (Option Instr) := [some (.lload_n 1), some (.lstore 4), none, some (.iconst 0), some (.istore 6), none, some (.iload 6), none, some (.bipush 7), none, some (.if_icmp .gt 26), none, none, some (.lload 4), none, some (.ldc2_w 339), none, none, some (.lmul), some (.aload_n 0), some (.iload_n 3), some (.iload 6), none, some (.invokevirtual 354), none, none, some (.i2l), some (.ladd), some (.lstore 4), none, some (.iinc 6 1), none, none, some (.goto (-27)), none, none, some (.lload 4), none, some (.ldc2_w 339), none, none, some (.lmul), some (.aload_n 0), some (.iload_n 3), some (.iconst 0), some (.invokevirtual 357), none, none, some (.i2l), some (.ladd), some (.lstore 4), none, some (.aload_n 0), some (.getfield 111), none, none, some (.ifCond .eq 27), none, none, some (.aload_n 0), some (.getfield 26), none, none, some (.getfield 117), none, none, some (.iload_n 3), some (.invokestatic 143), none, none, some (.ifCond .eq 13), none, none, some (.aload_n 0), some (.lload 4), none, some (.iload_n 3), some (.invokevirtual 360), none, none, some (.goto 5), none, none, some (.lload 4), none, some (.lreturn)]
def xc54 : List (Option Instr) := [some (.aload_n 0), some (.iload_n 1), some (.invokevirtual 246), none, none, some (.iload_n 2), some (.tableswitch 152 0 7 #[46, 58, 70, 79, 99, 119, 131, 140]), none, none, none, none, none, none, none, none, none, none, none, none, none, none, none, none, none, none, none, none, none, none, none, none, none, none, none, none, none, none, none, none, none, none, none, none, none, none, none, none, none, none, none, none, none, some (.aload_n 0), some (.getfield 10), none, none, some (.getfield 249), none, none, some (.iload_n 1), some (.invokevirtual 253), none, none, some (.ireturn), some (.aload_n 0), some (.getfield 10), none, none, some (.getfield 258), none, none, some (.iload_n 1), some (.invokevirtual 253), none, none, some (.ireturn), some (.aload_n 0), some (.getfield 10), none, none, some (.iload_n 1), some (.invokevirtual 261), none, none, some (.ireturn), some (.aload_n 0), some (.getfield 26), none, none, some (.getfield 233), none, none, some (.iload_n 1), some (.invokestatic 143), none, none, some (.ifCond .eq 7), none, none, some (.iconst 1), some (.goto 4), none, none, some (.iconst 0), some (.ireturn), some (.aload_n 0), some (.getfield 26), none, none, some (.getfield 117), none, none, some (.iload_n 1), some (.invokestatic 143), none, none, some (.ifCond .eq 7), none, none, some (.iconst 1), some (.goto 4), none, none, some (.iconst 0), some (.ireturn), some (.aload_n 0), some (.getfield 26), none, none, some (.getfield 264), none, none, some (.iload_n 1), some (.invokevirtual 253), none, none, some (.ireturn), some (.aload_n 0), some (.getfield 33), none, none, some (.iload_n 1), some (.invokevirtual 267), none, none, some (.ireturn), some (.aload_n 0), some (.getfield 33), none, none, some (.getfield 270), none, none, some (.iload_n 1), some (.invokevirtual 253), none, none, some (.ireturn), some (.new 90), none, none, some (.dup), some (.ldc_w 273), none, none, some (.invokespecial 94), none, none, some (.athrow)]
def xc55 : List (Option Instr) := [some (.iload_n 1), some (.ifCond .lt 14), none, none, some (.iload_n 1), some (.aload_n 0), some (.getfield 10), none, none, some (.getfield 58), none, none, some (.if_icmp .lt 14), none, none, some (.new 147), none, none, some (.dup), some (.ldc_w 374), none, none, some (.invokespecial 151), none, none, some (.athrow), some (.return_)]
def xc56 : List (Option Instr) := [some (.iconst 0), some (.istore_n 2), some (.iconst 0), some (.istore_n 3), some (.iconst 0), some (.istore 4), none, some (.iconst 0), some (.istore 5), none, some (.iload 5), none, some (.iconst 5), some (.if_icmp .ge 69), none, none, some (.aload_n 0), some (.getfield 32), none, none, some (.iload_n 1), some (.iload 5), none, some (.invokevirtual 50), none, none, some (.iconst 5), some (.iload 5), none, some (.isub), some (.imul), some (.istore 6), none, some (.iload 6), none, some (.iload_n 2), some (.if_icmp .le 14), none, none, some (.iload_n 3), some (.istore 4), none, some (.iload_n 2), some (.istore_n 3), some (.iload 6), none, some (.istore_n 2), some (.goto 29), none, none, some (.iload 6), none, some (.iload_n 3), some (.if_icmp .le 12), none, none, some (.iload_n 3), some (.istore 4), none, some (.iload 6), none, some (.istore_n 3), some (.goto 14), none, none, some (.iload 6), none, some (.iload 4), none, some (.if_icmp .le 7), none, none, some (.iload 6), none, some (.istore 4), none, some (.iinc 5 1), none, none, some (.goto (-69)), none, none, some (.iload_n 2), some (.iload_n 3), some (.iadd), some (.iload 4), none, some (.iadd), some (.ireturn)]
def xc57 : List (Option Instr) := [some (.iconst 0), some (.istore_n 2), some (.iconst 0), some (.istore_n 3), some (.iload_n 3), some (.iconst 5), some (.if_icmp .ge 20), none, none, some (.iload_n 2), some (.aload_n 0), some (.iload_n 3), some (.iconst 1), some (.iload_n 1), some (.ishl), some (.invokevirtual 87), none, none, some (.iadd), some (.istore_n 2), some (.iinc 3 1), none, none, some (.goto (-19)), none, none, some (.iload_n 2), some (.ireturn)]
def xc58 : List (Option Instr) := [some (.iconst 0), some (.istore_n 3), some (.iconst 0), some (.istore 4), none, some (.iload 4), none, some (.bipush 7), none, some (.if_icmp .ge 27), none, none, some (.iload_n 3), some (.aload_n 0), some (.getfield 14), none, none, some (.iload 4), none, some (.iload_n 1), some (.invokevirtual 85), none, none, some (.iload_n 2), some (.iand), some (.invokestatic 53), none, none, some (.iadd), some (.istore_n 3), some (.iinc 4 1), none, none, some (.goto (-28)), none, none, some (.iload_n 3), some (.ireturn)]
def xc59 : List (Option Instr) := [some (.aload_n 0), some (.iload_n 1), some (.invokevirtual 246), none, none, some (.aload_n 0), some (.iload_n 2), some (.invokevirtual 246), none, none, some (.aload_n 0), some (.getfield 10), none, none, some (.getfield 275), none, none, some (.iload_n 1), some (.iload_n 2), some (.invokevirtual 278), none, none, some (.ireturn)]
def xc60 : List (Option Instr) := [some (.lload_n 1), some (.lstore 4), none, some (.iconst 0), some (.istore 6), none, some (.iload 6), none, some (.iconst 2), some (.if_icmp .gt 26), none, none, some (.lload 4), none, some (.ldc2_w 339), none, none, some (.lmul), some (.aload_n 0), some (.iload_n 3), some (.iload 6), none, some (.invokevirtual 363), none, none, some (.i2l), some (.ladd), some (.lstore 4), none, some (.iinc 6 1), none, none, some (.goto (-26)), none, none, some (.iconst 0), some (.istore 6), none, some (.iload 6), none, some (.aload_n 0), some (.getfield 26), none, none, some (.getfield 131), none, none, some (.if_icmp .ge 63), none, none, some (.lload 4), none, some (.ldc2_w 339), none, none, some (.lmul), some (.aload_n 0), some (.iload_n 3), some (.iload 6), none, some (.iconst 0), some (.invokevirtual 366), none, none, some (.i2l), some (.ladd), some (.lstore 4), none, some (.lload 4), none, some (.ldc2_w 339), none, none, some (.lmul), some (.aload_n 0), some (.iload_n 3), some (.iload 6), none, some (.iconst 1), some (.invokevirtual 366), none, none, some (.i2l), some (.ladd), some (.lstore 4), none, some (.lload 4), none, some (.ldc2_w 339), none, none, some (.lmul), some (.aload_n 0), some (.iload_n 3), some (.iload 6), none, some (.iconst 1), some (.invokevirtual 369), none, none, some (.i2l), some (.ladd), some (.lstore 4), none, some (.iinc 6 1), none, none, some (.goto (-69)), none, none, some (.lload 4), none, some (.lreturn)]
def xc61 : List (Option Instr) := [some (.aload_n 0), some (.iload_n 1), some (.invokevirtual 212), none, none, some (.aload_n 0), some (.iload_n 2), some (.invokevirtual 192), none, none, some (.aload_n 0), some (.getfield 26), none, none, some (.iload_n 1), some (.invokevirtual 215), none, none, some (.istore 4), none, some (.iload_n 3), some (.lookupswitch 55 #[(0, 27), (1, 41)]), none, none, none, none, none, none, none, none, none, none, none, none, none, none, none, none, none, none, none, none, none, none, none, none, none, none, some (.aload_n 0), some (.getfield 47), none, none, some (.getfield 300), none, none, some (.iload_n 2), some (.iload 4), none, some (.invokevirtual 278), none, none, some (.ireturn), some (.aload_n 0), some (.getfield 47), none, none, some (.getfield 303), none, none, some (.iload_n 2), some (.iload 4), none, some (.invokevirtual 278), none, none, some (.ireturn), some (.new 90), none, none, some (.dup), some (.ldc_w 306), none, none, some (.invokespecial 94), none, none, some (.athrow)]
def xc62 : List (Option Instr) := [some (.iload_n 1), some (.ifCond .lt 14), none, none, some (.iload_n 1), some (.aload_n 0), some (.getfield 26), none, none, some (.getfield 131), none, none, some (.if_icmp .lt 14), none, none, some (.new 147), none, none, some (.dup), some (.ldc_w 378), none, none, some (.invokespecial 151), none, none, some (.athrow), some (.return_)]
def xc63 : List (Option Instr) := [some (.aload_n 0), some (.iload_n 1), some (.invokevirtual 212), none, none, some (.aload_n 0), some (.iload_n 2), some (.invokevirtual 192), none, none, some (.iload_n 3), some (.iconst 1), some (.if_icmp .lt 14), none, none, some (.iload_n 3), some (.aload_n 0), some (.getfield 40), none, none, some (.getfield 291), none, none, some (.if_icmp .le 14), none, none, some (.new 90), none, none, some (.dup), some (.ldc_w 294), none, none, some (.invokespecial 94), none, none, some (.athrow), some (.aload_n 0), some (.getfield 47), none, none, some (.iload_n 2), some (.aload_n 0), some (.getfield 26), none, none, some (.iload_n 1), some (.invokevirtual 215), none, none, some (.iload_n 3), some (.invokevirtual 296), none, none, some (.ireturn)]
def xc64 : List (Option Instr) := [some (.aload_n 0), some (.getfield 41), none, none, some (.iload_n 1), some (.iload_n 2), some (.invokestatic 88), none, none, some (.iload_n 3), some (.invokevirtual 92), none, none, some (.ireturn)]
def xc65 : List (Option Instr) := [some (.iload_n 1), some (.ifCond .lt 14), none, none, some (.iload_n 1), some (.aload_n 0), some (.getfield 19), none, none, some (.getfield 73), none, none, some (.if_icmp .lt 14), none, none, some (.new 147), none, none, some (.dup), some (.ldc_w 280), none, none, some (.invokespecial 151), none, none, some (.athrow), some (.iload_n 2), some (.tableswitch 82 0 3 #[29, 41, 61, 73]), none, none, none, none, none, none, none, none, none, none, none, none, none, none, none, none, none, none, none, none, none, none, none, none, none, none, none, none, some (.aload_n 0), some (.getfield 19), none, none, some (.getfield 282), none, none, some (.iload_n 1), some (.invokevirtual 253), none, none, some (.ireturn), some (.aload_n 0), some (.getfield 26), none, none, some (.getfield 140), none, none, some (.iload_n 1), some (.invokestatic 143), none, none, some (.ifCond .eq 7), none, none, some (.iconst 1), some (.goto 4), none, none, some (.iconst 0), some (.ireturn), some (.aload_n 0), some (.getfield 19), none, none, some (.getfield 283), none, none, some (.iload_n 1), some (.invokevirtual 253), none, none, some (.ireturn), some (.aload_n 0), some (.getfield 40), none, none, some (.iload_n 1), some (.invokevirtual 286), none, none, some (.ireturn), some (.new 90), none, none, some (.dup), some (.ldc_w 289), none, none, some (.invokespecial 94), none, none, some (.athrow)]
def xc66 : List (Option Instr) := [some (.iconst 0), some (.istore_n 2), some (.iconst 0), some (.istore_n 3), some (.iload_n 3), some (.aload_n 0), some (.getfield 33), none, none, some (.if_icmp .ge 21), none, none, some (.aload_n 0), some (.iload_n 1), some (.iload_n 3), some (.invokevirtual 64), none, none, some (.ifCond .eq 6), none, none, some (.iinc 2 1), none, none, some (.iinc 3 1), none, none, some (.goto (-23)), none, none, some (.iload_n 2), some (.ireturn)]
def xc67 : List (Option Instr) := [some (.aload_n 0), some (.invokespecial 1), none, none, some (.aload_n 0), some (.new 7), none, none, some (.dup), some (.invokespecial 9), none, none, some (.putfield 10), none, none, some (.aload_n 0), some (.iconst 0), some (.newarray .int), none, some (.putfield 16), none, none, some (.aload_n 0), some (.iconst 0), some (.newarray .int), none, some (.putfield 20), none, none, some (.aload_n 0), some (.bipush 10), none, some (.newarray .int), none, some (.putfield 23), none, none, some (.aload_n 0), some (.bipush 7), none, some (.newarray .int), none, some (.putfield 26), none, none, some (.aload_n 0), some (.bipush 10), none, some (.bipush 10), none, some (.multianewarray 29 2), none, none, none, some (.putfield 31), none, none, some (.aload_n 0), some (.iconst 0), some (.anewarray 34), none, none, some (.putfield 35), none, none, some (.aload_n 0), some (.bipush 10), none, some (.newarray .int), none, some (.putfield 38), none, none, some (.aload_n 0), some (.bipush 10), none, some (.newarray .int), none, some (.putfield 41), none, none, some (.aload_n 0), some (.bipush 7), none, some (.iconst 5), some (.multianewarray 29 2), none, none, none, some (.putfield 44), none, none, some (.aload_n 0), some (.iconst 0), some (.newarray .int), none, some (.putfield 47), none, none, some (.aload_n 0), some (.bipush 7), none, some (.iconst 5), some (.iconst 0), some (.multianewarray 50 3), none, none, none, some (.putfield 52), none, none, some (.aload_n 0), some (.bipush 10), none, some (.iconst 5), some (.multianewarray 55 2), none, none, none, some (.putfield 57), none, none, some (.aload_n 0), some (.aload_n 1), some (.putfield 60), none, none, some (.aload_n 0), some (.iload_n 2), some (.putfield 63), none, none, some (.aload_n 0), some (.invokevirtual 67), none, none, some (.return_)]
def xc68 : List (Option Instr) := [some (.aload_n 0), some (.invokespecial 1), none, none, some (.aload_n 0), some (.new 7), none, none, some (.dup), some (.invokespecial 9), none, none, some (.putfield 10), none, none, some (.aload_n 0), some (.new 16), none, none, some (.dup), some (.invokespecial 18), none, none, some (.putfield 19), none, none, some (.aload_n 0), some (.new 23), none, none, some (.dup), some (.invokespecial 25), none, none, some (.putfield 26), none, none, some (.aload_n 0), some (.new 30), none, none, some (.dup), some (.invokespecial 32), none, none, some (.putfield 33), none, none, some (.aload_n 0), some (.new 37), none, none, some (.dup), some (.invokespecial 39), none, none, some (.putfield 40), none, none, some (.aload_n 0), some (.new 44), none, none, some (.dup), some (.invokespecial 46), none, none, some (.putfield 47), none, none, some (.aload_n 0), some (.new 44), none, none, some (.dup), some (.invokespecial 46), none, none, some (.putfield 51), none, none, some (.return_)]
def xc69 : List (Option Instr) := [some (.aload_n 0), some (.invokespecial 3), none, none, some (.aload_n 0), some (.new 9), none, none, some (.dup), some (.bipush 10), none, some (.invokespecial 11), none, none, some (.putfield 14), none, none, some (.aload_n 0), some (.new 9), none, none, some (.dup), some (.bipush 10), none, some (.invokespecial 11), none, none, some (.putfield 20), none, none, some (.aload_n 0), some (.new 23), none, none, some (.dup), some (.bipush 10), none, some (.bipush 10), none, some (.invokespecial 25), none, none, some (.putfield 28), none, none, some (.aload_n 0), some (.new 23), none, none, some (.dup), some (.bipush 10), none, some (.iconst 5), some (.invokespecial 25), none, none, some (.putfield 32), none, none, some (.return_)]
def xc70 : List (Option Instr) := [some (.aload_n 0), some (.invokespecial 1), none, none, some (.aload_n 0), some (.iload_n 1), some (.ifCond .le 7), none, none, some (.iload_n 1), some (.goto 4), none, none, some (.iconst 0), some (.newarray .int), none, some (.putfield 7), none, none, some (.return_)]
def xc71 : List (Option Instr) := [some (.aload_n 0), some (.invokespecial 3), none, none, some (.iload_n 1), some (.iload_n 2), some (.imul), some (.istore_n 3), some (.aload_n 0), some (.iload_n 2), some (.putfield 9), none, none, some (.aload_n 0), some (.iload_n 3), some (.ifCond .le 7), none, none, some (.iload_n 3), some (.goto 4), none, none, some (.iconst 0), some (.newarray .int), none, some (.putfield 15), none, none, some (.return_)]
def xc72 : List (Option Instr) := [some (.aload_n 0), some (.invokespecial 3), none, none, some (.aload_n 0), some (.new 9), none, none, some (.dup), some (.bipush 7), none, some (.invokespecial 11), none, none, some (.putfield 14), none, none, some (.aload_n 0), some (.new 9), none, none, some (.dup), some (.bipush 7), none, some (.invokespecial 11), none, none, some (.putfield 20), none, none, some (.return_)]
def xc73 : List (Option Instr) := [some (.aload_n 0), some (.invokespecial 3), none, none, some (.aload_n 0), some (.new 9), none, none, some (.dup), some (.bipush 10), none, some (.invokespecial 11), none, none, some (.putfield 14), none, none, some (.return_)]
def xc74 : List (Option Instr) := [some (.aload_n 0), some (.invokespecial 3), none, none, some (.aload_n 0), some (.new 9), none, none, some (.dup), some (.bipush 7), none, some (.iconst 5), some (.invokespecial 11), none, none, some (.putfield 14), none, none, some (.aload_n 0), some (.new 20), none, none, some (.dup), some (.bipush 10), none, some (.invokespecial 22), none, none, some (.putfield 25), none, none, some (.aload_n 0), some (.new 20), none, none, some (.dup), some (.iconst 5), some (.invokespecial 22), none, none, some (.putfield 29), none, none, some (.aload_n 0), some (.getfield 25), none, none, some (.iconst (-1)), some (.invokevirtual 32), none, none, some (.return_)]
def xc75 : List (Option Instr) := [some (.aload_n 0), some (.invokespecial 3), none, none, some (.aload_n 0), some (.new 9), none, none, some (.dup), some (.bipush 35), none, some (.bipush 8), none, some (.invokespecial 11), none, none, some (.putfield 14), none, none, some (.aload_n 0), some (.new 20), none, none, some (.dup), some (.iconst 5), some (.invokespecial 22), none, none, some (.putfield 25), none, none, some (.return_)]
def xc76 : List (Option Instr) := [some (.aload_n 0), some (.invokespecial 3), none, none, some (.aload_n 0), some (.new 9), none, none, some (.dup), some (.iconst 5), some (.bipush 8), none, some (.invokespecial 11), none, none, some (.putfield 14), none, none, some (.aload_n 0), some (.new 9), none, none, some (.dup), some (.iconst 5), some (.bipush 8), none, some (.invokespecial 11), none, none, some (.putfield 20), none, none, some (.aload_n 0), some (.new 23), none, none, some (.dup), some (.bipush 8), none, some (.invokespecial 25), none, none, some (.putfield 28), none, none, some (.aload_n 0), some (.new 23), none, none, some (.dup), some (.bipush 8), none, some (.invokespecial 25), none, none, some (.putfield 32), none, none, some (.aload_n 0), some (.new 23), none, none, some (.dup), some (.bipush 8), none, some (.invokespecial 25), none, none, some (.putfield 35), none, none, some (.aload_n 0), some (.new 38), none, none, some (.dup), some (.bipush 40), none, some (.invokespecial 40), none, none, some (.putfield 41), none, none, some (.aload_n 0), some (.new 23), none, none, some (.dup), some (.iconst 5), some (.invokespecial 25), none, none, some (.putfield 45), none, none, some (.aload_n 0), some (.new 23), none, none, some (.dup), some (.bipush 8), none, some (.invokespecial 25), none, none, some (.putfield 48), none, none, some (.aload_n 0), some (.new 23), none, none, some (.dup), some (.bipush 8), none, some (.invokespecial 25), none, none, some (.putfield 51), none, none, some (.return_)]
def xc77 : List (Option Instr) := [some (.aload_n 0), some (.invokespecial 3), none, none, some (.aload_n 0), some (.new 9), none, none, some (.dup), some (.iload_n 1), some (.bipush 9), none, some (.invokespecial 11), none, none, some (.putfield 14), none, none, some (.aload_n 0), some (.new 9), none, none, some (.dup), some (.iload_n 1), some (.bipush 9), none, some (.invokespecial 11), none, none, some (.putfield 20), none, none, some (.return_)]
def xc78 : List (Option Instr) := [some (.iconst 0), some (.istore_n 1), some (.iload_n 1), some (.bipush 10), none, some (.if_icmp .ge 16), none, none, some (.aload_n 0), some (.getfield 41), none, none, some (.iload_n 1), some (.iconst (-1)), some (.iastore), some (.iinc 1 1), none, none, some (.goto (-16)), none, none, some (.return_)]
def xc79 : List (Option Instr) := [some (.aload_n 0), some (.getfield 60), none, none, some (.aload_n 0), some (.getfield 63), none, none, some (.bipush 24), none, some (.irem), some (.invokestatic 70), none, none, some (.aload_n 0), some (.getfield 63), none, none, some (.bipush 24), none, some (.idiv), some (.bipush 8), none, some (.irem), some (.ishr), some (.sipush 353), none, none, some (.aload_n 0), some (.getfield 63), none, none, some (.imul), some (.iadd), some (.iload_n 1), some (.invokestatic 76), none, none, some (.istore_n 2), some (.aload_n 0), some (.dup), some (.getfield 63), none, none, some (.iconst 1), some (.iadd), some (.putfield 63), none, none, some (.iload_n 2), some (.ireturn)]
def xc80 : List (Option Instr) := [some (.iload_n 1), some (.aload_n 0), some (.arraylength), some (.if_icmp .ge 9), none, none, some (.aload_n 0), some (.iload_n 1), some (.iaload), some (.goto 9), none, none, some (.ldc 8), none, some (.iload_n 1), some (.iconst 3), some (.iadd), some (.imul), some (.ireturn)]
def xc81 : List (Option Instr) := [some (.iload_n 0), some (.ldc 7), none, some (.iand), some (.iload_n 1), some (.irem), some (.ireturn)]
def xc82 : List (Option Instr) := [some (.iload_n 1), some (.bipush 7), none, some (.irem), some (.istore_n 2), some (.aload_n 0), some (.getfield 121), none, none, some (.iload_n 2), some (.invokestatic 105), none, none, some (.ifCond .ne 13), none, none, some (.iload_n 2), some (.iconst 1), some (.iadd), some (.bipush 7), none, some (.irem), some (.istore_n 2), some (.goto (-18)), none, none, some (.iload_n 2), some (.ireturn)]
def xc83 : List (Option Instr) := [some (.iload_n 0), some (.iload_n 1), some (.ishr), some (.iconst 2), some (.irem), some (.iconst 1), some (.if_icmp .ne 7), none, none, some (.iconst 1), some (.goto 4), none, none, some (.iconst 0), some (.ireturn)]
def xc84 : List (Option Instr) := [some (.aload_n 0), some (.getfield 47), none, none, some (.arraylength), some (.istore 4), none, some (.iload 4), none, some (.newarray .int), none, some (.astore 5), none, some (.iconst 0), some (.istore 6), none, some (.iload 6), none, some (.iload 4), none, some (.if_icmp .ge 18), none, none, some (.aload 5), none, some (.iload 6), none, some (.iload 6), none, some (.iconst 1), some (.iadd), some (.iastore), some (.iinc 6 1), none, none, some (.goto (-19)), none, none, some (.iconst 0), some (.istore 6), none, some (.iload 6), none, some (.iload_n 3), some (.if_icmp .ge 49), none, none, some (.aload_n 0), some (.iload 4), none, some (.invokevirtual 97), none, none, some (.istore 7), none, some (.aload_n 0), some (.iload 4), none, some (.invokevirtual 97), none, none, some (.istore 8), none, some (.aload 5), none, some (.iload 7), none, some (.iaload), some (.istore 9), none, some (.aload 5), none, some (.iload 7), none, some (.aload 5), none, some (.iload 8), none, some (.iaload), some (.iastore), some (.aload 5), none, some (.iload 8), none, some (.iload 9), none, some (.iastore), some (.iinc 6 1), none, none, some (.goto (-49)), none, none, some (.aload_n 0), some (.getfield 52), none, none, some (.iload_n 1), some (.aaload), some (.iload_n 2), some (.aload 5), none, some (.aastore), some (.iconst 0), some (.istore 6), none, some (.iload 4), none, some (.iconst 1), some (.isub), some (.istore 7), none, some (.iload 7), none, some (.ifCond .lt 22), none, none, some (.bipush 10), none, some (.iload 6), none, some (.imul), some (.aload 5), none, some (.iload 7), none, some (.iaload), some (.iadd), some (.istore 6), none, some (.iinc 7 (-1)), none, none, some (.goto (-21)), none, none, some (.aload_n 0), some (.getfield 10), none, none, some (.iload_n 1), some (.iload_n 2), some (.iload 6), none, some (.invokevirtual 172), none, none, some (.aload_n 0), some (.iload_n 2), some (.invokevirtual 175), none, none, some (.if_icmp .ne 7), none, none, some (.iconst 1), some (.goto 4), none, none, some (.iconst 0), some (.ireturn)]
def xc85 : List (Option Instr) := [some (.aload_n 0), some (.getfield 111), none, none, some (.ifCond .eq 17), none, none, some (.aload_n 0), some (.getfield 26), none, none, some (.getfield 140), none, none, some (.iload_n 1), some (.invokestatic 143), none, none, some (.ifCond .ne 13), none, none, some (.new 147), none, none, some (.dup), some (.ldc 190), none, some (.invokespecial 151), none, none, some (.athrow), some (.aload_n 0), some (.iload_n 2), some (.invokevirtual 192), none, none, some (.aload_n 0), some (.getfield 40), none, none, some (.iload_n 3), some (.invokevirtual 195), none, none, some (.ifCond .ne 13), none, none, some (.new 90), none, none, some (.dup), some (.ldc 198), none, some (.invokespecial 94), none, none, some (.athrow), some (.aload_n 0), some (.getfield 40), none, none, some (.iload_n 1), some (.iload_n 2), some (.iload_n 3), some (.invokevirtual 200), none, none, some (.aload_n 0), some (.getfield 47), none, none, some (.aload_n 0), some (.getfield 40), none, none, some (.iconst 0), some (.invokevirtual 186), none, none, some (.aload_n 0), some (.getfield 40), none, none, some (.iload_n 2), some (.invokevirtual 203), none, none, some (.ireturn)]
def xc86 : List (Option Instr) := [some (.iload_n 1), some (.istore_n 2), some (.iconst 0), some (.istore_n 3), some (.iconst 0), some (.istore 4), none, some (.iload 4), none, some (.aload_n 0), some (.getfield 29), none, none, some (.if_icmp .ge 53), none, none, some (.iload_n 2), some (.bipush 10), none, some (.irem), some (.istore 5), none, some (.iload 5), none, some (.iconst 1), some (.if_icmp .lt 21), none, none, some (.iload 5), none, some (.aload_n 0), some (.getfield 29), none, none, some (.if_icmp .gt 12), none, none, some (.iload_n 3), some (.iload 5), none, some (.invokestatic 40), none, none, some (.ifCond .eq 5), none, none, some (.iconst 0), some (.ireturn), some (.iload_n 3), some (.iconst 1), some (.iload 5), none, some (.ishl), some (.ior), some (.istore_n 3), some (.iload_n 2), some (.bipush 10), none, some (.idiv), some (.istore_n 2), some (.iinc 4 1), none, none, some (.goto (-56)), none, none, some (.iload_n 2), some (.ifCond .ne 7), none, none, some (.iconst 1), some (.goto 4), none, none, some (.iconst 0), some (.ireturn)]
def xc87 : List (Option Instr) := [some (.iconst 0), some (.istore_n 2), some (.aload_n 0), some (.getfield 52), none, none, some (.astore_n 3), some (.aload_n 3), some (.arraylength), some (.istore 4), none, some (.iconst 0), some (.istore 5), none, some (.iload 5), none, some (.iload 4), none, some (.if_icmp .ge 31), none, none, some (.aload_n 3), some (.iload 5), none, some (.aaload), some (.astore 6), none, some (.iload_n 2), some (.aload 6), none, some (.iload_n 1), some (.aaload), some (.arraylength), some (.ifCond .le 7), none, none, some (.iconst 1), some (.goto 4), none, none, some (.iconst 0), some (.iadd), some (.istore_n 2), some (.iinc 5 1), none, none, some (.goto (-32)), none, none, some (.iload_n 2), some (.ireturn)]
def xc88 : List (Option Instr) := [some (.aload_n 0), some (.iconst 3), some (.aload_n 0), some (.iconst 4), some (.invokevirtual 28), none, none, some (.iadd), some (.invokevirtual 89), none, none, some (.ifCond .eq 37), none, none, some (.aload_n 0), some (.iconst 1), some (.aload_n 0), some (.getfield 93), none, none, some (.arraylength), some (.ishl), some (.iconst 1), some (.isub), some (.iconst 1), some (.aload_n 0), some (.iconst 2), some (.invokevirtual 28), none, none, some (.iadd), some (.invokevirtual 96), none, none, some (.ifCond .eq 14), none, none, some (.aload_n 0), some (.invokevirtual 100), none, none, some (.ifCond .eq 7), none, none, some (.iconst 1), some (.goto 4), none, none, some (.iconst 0), some (.ireturn)]
def xc89 : List (Option Instr) := [some (.iconst 0), some (.istore_n 2), some (.iload_n 2), some (.iload_n 1), some (.if_icmp .ge 23), none, none, some (.aload_n 0), some (.aload_n 0), some (.iconst 3), some (.invokevirtual 97), none, none, some (.invokevirtual 100), none, none, some (.ifCond .ne 5), none, none, some (.iconst 0), some (.ireturn), some (.iinc 2 1), none, none, some (.goto (-22)), none, none, some (.iconst 0), some (.istore_n 2), some (.iload_n 2), some (.iconst 3), some (.aload_n 0), some (.iconst 5), some (.invokevirtual 97), none, none, some (.iadd), some (.if_icmp .ge 49), none, none, some (.aload_n 0), some (.getfield 20), none, none, some (.arraylength), some (.bipush 7), none, some (.if_icmp .ge 33), none, none, some (.aload_n 0), some (.iload_n 2), some (.iconst 3), some (.if_icmp .ge 13), none, none, some (.iconst 3), some (.aload_n 0), some (.iconst 3), some (.invokevirtual 97), none, none, some (.iadd), some (.goto 9), none, none, some (.aload_n 0), some (.bipush 6), none, some (.invokevirtual 97), none, none, some (.invokevirtual 103), none, none, some (.ifCond .ne 5), none, none, some (.iconst 0), some (.ireturn), some (.iinc 2 1), none, none, some (.goto (-54)), none, none, some (.iconst 1), some (.ireturn)]
def xc90 : List (Option Instr) := [some (.aload_n 0), some (.aload_n 0), some (.getfield 16), none, none, some (.iload_n 1), some (.invokestatic 86), none, none, some (.putfield 16), none, none, some (.aload_n 0), some (.getfield 10), none, none, some (.iload_n 1), some (.invokevirtual 90), none, none, some (.aload_n 0), some (.getfield 16), none, none, some (.arraylength), some (.iconst 1), some (.isub), some (.if_icmp .ne 7), none, none, some (.iconst 1), some (.goto 4), none, none, some (.iconst 0), some (.ireturn)]
def xc91 : List (Option Instr) := [some (.aload_n 0), some (.arraylength), some (.iconst 1), some (.iadd), some (.newarray .int), none, some (.astore_n 2), some (.aload_n 0), some (.iconst 0), some (.aload_n 2), some (.iconst 0), some (.aload_n 0), some (.arraylength), some (.invokestatic 80), none, none, some (.aload_n 2), some (.aload_n 0), some (.arraylength), some (.iload_n 1), some (.iastore), some (.aload_n 2), some (.areturn)]
def xc92 : List (Option Instr) := [some (.iload_n 1), some (.invokestatic 54), none, none, some (.aload_n 0), some (.getfield 10), none, none, some (.getfield 58), none, none, some (.bipush 10), none, some (.if_icmp .lt 13), none, none, some (.new 62), none, none, some (.dup), some (.ldc 64), none, some (.invokespecial 66), none, none, some (.athrow), some (.aload_n 0), some (.getfield 10), none, none, some (.iload_n 1), some (.invokevirtual 69), none, none, some (.ireturn)]
def xc93 : List (Option Instr) := [some (.iload_n 0), some (.ifCond .lt 9), none, none, some (.iload_n 0), some (.bipush 6), none, some (.if_icmp .lt 14), none, none, some (.new 90), none, none, some (.dup), some (.ldc_w 372), none, none, some (.invokespecial 94), none, none, some (.athrow), some (.return_)]
def xc94 : List (Option Instr) := [some (.aload_n 0), some (.getfield 14), none, none, some (.aload_n 0), some (.getfield 35), none, none, some (.iload_n 1), some (.invokevirtual 39), none, none, some (.aload_n 0), some (.dup), some (.getfield 35), none, none, some (.iconst 1), some (.iadd), some (.putfield 35), none, none, some (.aload_n 0), some (.getfield 35), none, none, some (.iconst 1), some (.isub), some (.ireturn)]
def xc95 : List (Option Instr) := [some (.aload_n 0), some (.aload_n 0), some (.getfield 20), none, none, some (.iload_n 1), some (.invokestatic 86), none, none, some (.putfield 20), none, none, some (.aload_n 0), some (.getfield 10), none, none, some (.iload_n 1), some (.invokevirtual 94), none, none, some (.aload_n 0), some (.getfield 20), none, none, some (.arraylength), some (.iconst 1), some (.isub), some (.if_icmp .ne 7), none, none, some (.iconst 1), some (.goto 4), none, none, some (.iconst 0), some (.ireturn)]
def xc96 : List (Option Instr) := [some (.iload_n 1), some (.invokestatic 54), none, none, some (.aload_n 0), some (.getfield 19), none, none, some (.getfield 73), none, none, some (.bipush 7), none, some (.if_icmp .ge 13), none, none, some (.aload_n 0), some (.getfield 26), none, none, some (.getfield 74), none, none, some (.ifCond .eq 13), none, none, some (.new 62), none, none, some (.dup), some (.ldc 78), none, some (.invokespecial 66), none, none, some (.athrow), some (.aload_n 0), some (.getfield 19), none, none, some (.iload_n 1), some (.invokevirtual 80), none, none, some (.ireturn)]
def xc97 : List (Option Instr) := [some (.aload_n 0), some (.getfield 14), none, none, some (.aload_n 0), some (.getfield 23), none, none, some (.iload_n 1), some (.invokevirtual 27), none, none, some (.aload_n 0), some (.dup), some (.getfield 23), none, none, some (.iconst 1), some (.iadd), some (.putfield 23), none, none, some (.aload_n 0), some (.getfield 23), none, none, some (.iconst 1), some (.isub), some (.ireturn)]
def xc98 : List (Option Instr) := [some (.aload_n 0), some (.aload_n 0), some (.iload_n 1), some (.dup_x1), some (.putfield 109), none, none, some (.putfield 112), none, none, some (.aload_n 0), some (.iload_n 2), some (.putfield 115), none, none, some (.aload_n 0), some (.aload_n 0), some (.iload_n 1), some (.invokevirtual 118), none, none, some (.putfield 121), none, none, some (.aload_n 0), some (.iconst 1), some (.putfield 124), none, none, some (.aload_n 0), some (.iconst 0), some (.putfield 128), none, none, some (.aload_n 0), some (.iconst 0), some (.putfield 131), none, none, some (.aload_n 0), some (.bipush 10), none, some (.newarray .int), none, some (.putfield 38), none, none, some (.aload_n 0), some (.bipush 7), none, some (.iconst 5), some (.multianewarray 29 2), none, none, none, some (.putfield 44), none, none, some (.aload_n 0), some (.invokevirtual 67), none, none, some (.aload_n 0), some (.getfield 10), none, none, some (.iload_n 1), some (.iload_n 2), some (.invokevirtual 134), none, none, some (.aload_n 0), some (.getfield 121), none, none, some (.invokestatic 137), none, none, some (.if_icmp .ne 7), none, none, some (.iconst 1), some (.goto 4), none, none, some (.iconst 0), some (.ireturn)]
def xc99 : List (Option Instr) := [some (.iconst 0), some (.newarray .int), none, some (.astore_n 2), some (.iconst 0), some (.istore_n 3), some (.iload_n 3), some (.aload_n 0), some (.getfield 20), none, none, some (.arraylength), some (.if_icmp .ge 70), none, none, some (.iconst 1), some (.istore 4), none, some (.iconst 0), some (.istore 5), none, some (.iload 5), none, some (.aload_n 0), some (.getfield 16), none, none, some (.arraylength), some (.if_icmp .ge 37), none, none, some (.iload_n 1), some (.iload 5), none, some (.invokestatic 105), none, none, some (.ifCond .eq 22), none, none, some (.aload_n 0), some (.getfield 16), none, none, some (.iload 5), none, some (.iaload), some (.aload_n 0), some (.getfield 20), none, none, some (.iload_n 3), some (.iaload), some (.if_icmp .ne 6), none, none, some (.iconst 0), some (.istore 4), none, some (.iinc 5 1), none, none, some (.goto (-41)), none, none, some (.iload 4), none, some (.ifCond .eq 9), none, none, some (.aload_n 2), some (.iload_n 3), some (.invokestatic 86), none, none, some (.astore_n 2), some (.iinc 3 1), none, none, some (.goto (-73)), none, none, some (.iconst 0), some (.istore_n 3), some (.iconst 0), some (.istore 4), none, some (.iload 4), none, some (.aload_n 2), some (.arraylength), some (.aload_n 2), some (.arraylength), some (.iconst 2), some (.irem), some (.ifCond .ne 7), none, none, some (.iconst 1), some (.goto 4), none, none, some (.iconst 0), some (.isub), some (.if_icmp .ge 18), none, none, some (.iload_n 3), some (.iconst 1), some (.aload_n 2), some (.iload 4), none, some (.iaload), some (.ishl), some (.iadd), some (.istore_n 3), some (.iinc 4 1), none, none, some (.goto (-32)), none, none, some (.iload_n 3), some (.ireturn)]
def xc100 : List (Option Instr) := [some (.aload_n 0), some (.getfield 10), none, none, some (.iload_n 1), some (.invokevirtual 81), none, none, some (.ifCond .eq 11), none, none, some (.iload_n 1), some (.invokestatic 85), none, none, some (.iconst 3), some (.if_icmp .ge 13), none, none, some (.new 90), none, none, some (.dup), some (.ldc 92), none, some (.invokespecial 94), none, none, some (.athrow), some (.iload_n 2), some (.iconst 1), some (.if_icmp .lt 8), none, none, some (.iload_n 2), some (.iconst 5), some (.if_icmp .le 13), none, none, some (.new 90), none, none, some (.dup), some (.ldc 95), none, some (.invokespecial 94), none, none, some (.athrow), some (.aload_n 0), some (.getfield 19), none, none, some (.aload_n 0), some (.getfield 10), none, none, some (.iload_n 1), some (.invokevirtual 97), none, none, some (.invokevirtual 100), none, none, some (.istore_n 3), some (.aload_n 0), some (.getfield 26), none, none, some (.getfield 74), none, none, some (.ifCond .ne 11), none, none, some (.iload_n 3), some (.invokestatic 85), none, none, some (.iconst 3), some (.if_icmp .ge 13), none, none, some (.new 62), none, none, some (.dup), some (.ldc 103), none, some (.invokespecial 66), none, none, some (.athrow), some (.aload_n 0), some (.getfield 26), none, none, some (.iload_n 1), some (.iload_n 3), some (.iload_n 2), some (.invokevirtual 105), none, none, some (.iload_n 3), some (.invokestatic 85), none, none, some (.ireturn)]
def xc101 : List (Option Instr) := [some (.iload_n 1), some (.iconst 1), some (.aload_n 0), some (.getfield 35), none, none, some (.ishl), some (.iconst 1), some (.isub), some (.iconst (-1)), some (.ixor), some (.iand), some (.ifCond .ne 7), none, none, some (.iconst 1), some (.goto 4), none, none, some (.iconst 0), some (.ireturn)]
def xc102 : List (Option Instr) := [some (.iconst 0), some (.istore_n 2), some (.iconst 0), some (.istore_n 3), some (.iload_n 3), some (.aload_n 0), some (.getfield 35), none, none, some (.if_icmp .ge 30), none, none, some (.iload_n 1), some (.iload_n 3), some (.invokestatic 42), none, none, some (.ifCond .eq 16), none, none, some (.iload_n 2), some (.iconst 1), some (.aload_n 0), some (.getfield 14), none, none, some (.iload_n 3), some (.invokevirtual 46), none, none, some (.ishl), some (.ior), some (.istore_n 2), some (.iinc 3 1), none, none, some (.goto (-32)), none, none, some (.iload_n 2), some (.ireturn)]
def xc103 : List (Option Instr) := [some (.iconst 0), some (.istore_n 2), some (.iconst 0), some (.istore_n 3), some (.iconst 0), some (.istore 4), none, some (.iload 4), none, some (.aload_n 0), some (.getfield 23), none, none, some (.if_icmp .ge 34), none, none, some (.iload_n 1), some (.aload_n 0), some (.getfield 14), none, none, some (.iload 4), none, some (.invokevirtual 31), none, none, some (.invokestatic 35), none, none, some (.ifCond .ne 12), none, none, some (.iconst 1), some (.iload 4), none, some (.ishl), some (.istore_n 3), some (.iload_n 2), some (.iload_n 3), some (.ior), some (.istore_n 2), some (.iinc 4 1), none, none, some (.goto (-37)), none, none, some (.iload_n 2), some (.invokestatic 39), none, none, some (.iconst 2), some (.irem), some (.ifCond .ne 11), none, none, some (.iload_n 2), some (.iload_n 3), some (.iconst (-1)), some (.ixor), some (.iand), some (.goto 4), none, none, some (.iload_n 2), some (.ireturn)]
def xc104 : List (Option Instr) := [some (.aload_n 0), some (.iconst 1), some (.putfield 20), none, none, some (.aload_n 0), some (.iload_n 1), some (.putfield 24), none, none, some (.aload_n 0), some (.iload_n 1), some (.putfield 28), none, none, some (.aload_n 0), some (.iload_n 2), some (.putfield 31), none, none, some (.aload_n 0), some (.iload_n 3), some (.putfield 34), none, none, some (.aload_n 0), some (.iconst 0), some (.putfield 37), none, none, some (.aload_n 0), some (.getfield 14), none, none, some (.iconst 0), some (.invokevirtual 40), none, none, some (.return_)]
def xc105 : List (Option Instr) := [some (.iconst 0), some (.istore_n 1), some (.iload_n 0), some (.istore_n 2), some (.iload_n 2), some (.ifCond .le 16), none, none, some (.iload_n 1), some (.iload_n 2), some (.iconst 1), some (.iand), some (.iadd), some (.istore_n 1), some (.iload_n 2), some (.iconst 1), some (.ishr), some (.istore_n 2), some (.goto (-14)), none, none, some (.iload_n 1), some (.ireturn)]
def xc106 : List (Option Instr) := [some (.aload_n 0), some (.iconst 1), some (.putfield 166), none, none, some (.aload_n 0), some (.iconst 0), some (.newarray .int), none, some (.putfield 47), none, none, some (.iconst 0), some (.istore_n 1), some (.iload_n 1), some (.bipush 10), none, some (.if_icmp .ge 32), none, none, some (.aload_n 0), some (.getfield 109), none, none, some (.iload_n 1), some (.invokestatic 105), none, none, some (.ifCond .eq 15), none, none, some (.aload_n 0), some (.aload_n 0), some (.getfield 47), none, none, some (.iload_n 1), some (.invokestatic 86), none, none, some (.putfield 47), none, none, some (.iinc 1 1), none, none, some (.goto (-32)), none, none, some (.aload_n 0), some (.bipush 7), none, some (.iconst 5), some (.iconst 0), some (.multianewarray 50 3), none, none, none, some (.putfield 52), none, none, some (.aload_n 0), some (.bipush 10), none, some (.iconst 5), some (.multianewarray 55 2), none, none, none, some (.putfield 57), none, none, some (.aload_n 0), some (.getfield 10), none, none, some (.invokevirtual 169), none, none, some (.aload_n 0), some (.getfield 47), none, none, some (.arraylength), some (.if_icmp .ne 7), none, none, some (.iconst 1), some (.goto 4), none, none, some (.iconst 0), some (.ireturn)]
def xc107 : List (Option Instr) := [some (.aload_n 0), some (.getfield 26), none, none, some (.getfield 117), none, none, some (.invokestatic 85), none, none, some (.istore_n 1), some (.aload_n 0), some (.getfield 26), none, none, some (.getfield 74), none, none, some (.ifCond .eq 26), none, none, some (.aload_n 0), some (.getfield 111), none, none, some (.ifCond .ne 19), none, none, some (.aload_n 0), some (.getfield 33), none, none, some (.getfield 114), none, none, some (.ifCond .ne 9), none, none, some (.iload_n 1), some (.bipush 8), none, some (.if_icmp .le 13), none, none, some (.new 62), none, none, some (.dup), some (.ldc 181), none, some (.invokespecial 66), none, none, some (.athrow), some (.aload_n 0), some (.iconst 1), some (.putfield 111), none, none, some (.aload_n 0), some (.getfield 40), none, none, some (.iload_n 1), some (.aload_n 0), some (.getfield 26), none, none, some (.getfield 131), none, none, some (.invokevirtual 183), none, none, some (.aload_n 0), some (.getfield 47), none, none, some (.aload_n 0), some (.getfield 40), none, none, some (.iconst 0), some (.invokevirtual 186), none, none, some (.iload_n 1), some (.ireturn)]
def xc108 : List (Option Instr) := [some (.aload_n 0), some (.iload_n 1), some (.putfield 29), none, none, some (.aload_n 0), some (.iload_n 2), some (.putfield 33), none, none, some (.aload_n 0), some (.getfield 14), none, none, some (.iconst 0), some (.invokevirtual 36), none, none, some (.aload_n 0), some (.getfield 25), none, none, some (.iconst 0), some (.invokevirtual 39), none, none, some (.return_)]
def xc109 : List (Option Instr) := [some (.iconst 0), some (.istore 4), none, some (.aload_n 3), some (.arraylength), some (.iconst 1), some (.isub), some (.istore 5), none, some (.iload 5), none, some (.ifCond .lt 21), none, none, some (.bipush 10), none, some (.iload 4), none, some (.imul), some (.aload_n 3), some (.iload 5), none, some (.iaload), some (.iadd), some (.istore 4), none, some (.iinc 5 (-1)), none, none, some (.goto (-20)), none, none, some (.aload_n 0), some (.iload_n 1), some (.iload_n 2), some (.iload 4), none, some (.invokevirtual 104), none, none, some (.ifCond .le 7), none, none, some (.iconst 1), some (.goto 4), none, none, some (.iconst 0), some (.ireturn)]
def xc110 : List (Option Instr) := [some (.bipush 99), none, some (.istore_n 2), some (.iconst 0), some (.istore_n 3), some (.aload_n 1), some (.astore 4), none, some (.aload 4), none, some (.arraylength), some (.istore 5), none, some (.iconst 0), some (.istore 6), none, some (.iload 6), none, some (.iload 5), none, some (.if_icmp .ge 28), none, none, some (.aload 4), none, some (.iload 6), none, some (.iaload), some (.istore 7), none, some (.iload_n 2), some (.aload_n 0), some (.iload 7), none, some (.iconst 0), some (.invokevirtual 73), none, none, some (.invokestatic 106), none, none, some (.istore_n 2), some (.iinc 6 1), none, none, some (.goto (-29)), none, none, some (.aload_n 1), some (.astore 4), none, some (.aload 4), none, some (.arraylength), some (.istore 5), none, some (.iconst 0), some (.istore 6), none, some (.iload 6), none, some (.iload 5), none, some (.if_icmp .ge 38), none, none, some (.aload 4), none, some (.iload 6), none, some (.iaload), some (.istore 7), none, some (.iload_n 3), some (.aload_n 0), some (.iload 7), none, some (.iconst 0), some (.invokevirtual 73), none, none, some (.iload_n 2), some (.if_icmp .ne 10), none, none, some (.iconst 1), some (.iload 7), none, some (.ishl), some (.goto 4), none, none, some (.iconst 0), some (.iadd), some (.istore_n 3), some (.iinc 6 1), none, none, some (.goto (-39)), none, none, some (.iload_n 3), some (.ireturn)]
def xc111_0 : List (Option Instr) := [some (.iconst 0), some (.istore_n 1), some (.iload_n 1), some (.iconst 2), some (.if_icmp .ge 713), none, none, some (.new 9), none, none, some (.dup), some (.aload_n 0), some (.bipush 31), none, some (.iload_n 1), some (.imul), some (.bipush 7), none, some (.iadd), some (.invokespecial 11), none, none, some (.astore_n 2), some (.new 9), none, none, some (.dup), some (.aload_n 0), some (.bipush 31), none, some (.iload_n 1), some (.imul), some (.bipush 7), none, some (.iadd), some (.invokespecial 11), none, none, some (.astore_n 3), some (.aload_n 2), some (.getfield 14), none, none, some (.astore 4), none, some (.aload_n 2), some (.invokestatic 18), none, none, some (.ifCond .eq 10), none, none, some (.aload_n 3), some (.invokestatic 18), none, none, some (.ifCond .ne 5), none, none, some (.iconst 0), some (.ireturn), some (.aload_n 2), some (.getfield 24), none, none, some (.arraylength), some (.istore 5), none, some (.iconst 0), some (.istore 6), none, some (.iload 6), none, some (.bipush 10), none, some (.if_icmp .ge 41), none, none, some (.aload_n 2), some (.aload_n 2), some (.aload_n 2), some (.bipush 7), none, some (.invokevirtual 28), none, none, some (.invokevirtual 32), none, none, some (.aload_n 2), some (.aload_n 2), some (.getfield 35), none, none, some (.invokevirtual 28), none, none, some (.aload_n 2), some (.iconst 4), some (.invokevirtual 28)]
def xc111_1 : List (Option Instr) := [none, none, some (.invokevirtual 39), none, none, some (.ifCond .ne 5), none, none, some (.iconst 0), some (.ireturn), some (.iinc 6 1), none, none, some (.goto (-42)), none, none, some (.bipush 6), none, some (.istore 6), none, some (.iload 6), none, some (.ifCond .lt 67), none, none, some (.iconst 0), some (.istore 7), none, some (.iload 7), none, some (.aload_n 2), some (.getfield 35), none, none, some (.if_icmp .ge 49), none, none, some (.aload_n 2), some (.getfield 43), none, none, some (.iload 6), none, some (.aaload), some (.iload 7), none, some (.aaload), some (.arraylength), some (.ifCond .le 29), none, none, some (.aload_n 3), some (.getfield 14), none, none, some (.iload 6), none, some (.iload 7), none, some (.aload_n 2), some (.getfield 43), none, none, some (.iload 6), none, some (.aaload), some (.iload 7), none, some (.aaload), some (.invokestatic 47), none, none, some (.ifCond .ne 5), none, none, some (.iconst 0), some (.ireturn), some (.iinc 7 1), none, none, some (.goto (-52)), none, none, some (.iinc 6 (-1)), none, none, some (.goto (-66)), none, none, some (.aload 4), none, some (.invokevirtual 51), none, none, some (.lstore 6), none, some (.aload_n 3), some (.getfield 14), none, none]
def xc111_2 : List (Option Instr) := [some (.invokevirtual 51), none, none, some (.lload 6), none, some (.lcmp), some (.ifCond .eq 5), none, none, some (.iconst 0), some (.ireturn), some (.iconst 0), some (.istore 8), none, some (.iload 8), none, some (.iconst 4), some (.if_icmp .ge 468), none, none, some (.aload_n 2), some (.aload_n 2), some (.bipush 7), none, some (.invokevirtual 28), none, none, some (.invokevirtual 32), none, none, some (.istore 9), none, some (.aload_n 2), some (.aload_n 2), some (.getfield 35), none, none, some (.invokevirtual 28), none, none, some (.istore 10), none, some (.aload_n 2), some (.iload 5), none, some (.invokevirtual 28), none, none, some (.istore 11), none, some (.aload_n 2), some (.iload 5), none, some (.invokevirtual 28), none, none, some (.istore 12), none, some (.aload_n 2), some (.iload 5), none, some (.invokevirtual 28), none, none, some (.istore 13), none, some (.aload 4), none, some (.iconst 1), some (.iload 9), none, some (.ishl), some (.iload 11), none, some (.invokevirtual 57), none, none, some (.istore 14), none, some (.aload 4), none, some (.invokevirtual 61), none, none, some (.istore 15), none, some (.aload_n 2), some (.getfield 43), none, none, some (.iload 9), none, some (.aaload), some (.iload 10), none, some (.aaload), some (.arraylength), some (.ifCond .le 230), none, none]
def xc111_3 : List (Option Instr) := [some (.aload 4), none, some (.iload 9), none, some (.iload 10), none, some (.iload 12), none, some (.iload 13), none, some (.iload 11), none, some (.invokevirtual 65), none, none, some (.istore 16), none, some (.aload 4), none, some (.iload 9), none, some (.iload 10), none, some (.iload 11), none, some (.invokevirtual 69), none, none, some (.istore 17), none, some (.aload 4), none, some (.iload 11), none, some (.iconst 0), some (.invokevirtual 73), none, none, some (.istore 18), none, some (.iload 17), none, some (.ifCond .lt 55), none, none, some (.aload 4), none, some (.iload 9), none, some (.iload 10), none, some (.iload 17), none, some (.bipush 10), none, some (.idiv), some (.iload 17), none, some (.bipush 10), none, some (.irem), some (.iload 11), none, some (.invokevirtual 65), none, none, some (.iload 18), none, some (.if_icmp .ge 41), none, none, some (.aload 4), none, some (.iload 9), none, some (.iload 10), none, some (.iload 17), none, some (.bipush 10), none, some (.idiv), some (.iload 17), none, some (.bipush 10), none, some (.irem), some (.iload 11), none, some (.invokevirtual 65), none, none, some (.iload 16), none, some (.if_icmp .gt 15), none, none, some (.iload 17), none, some (.ifCond .ge 12)]
def xc111_4 : List (Option Instr) := [none, none, some (.iload 16), none, some (.iload 18), none, some (.if_icmp .ge 5), none, none, some (.iconst 0), some (.ireturn), some (.iload 5), none, some (.newarray .int), none, some (.astore 19), none, some (.aload_n 2), some (.getfield 43), none, none, some (.iload 9), none, some (.aaload), some (.iload 10), none, some (.aaload), some (.iconst 0), some (.aload 19), none, some (.iconst 0), some (.iload 5), none, some (.invokestatic 76), none, none, some (.aload 19), none, some (.iload 12), none, some (.aload_n 2), some (.getfield 43), none, none, some (.iload 9), none, some (.aaload), some (.iload 10), none, some (.aaload), some (.iload 13), none, some (.iaload), some (.iastore), some (.aload 19), none, some (.iload 13), none, some (.aload_n 2), some (.getfield 43), none, none, some (.iload 9), none, some (.aaload), some (.iload 10), none, some (.aaload), some (.iload 12), none, some (.iaload), some (.iastore), some (.aload_n 3), some (.getfield 14), none, none, some (.iload 9), none, some (.iload 10), none, some (.aload 19), none, some (.invokestatic 47), none, none, some (.pop), some (.aload_n 3), some (.getfield 14), none, none, some (.iload 11), none, some (.iconst 0), some (.invokevirtual 73), none, none, some (.iload 16), none, some (.if_icmp .ne 27), none]
def xc111_5 : List (Option Instr) := [none, some (.aload_n 3), some (.getfield 14), none, none, some (.iload 9), none, some (.iload 10), none, some (.aload_n 2), some (.getfield 43), none, none, some (.iload 9), none, some (.aaload), some (.iload 10), none, some (.aaload), some (.invokestatic 47), none, none, some (.ifCond .ne 5), none, none, some (.iconst 0), some (.ireturn), some (.aload 4), none, some (.aload_n 2), some (.getfield 24), none, none, some (.invokestatic 82), none, none, some (.istore 16), none, some (.iconst 0), some (.istore 17), none, some (.iload 17), none, some (.aload_n 2), some (.getfield 35), none, none, some (.if_icmp .ge 35), none, none, some (.aload_n 2), some (.getfield 43), none, none, some (.iload 9), none, some (.aaload), some (.iload 17), none, some (.aaload), some (.arraylength), some (.ifCond .le 15), none, none, some (.aload_n 3), some (.getfield 14), none, none, some (.iload 9), none, some (.iload 17), none, some (.invokevirtual 86), none, none, some (.pop), some (.iinc 17 1), none, none, some (.goto (-38)), none, none, some (.aload_n 3), some (.getfield 14), none, none, some (.iload 11), none, some (.iconst 0), some (.invokevirtual 73), none, none, some (.iload 14), none, some (.if_icmp .ne 25), none, none, some (.iload 15), none, some (.iconst 1)]
def xc111_6 : List (Option Instr) := [some (.if_icmp .eq 21), none, none, some (.aload_n 3), some (.getfield 14), none, none, some (.aload_n 2), some (.getfield 24), none, none, some (.invokestatic 82), none, none, some (.iload 16), none, some (.if_icmp .eq 5), none, none, some (.iconst 0), some (.ireturn), some (.iconst 0), some (.istore 17), none, some (.iload 17), none, some (.aload_n 2), some (.getfield 35), none, none, some (.if_icmp .ge 49), none, none, some (.aload_n 2), some (.getfield 43), none, none, some (.iload 9), none, some (.aaload), some (.iload 17), none, some (.aaload), some (.arraylength), some (.ifCond .le 29), none, none, some (.aload_n 3), some (.getfield 14), none, none, some (.iload 9), none, some (.iload 17), none, some (.aload_n 2), some (.getfield 43), none, none, some (.iload 9), none, some (.aaload), some (.iload 17), none, some (.aaload), some (.invokestatic 47), none, none, some (.ifCond .ne 5), none, none, some (.iconst 0), some (.ireturn), some (.iinc 17 1), none, none, some (.goto (-52)), none, none, some (.iinc 8 1), none, none, some (.goto (-468)), none, none, some (.aload 4), none, some (.invokevirtual 51), none, none, some (.lload 6), none, some (.lcmp), some (.ifCond .ne 16), none, none, some (.aload_n 3), some (.getfield 14), none, none]
def xc111_7 : List (Option Instr) := [some (.invokevirtual 51), none, none, some (.lload 6), none, some (.lcmp), some (.ifCond .eq 5), none, none, some (.iconst 0), some (.ireturn), some (.iinc 1 1), none, none, some (.goto (-712)), none, none, some (.iconst 1), some (.ireturn)]
def xc111 : List (Option Instr) := xc111_0 ++ (xc111_1 ++ (xc111_2 ++ (xc111_3 ++ (xc111_4 ++ (xc111_5 ++ (xc111_6 ++ (xc111_7)))))))
def xmc : Nat → List (Option Instr)
  | 0 => xc0
  | 1 => xc1
  | 2 => xc2
  | 3 => xc3
  | 4 => xc4
  | 5 => xc5
  | 6 => xc6
  | 7 => xc7
  | 8 => xc8
  | 9 => xc9
  | 10 => xc10
  | 11 => xc11
  | 12 => xc12
  | 13 => xc13
  | 14 => xc14
  | 15 => xc15
  | 16 => xc16
  | 17 => xc17
  | 18 => xc18
  | 19 => xc19
  | 20 => xc20
  | 21 => xc21
  | 22 => xc22
  | 23 => xc23
  | 24 => xc24
  | 25 => xc25
  | 26 => xc26
  | 27 => xc27
  | 28 => xc28
  | 29 => xc29
  | 30 => xc30
  | 31 => xc31
  | 32 => xc32
  | 33 => xc33
  | 34 => xc34
  | 35 => xc35
  | 36 => xc36
  | 37 => xc37
  | 38 => xc38
  | 39 => xc39
  | 40 => xc40
  | 41 => xc41
  | 42 => xc42
  | 43 => xc43
  | 44 => xc44
  | 45 => xc45
  | 46 => xc46
  | 47 => xc47
  | 48 => xc48
  | 49 => xc49
  | 50 => xc50
  | 51 => xc51
  | 52 => xc52
  | 53 => xc53
  | 54 => xc54
  | 55 => xc55
  | 56 => xc56
  | 57 => xc57
  | 58 => xc58
  | 59 => xc59
  | 60 => xc60
  | 61 => xc61
  | 62 => xc62
  | 63 => xc63
  | 64 => xc64
  | 65 => xc65
  | 66 => xc66
  | 67 => xc67
  | 68 => xc68
  | 69 => xc69
  | 70 => xc70
  | 71 => xc71
  | 72 => xc72
  | 73 => xc73
  | 74 => xc74
  | 75 => xc75
  | 76 => xc76
  | 77 => xc77
  | 78 => xc78
  | 79 => xc79
  | 80 => xc80
  | 81 => xc81
  | 82 => xc82
  | 83 => xc83
  | 84 => xc84
  | 85 => xc85
  | 86 => xc86
  | 87 => xc87
  | 88 => xc88
  | 89 => xc89
  | 90 => xc90
  | 91 => xc91
  | 92 => xc92
  | 93 => xc93
  | 94 => xc94
  | 95 => xc95
  | 96 => xc96
  | 97 => xc97
  | 98 => xc98
  | 99 => xc99
  | 100 => xc100
  | 101 => xc101
  | 102 => xc102
  | 103 => xc103
  | 104 => xc104
  | 105 => xc105
  | 106 => xc106
  | 107 => xc107
  | 108 => xc108
  | 109 => xc109
  | 110 => xc110
  | 111 => xc111
  | _ => []
def xfldT : Nat → List (Nat × Nat × Nat × Nat × Nat)
  | 0 => [(35, 0, 0, 0, 477), (14, 0, 1, 0, 479), (20, 0, 2, 0, 481), (28, 0, 3, 0, 483), (32, 0, 4, 0, 485)]
  | 1 => [(20, 1, 0, 0, 526), (24, 1, 1, 0, 528), (28, 1, 2, 0, 530), (31, 1, 3, 0, 532), (34, 1, 4, 0, 534), (37, 1, 5, 0, 536), (14, 1, 6, 0, 538)]
  | 2 => [(9, 2, 0, 0, 470), (15, 2, 1, 0, 471)]
  | 3 => [(23, 3, 0, 0, 505), (14, 3, 1, 0, 507), (20, 3, 2, 0, 509)]
  | 4 => [(14, 4, 4, 0, 568), (25, 4, 5, 0, 569), (29, 4, 6, 0, 571)]
  | 5 => [(7, 5, 0, 0, 459)]
  | 6 => [(54, 7, 0, 0, 598), (61, 7, 1, 0, 601), (60, 6, 0, 0, 640), (64, 6, 1, 0, 641), (14, 6, 2, 0, 642), (20, 6, 3, 0, 644), (28, 6, 4, 0, 646), (32, 6, 5, 0, 648), (35, 6, 6, 0, 650), (41, 6, 7, 0, 652), (45, 6, 8, 0, 653), (48, 6, 9, 0, 654), (51, 6, 10, 0, 655)]
  | 7 => [(29, 7, 0, 0, 597), (33, 7, 1, 0, 600), (14, 7, 2, 0, 602), (25, 7, 3, 0, 603)]
  | 8 => [(23, 8, 0, 0, 630), (14, 8, 1, 0, 631), (20, 8, 2, 0, 632)]
  | 9 => [(58, 0, 0, 0, 478), (249, 0, 1, 0, 480), (258, 0, 2, 0, 482), (275, 0, 3, 0, 484), (73, 3, 0, 0, 506), (282, 3, 1, 0, 508), (283, 3, 2, 0, 510), (74, 1, 0, 0, 527), (233, 1, 1, 0, 529), (117, 1, 2, 0, 531), (140, 1, 3, 0, 533), (131, 1, 4, 0, 535), (122, 1, 5, 0, 537), (264, 1, 6, 0, 539), (114, 4, 0, 0, 566), (128, 4, 2, 0, 567), (270, 4, 5, 0, 570), (291, 7, 0, 0, 599), (300, 6, 2, 0, 643), (303, 6, 3, 0, 645), (314, 6, 4, 0, 647), (308, 6, 5, 0, 649), (311, 6, 6, 0, 651), (10, 9, 0, 0, 679), (19, 9, 1, 0, 680), (26, 9, 2, 0, 681), (33, 9, 3, 0, 682), (40, 9, 4, 0, 683), (47, 9, 5, 0, 684), (51, 9, 6, 0, 685), (111, 9, 7, 0, 686), (243, 9, 8, 0, 687)]
  | 10 => [(10, 10, 0, 0, 718), (60, 10, 1, 0, 720), (63, 10, 2, 0, 721), (16, 10, 3, 0, 722), (20, 10, 4, 0, 724), (23, 10, 5, 0, 725), (26, 10, 6, 0, 726), (31, 10, 7, 0, 727), (35, 10, 8, 0, 728), (124, 10, 9, 0, 729), (166, 10, 10, 0, 730), (112, 10, 12, 0, 731), (109, 10, 13, 0, 732), (121, 10, 14, 0, 733), (115, 10, 15, 0, 735), (128, 10, 16, 0, 736), (131, 10, 19, 0, 737), (38, 10, 20, 0, 738), (41, 10, 21, 0, 739), (44, 10, 22, 0, 740), (47, 10, 23, 0, 741), (52, 10, 24, 0, 743), (57, 10, 25, 0, 745)]
  | 11 => [(14, 10, 0, 0, 719), (93, 10, 3, 0, 723), (35, 10, 15, 0, 734), (24, 10, 23, 0, 742), (43, 10, 24, 0, 744)]
  | _ => []
def xnewT : Nat → List (Nat × Nat × Nat × Nat × Nat)
  | 0 => [(9, 5, 453, 454, 24), (23, 2, 464, 465, 25)]
  | 1 => [(9, 5, 524, 454, 24)]
  | 3 => [(9, 5, 503, 454, 24)]
  | 4 => [(9, 2, 561, 465, 25), (20, 5, 563, 454, 24)]
  | 6 => [(9, 2, 618, 465, 25), (23, 5, 620, 454, 24), (38, 8, 622, 623, 31)]
  | 7 => [(9, 2, 593, 465, 25), (20, 5, 595, 454, 24)]
  | 8 => [(9, 2, 628, 465, 25)]
  | 9 => [(147, 11, 62, 63, 40), (90, 12, 296, 297, 36), (7, 0, 447, 448, 23), (16, 3, 497, 498, 26), (23, 1, 518, 519, 27), (30, 4, 555, 556, 28), (37, 7, 587, 588, 29), (44, 6, 613, 166, 30), (62, 13, 864, 865, 37)]
  | 10 => [(7, 9, 442, 48, 22)]
  | 11 => [(9, 10, 436, 437, 21)]
  | _ => []
def xcalT : Nat → List (Nat × Nat × Nat × Nat × Nat × Nat × Nat)
  | 0 => [(50, 1, 4, 384, 59, 60, 25), (3, 6, 0, 452, 88, 89, 0), (11, 0, 70, 455, 456, 24, 0), (25, 0, 71, 466, 467, 25, 0), (39, 1, 24, 884, 214, 215, 24), (42, 3, 12, 921, 161, 22, 0), (46, 1, 21, 922, 200, 201, 24)]
  | 1 => [(55, 2, 34, 294, 258, 38, 0), (47, 3, 12, 332, 161, 22, 0), (61, 1, 41, 333, 291, 292, 27), (3, 6, 0, 523, 88, 89, 0), (11, 0, 70, 525, 456, 24, 0), (40, 1, 11, 935, 157, 158, 24)]
  | 2 => [(3, 6, 0, 469, 88, 89, 0)]
  | 3 => [(3, 6, 0, 502, 88, 89, 0), (11, 0, 70, 504, 456, 24, 0), (27, 1, 24, 898, 214, 215, 24), (31, 1, 21, 927, 200, 201, 24), (35, 3, 12, 928, 161, 22, 0), (39, 2, 34, 929, 258, 38, 0)]
  | 4 => [(87, 1, 58, 389, 390, 391, 28), (85, 1, 4, 393, 59, 60, 25), (53, 2, 34, 394, 258, 38, 0), (3, 6, 0, 560, 88, 89, 0), (11, 0, 71, 562, 467, 25, 0), (22, 0, 70, 564, 456, 24, 0), (32, 1, 11, 565, 157, 158, 24)]
  | 5 => [(1, 6, 0, 458, 88, 89, 0)]
  | 6 => [(65, 1, 9, 148, 149, 150, 31), (68, 1, 11, 156, 157, 158, 24), (71, 3, 12, 160, 161, 22, 0), (75, 1, 13, 163, 165, 2, 30), (113, 1, 2, 168, 51, 52, 29), (116, 1, 14, 169, 170, 171, 24), (88, 2, 15, 173, 174, 30, 0), (104, 1, 3, 176, 55, 56, 29), (119, 1, 16, 177, 178, 179, 31), (79, 1, 18, 185, 187, 3, 30), (122, 1, 19, 189, 190, 191, 31), (125, 1, 20, 195, 196, 197, 29), (128, 1, 22, 204, 206, 4, 30), (95, 1, 21, 208, 200, 201, 24), (92, 1, 23, 209, 210, 211, 31), (132, 1, 24, 213, 214, 215, 24), (135, 1, 25, 217, 219, 5, 30), (147, 1, 26, 221, 222, 223, 31), (138, 3, 27, 225, 226, 22, 0), (141, 1, 7, 228, 141, 142, 25), (144, 1, 28, 229, 231, 6, 30), (150, 1, 29, 233, 234, 235, 31), (153, 7, 0, 237, 238, 39, 239), (82, 1, 30, 240, 242, 7, 30), (108, 1, 4, 244, 59, 60, 25), (85, 1, 31, 245, 247, 8, 30), (156, 1, 32, 249, 251, 9, 30), (173, 1, 33, 253, 255, 10, 30), (159, 2, 34, 257, 258, 38, 0), (164, 1, 35, 263, 265, 11, 30), (167, 1, 36, 267, 269, 12, 30), (170, 1, 37, 271, 273, 13, 30), (99, 8, 0, 347, 348, 39, 349), (3, 6, 0, 617, 88, 89, 0), (11, 0, 71, 619, 467, 25, 0), (25, 0, 70, 621, 456, 24, 0), (40, 0, 77, 624, 625, 31, 0)]
  | 7 => [(51, 1, 3, 54, 55, 56, 29), (55, 1, 4, 58, 59, 60, 25), (48, 1, 6, 136, 137, 138, 29), (44, 1, 7, 140, 141, 142, 25), (59, 1, 21, 199, 200, 201, 24), (40, 3, 12, 203, 161, 22, 0), (64, 1, 2, 279, 51, 52, 29), (67, 1, 38, 365, 276, 277, 29), (3, 6, 0, 592, 88, 89, 0), (11, 0, 71, 594, 467, 25, 0), (22, 0, 70, 596, 456, 24, 0), (36, 1, 10, 952, 153, 154, 25), (39, 1, 11, 953, 157, 158, 24)]
  | 8 => [(27, 1, 10, 152, 153, 154, 25), (31, 1, 17, 181, 182, 183, 25), (35, 1, 4, 193, 59, 60, 25), (39, 1, 7, 194, 141, 142, 25), (3, 6, 0, 627, 88, 89, 0), (11, 0, 71, 629, 467, 25, 0)]
  | 9 => [(206, 1, 1, 45, 47, 0, 22), (380, 1, 2, 50, 51, 52, 29), (209, 1, 5, 132, 133, 134, 29), (186, 1, 8, 144, 145, 146, 30), (203, 1, 38, 275, 276, 277, 29), (212, 1, 40, 284, 286, 14, 22), (143, 2, 12, 288, 161, 22, 0), (215, 1, 41, 290, 291, 292, 27), (253, 1, 21, 295, 200, 201, 24), (325, 1, 43, 316, 318, 15, 22), (385, 1, 44, 320, 321, 322, 29), (329, 1, 46, 328, 329, 330, 27), (334, 1, 49, 343, 344, 345, 30), (85, 2, 34, 350, 258, 38, 0), (341, 1, 51, 357, 358, 359, 22), (319, 1, 52, 361, 362, 363, 29), (344, 1, 53, 367, 369, 16, 22), (354, 1, 54, 371, 372, 373, 22), (246, 1, 55, 375, 377, 17, 22), (261, 1, 56, 380, 381, 382, 23), (267, 1, 57, 385, 386, 387, 28), (357, 1, 59, 396, 397, 398, 22), (278, 1, 4, 400, 59, 60, 25), (360, 1, 60, 401, 403, 18, 22), (363, 1, 39, 405, 281, 282, 22), (366, 1, 61, 406, 407, 408, 22), (192, 1, 62, 410, 412, 19, 22), (369, 1, 63, 416, 417, 418, 22), (296, 1, 64, 421, 422, 423, 30), (348, 1, 65, 425, 426, 427, 22), (286, 1, 66, 430, 431, 432, 29), (351, 1, 48, 435, 340, 341, 22), (1, 6, 0, 446, 88, 89, 0), (9, 4, 69, 449, 450, 23, 0), (18, 4, 72, 499, 500, 26, 0), (25, 4, 73, 520, 521, 27, 0), (32, 0, 74, 557, 558, 28, 0), (39, 4, 75, 589, 590, 29, 0), (46, 4, 76, 614, 615, 30, 0), (195, 1, 86, 829, 830, 831, 29), (200, 1, 6, 834, 137, 138, 29), (54, 2, 93, 860, 861, 22, 0), (69, 1, 94, 880, 881, 882, 23), (80, 1, 97, 894, 895, 896, 26), (81, 1, 101, 911, 912, 913, 23), (97, 1, 102, 917, 918, 919, 23), (100, 1, 103, 923, 924, 925, 26), (105, 1, 104, 931, 932, 933, 27), (183, 1, 108, 948, 949, 950, 29)]
  | 10 => [(1, 6, 0, 441, 88, 89, 0), (9, 0, 68, 443, 444, 22, 0), (67, 1, 78, 714, 715, 716, 21), (70, 3, 80, 804, 805, 20, 0), (76, 3, 81, 808, 809, 20, 0), (105, 2, 83, 816, 817, 21, 0), (97, 1, 79, 823, 801, 802, 21), (172, 1, 85, 824, 825, 826, 22), (175, 1, 87, 835, 836, 837, 21), (100, 1, 90, 846, 847, 848, 21), (86, 2, 91, 850, 851, 21, 0), (80, 10, 0, 853, 855, 854, 32), (90, 1, 92, 856, 857, 858, 22), (103, 1, 95, 885, 886, 887, 21), (94, 1, 96, 889, 890, 891, 22), (118, 1, 99, 903, 904, 905, 21), (134, 1, 100, 907, 908, 909, 22), (137, 2, 105, 936, 937, 21, 0), (169, 1, 107, 943, 944, 945, 22)]
  | 11 => [(86, 1, 0, 41, 42, 43, 22), (73, 1, 39, 280, 281, 282, 22), (65, 1, 42, 312, 313, 314, 22), (69, 1, 45, 324, 325, 326, 22), (57, 1, 47, 334, 335, 336, 22), (61, 1, 48, 339, 340, 341, 22), (51, 1, 50, 351, 352, 353, 22), (11, 0, 67, 438, 439, 21, 0), (28, 1, 79, 800, 801, 802, 21), (32, 1, 82, 812, 813, 814, 21), (39, 1, 84, 819, 820, 821, 21), (18, 2, 88, 839, 840, 20, 0), (89, 1, 89, 842, 843, 844, 21), (96, 1, 98, 899, 900, 901, 21), (100, 1, 106, 939, 940, 941, 21), (47, 2, 109, 954, 955, 20, 0), (104, 1, 85, 957, 825, 826, 22), (82, 2, 110, 958, 959, 20, 0), (106, 8, 0, 961, 348, 39, 349), (76, 10, 0, 962, 855, 854, 32)]
  | 12 => [(1, 6, 0, 87, 88, 89, 0)]
  | _ => []
def xconT : Nat → List (Nat × Int32 × Nat)
  | 11 => [(8, (790386105 : Int32), 807), (7, (2147483647 : Int32), 811)]
  | 18 => [(265, (1431655765 : Int32), 260), (266, (858993459 : Int32), 261), (267, (252645135 : Int32), 262)]
  | _ => []
def xcolT : Nat → List (Nat × Int64 × Nat)
  | 9 => [(337, (9107 : Int64), 355), (339, (31 : Int64), 356)]
  | _ => []
def xhost : Nat → String
  | 0 => "SkateSheet"
  | 1 => "SkateSheet"
  | 3 => "SkateSheet"
  | 6 => "SkateSheet"
  | 7 => "SkateSheet"
  | 9 => "SkateSheet"
  | 10 => "SkateSheetLaw"
  | _ => ""
def xNM : Nat := 112
def xNO : Nat := 21
def xNX : Nat := 11
def xlaw : Nat := 111
def xlayT : List (Nat × Nat × Nat) := [(0, 0, 486), (0, 1, 488), (0, 2, 490), (0, 3, 492), (0, 4, 494), (1, 0, 540), (1, 1, 542), (1, 2, 544), (1, 3, 546), (1, 4, 548), (1, 5, 550), (1, 6, 552), (2, 0, 472), (2, 1, 474), (3, 0, 511), (3, 1, 513), (3, 2, 515), (4, 0, 572), (4, 1, 574), (4, 2, 576), (4, 3, 578), (4, 4, 580), (4, 5, 582), (4, 6, 584), (5, 0, 460), (6, 0, 656), (6, 1, 658), (6, 2, 660), (6, 3, 662), (6, 4, 664), (6, 5, 666), (6, 6, 668), (6, 7, 670), (6, 8, 672), (6, 9, 674), (6, 10, 676), (7, 0, 604), (7, 1, 606), (7, 2, 608), (7, 3, 610), (8, 0, 633), (8, 1, 635), (8, 2, 637), (9, 0, 688), (9, 1, 690), (9, 2, 692), (9, 3, 694), (9, 4, 696), (9, 5, 698), (9, 6, 700), (9, 7, 702), (9, 8, 704), (10, 0, 746), (10, 1, 748), (10, 2, 750), (10, 3, 752), (10, 4, 754), (10, 5, 756), (10, 6, 758), (10, 7, 760), (10, 8, 762), (10, 9, 764), (10, 10, 766), (10, 11, 768), (10, 12, 770), (10, 13, 772), (10, 14, 774), (10, 15, 776), (10, 16, 778), (10, 17, 780), (10, 18, 782), (10, 19, 784), (10, 20, 786), (10, 21, 788), (10, 22, 790), (10, 23, 792), (10, 24, 794), (10, 25, 796)]
def xcodT : List (Nat × Nat) := [(0, 44), (1, 49), (2, 53), (3, 57), (4, 61), (5, 135), (6, 139), (7, 143), (8, 147), (9, 151), (10, 155), (11, 159), (12, 162), (13, 167), (14, 172), (15, 175), (16, 180), (17, 184), (18, 188), (19, 192), (20, 198), (21, 202), (22, 207), (23, 212), (24, 216), (25, 220), (26, 224), (27, 227), (28, 232), (29, 236), (30, 243), (31, 248), (32, 252), (33, 256), (34, 259), (35, 266), (36, 270), (37, 274), (38, 278), (39, 283), (40, 287), (41, 293), (42, 315), (43, 319), (44, 323), (45, 327), (46, 331), (47, 337), (48, 342), (49, 346), (50, 354), (51, 360), (52, 364), (53, 370), (54, 374), (55, 378), (56, 383), (57, 388), (58, 392), (59, 399), (60, 404), (61, 409), (62, 413), (63, 419), (64, 424), (65, 428), (66, 433), (67, 440), (68, 445), (69, 451), (70, 457), (71, 468), (72, 501), (73, 522), (74, 559), (75, 591), (76, 616), (77, 626), (78, 717), (79, 803), (80, 806), (81, 810), (82, 815), (83, 818), (84, 822), (85, 827), (86, 832), (87, 838), (88, 841), (89, 845), (90, 849), (91, 852), (92, 859), (93, 862), (94, 883), (95, 888), (96, 892), (97, 897), (98, 902), (99, 906), (100, 910), (101, 914), (102, 920), (103, 926), (104, 934), (105, 938), (106, 942), (107, 946), (108, 951), (109, 956), (110, 960)]
def xinsT : List (Nat × Nat × Nat) := [(0, 5, 448), (1, 7, 519), (2, 2, 465), (3, 3, 498), (4, 7, 556), (5, 1, 454), (6, 11, 166), (7, 4, 588), (8, 3, 623), (9, 9, 48), (10, 26, 437), (11, 6, 63), (12, 6, 297), (13, 6, 865)]
def xmf : Nat → Nat
  | 0 => 7
  | 1 => 6
  | 2 => 2
  | 3 => 1
  | 4 => 0
  | 5 => 2
  | 6 => 1
  | 7 => 0
  | 8 => 4
  | 9 => 1
  | 10 => 0
  | 11 => 0
  | 12 => 0
  | 13 => 3
  | 14 => 0
  | 15 => 0
  | 16 => 1
  | 17 => 0
  | 18 => 3
  | 19 => 1
  | 20 => 1
  | 21 => 0
  | 22 => 2
  | 23 => 1
  | 24 => 0
  | 25 => 2
  | 26 => 1
  | 27 => 0
  | 28 => 2
  | 29 => 1
  | 30 => 1
  | 31 => 3
  | 32 => 2
  | 33 => 1
  | 34 => 0
  | 35 => 2
  | 36 => 2
  | 37 => 1
  | 38 => 3
  | 39 => 7
  | 40 => 6
  | 41 => 1
  | 42 => 7
  | 43 => 5
  | 44 => 2
  | 45 => 7
  | 46 => 2
  | 47 => 7
  | 48 => 5
  | 49 => 1
  | 50 => 10
  | 51 => 6
  | 52 => 4
  | 53 => 9
  | 54 => 7
  | 55 => 6
  | 56 => 1
  | 57 => 2
  | 58 => 1
  | 59 => 7
  | 60 => 8
  | 61 => 7
  | 62 => 6
  | 63 => 7
  | 64 => 2
  | 65 => 6
  | 66 => 3
  | 67 => 5
  | 68 => 4
  | 69 => 2
  | 70 => 1
  | 71 => 1
  | 72 => 2
  | 73 => 2
  | 74 => 2
  | 75 => 2
  | 76 => 3
  | 77 => 2
  | 78 => 0
  | 79 => 1
  | 80 => 0
  | 81 => 0
  | 82 => 1
  | 83 => 0
  | 84 => 8
  | 85 => 7
  | 86 => 1
  | 87 => 0
  | 88 => 10
  | 89 => 9
  | 90 => 8
  | 91 => 1
  | 92 => 7
  | 93 => 6
  | 94 => 1
  | 95 => 8
  | 96 => 7
  | 97 => 1
  | 98 => 7
  | 99 => 2
  | 100 => 6
  | 101 => 0
  | 102 => 1
  | 103 => 1
  | 104 => 1
  | 105 => 0
  | 106 => 7
  | 107 => 6
  | 108 => 1
  | 109 => 8
  | 110 => 8
  | 111 => 11
  | _ => 0
def xmlo : Nat → Nat
  | 0 => 123
  | 1 => 100
  | 2 => 46
  | 3 => 23
  | 4 => 0
  | 5 => 49
  | 6 => 24
  | 7 => 0
  | 8 => 100
  | 9 => 22
  | 10 => 0
  | 11 => 0
  | 12 => 0
  | 13 => 68
  | 14 => 0
  | 15 => 0
  | 16 => 24
  | 17 => 0
  | 18 => 73
  | 19 => 24
  | 20 => 21
  | 21 => 0
  | 22 => 45
  | 23 => 23
  | 24 => 0
  | 25 => 48
  | 26 => 23
  | 27 => 0
  | 28 => 45
  | 29 => 23
  | 30 => 23
  | 31 => 73
  | 32 => 46
  | 33 => 21
  | 34 => 0
  | 35 => 46
  | 36 => 46
  | 37 => 22
  | 38 => 68
  | 39 => 121
  | 40 => 100
  | 41 => 20
  | 42 => 147
  | 43 => 123
  | 44 => 46
  | 45 => 147
  | 46 => 41
  | 47 => 123
  | 48 => 123
  | 49 => 30
  | 50 => 197
  | 51 => 113
  | 52 => 91
  | 53 => 171
  | 54 => 121
  | 55 => 100
  | 56 => 23
  | 57 => 47
  | 58 => 23
  | 59 => 121
  | 60 => 145
  | 61 => 121
  | 62 => 100
  | 63 => 121
  | 64 => 45
  | 65 => 100
  | 66 => 68
  | 67 => 114
  | 68 => 94
  | 69 => 53
  | 70 => 30
  | 71 => 30
  | 72 => 51
  | 73 => 51
  | 74 => 53
  | 75 => 53
  | 76 => 74
  | 77 => 53
  | 78 => 0
  | 79 => 21
  | 80 => 0
  | 81 => 0
  | 82 => 21
  | 83 => 0
  | 84 => 146
  | 85 => 123
  | 86 => 21
  | 87 => 0
  | 88 => 184
  | 89 => 162
  | 90 => 141
  | 91 => 30
  | 92 => 120
  | 93 => 100
  | 94 => 22
  | 95 => 141
  | 96 => 120
  | 97 => 22
  | 98 => 123
  | 99 => 52
  | 100 => 100
  | 101 => 0
  | 102 => 21
  | 103 => 21
  | 104 => 22
  | 105 => 0
  | 106 => 144
  | 107 => 123
  | 108 => 22
  | 109 => 146
  | 110 => 144
  | 111 => 221
  | _ => 0
def xcod : Nat → Bool
  | 0 => true
  | 1 => true
  | 2 => true
  | 3 => true
  | 4 => true
  | 5 => true
  | 6 => true
  | 7 => true
  | 8 => true
  | 9 => true
  | 10 => true
  | 11 => true
  | 12 => true
  | 13 => true
  | 14 => true
  | 15 => true
  | 16 => true
  | 17 => true
  | 18 => true
  | 19 => true
  | 20 => true
  | 21 => true
  | 22 => true
  | 23 => true
  | 24 => true
  | 25 => true
  | 26 => true
  | 27 => true
  | 28 => true
  | 29 => true
  | 30 => true
  | 31 => true
  | 32 => true
  | 33 => true
  | 34 => true
  | 35 => true
  | 36 => true
  | 37 => true
  | 38 => true
  | 39 => true
  | 40 => true
  | 41 => true
  | 42 => true
  | 43 => true
  | 44 => true
  | 45 => true
  | 46 => true
  | 47 => true
  | 48 => true
  | 49 => true
  | 50 => true
  | 51 => true
  | 52 => true
  | 53 => true
  | 54 => true
  | 55 => true
  | 56 => true
  | 57 => true
  | 58 => true
  | 59 => true
  | 60 => true
  | 61 => true
  | 62 => true
  | 63 => true
  | 64 => true
  | 65 => true
  | 66 => true
  | 67 => true
  | 68 => true
  | 69 => true
  | 70 => true
  | 71 => true
  | 72 => true
  | 73 => true
  | 74 => true
  | 75 => true
  | 76 => true
  | 77 => true
  | 78 => true
  | 79 => true
  | 80 => true
  | 81 => true
  | 82 => true
  | 83 => true
  | 84 => true
  | 85 => true
  | 86 => true
  | 87 => true
  | 88 => true
  | 89 => true
  | 90 => true
  | 91 => true
  | 92 => true
  | 93 => true
  | 94 => true
  | 95 => true
  | 96 => true
  | 97 => true
  | 98 => true
  | 99 => true
  | 100 => true
  | 101 => true
  | 102 => true
  | 103 => true
  | 104 => true
  | 105 => true
  | 106 => true
  | 107 => true
  | 108 => true
  | 109 => true
  | 110 => true
  | 111 => false
  | _ => false
def xcow : Nat → Bool
  | 0 => false
  | 1 => false
  | 2 => false
  | 3 => false
  | 4 => false
  | 5 => false
  | 6 => false
  | 7 => false
  | 8 => false
  | 9 => false
  | 10 => false
  | 11 => false
  | 12 => false
  | 13 => false
  | 14 => false
  | 15 => false
  | 16 => false
  | 17 => false
  | 18 => false
  | 19 => false
  | 20 => false
  | 21 => false
  | 22 => false
  | 23 => false
  | 24 => false
  | 25 => false
  | 26 => false
  | 27 => false
  | 28 => false
  | 29 => false
  | 30 => false
  | 31 => false
  | 32 => false
  | 33 => false
  | 34 => false
  | 35 => false
  | 36 => false
  | 37 => false
  | 38 => false
  | 39 => false
  | 40 => false
  | 41 => false
  | 42 => false
  | 43 => false
  | 44 => false
  | 45 => false
  | 46 => false
  | 47 => false
  | 48 => false
  | 49 => false
  | 50 => false
  | 51 => false
  | 52 => false
  | 53 => false
  | 54 => false
  | 55 => false
  | 56 => false
  | 57 => false
  | 58 => false
  | 59 => false
  | 60 => false
  | 61 => false
  | 62 => false
  | 63 => false
  | 64 => false
  | 65 => false
  | 66 => false
  | 67 => false
  | 68 => false
  | 69 => false
  | 70 => false
  | 71 => false
  | 72 => false
  | 73 => false
  | 74 => false
  | 75 => false
  | 76 => false
  | 77 => false
  | 78 => false
  | 79 => false
  | 80 => false
  | 81 => false
  | 82 => false
  | 83 => false
  | 84 => false
  | 85 => false
  | 86 => false
  | 87 => false
  | 88 => false
  | 89 => false
  | 90 => false
  | 91 => false
  | 92 => false
  | 93 => false
  | 94 => false
  | 95 => false
  | 96 => false
  | 97 => false
  | 98 => false
  | 99 => false
  | 100 => false
  | 101 => false
  | 102 => false
  | 103 => false
  | 104 => false
  | 105 => false
  | 106 => false
  | 107 => false
  | 108 => false
  | 109 => false
  | 110 => false
  | 111 => false
  | _ => false
def xmh : Nat → List (Nat × Nat × Nat × Nat)
  | 0 => []
  | 1 => []
  | 2 => []
  | 3 => []
  | 4 => []
  | 5 => []
  | 6 => []
  | 7 => []
  | 8 => []
  | 9 => []
  | 10 => []
  | 11 => []
  | 12 => []
  | 13 => []
  | 14 => []
  | 15 => []
  | 16 => []
  | 17 => []
  | 18 => []
  | 19 => []
  | 20 => []
  | 21 => []
  | 22 => []
  | 23 => []
  | 24 => []
  | 25 => []
  | 26 => []
  | 27 => []
  | 28 => []
  | 29 => []
  | 30 => []
  | 31 => []
  | 32 => []
  | 33 => []
  | 34 => []
  | 35 => []
  | 36 => []
  | 37 => []
  | 38 => []
  | 39 => []
  | 40 => []
  | 41 => []
  | 42 => []
  | 43 => []
  | 44 => []
  | 45 => []
  | 46 => []
  | 47 => []
  | 48 => []
  | 49 => []
  | 50 => []
  | 51 => []
  | 52 => []
  | 53 => []
  | 54 => []
  | 55 => []
  | 56 => []
  | 57 => []
  | 58 => []
  | 59 => []
  | 60 => []
  | 61 => []
  | 62 => []
  | 63 => []
  | 64 => []
  | 65 => []
  | 66 => []
  | 67 => []
  | 68 => []
  | 69 => []
  | 70 => []
  | 71 => []
  | 72 => []
  | 73 => []
  | 74 => []
  | 75 => []
  | 76 => []
  | 77 => []
  | 78 => []
  | 79 => []
  | 80 => []
  | 81 => []
  | 82 => []
  | 83 => []
  | 84 => []
  | 85 => []
  | 86 => []
  | 87 => []
  | 88 => []
  | 89 => []
  | 90 => []
  | 91 => []
  | 92 => []
  | 93 => []
  | 94 => []
  | 95 => []
  | 96 => []
  | 97 => []
  | 98 => []
  | 99 => []
  | 100 => []
  | 101 => []
  | 102 => []
  | 103 => []
  | 104 => []
  | 105 => []
  | 106 => []
  | 107 => []
  | 108 => []
  | 109 => []
  | 110 => []
  | 111 => []
  | _ => []
def xcowT : List (Nat × Nat) := []
def xal : Bool := false
def xgstT : Nat → List (Nat × Nat)
  | _ => []
def xitfT : Nat → List (Nat × Nat × Nat × Nat × Nat × Nat)
  | _ => []
def xncT : List (String × String) := []
def xini : Nat → Bool
  | 0 => false
  | 1 => false
  | 2 => false
  | 3 => false
  | 4 => false
  | 5 => false
  | 6 => false
  | 7 => false
  | 8 => false
  | 9 => false
  | 10 => false
  | 11 => false
  | 12 => false
  | 13 => false
  | 14 => false
  | 15 => false
  | 16 => false
  | 17 => false
  | 18 => false
  | 19 => false
  | 20 => false
  | 21 => false
  | 22 => false
  | 23 => false
  | 24 => false
  | 25 => false
  | 26 => false
  | 27 => false
  | 28 => false
  | 29 => false
  | 30 => false
  | 31 => false
  | 32 => false
  | 33 => false
  | 34 => false
  | 35 => false
  | 36 => false
  | 37 => false
  | 38 => false
  | 39 => false
  | 40 => false
  | 41 => false
  | 42 => false
  | 43 => false
  | 44 => false
  | 45 => false
  | 46 => false
  | 47 => false
  | 48 => false
  | 49 => false
  | 50 => false
  | 51 => false
  | 52 => false
  | 53 => false
  | 54 => false
  | 55 => false
  | 56 => false
  | 57 => false
  | 58 => false
  | 59 => false
  | 60 => false
  | 61 => false
  | 62 => false
  | 63 => false
  | 64 => false
  | 65 => false
  | 66 => false
  | 67 => true
  | 68 => true
  | 69 => true
  | 70 => true
  | 71 => true
  | 72 => true
  | 73 => true
  | 74 => true
  | 75 => true
  | 76 => true
  | 77 => true
  | 78 => false
  | 79 => false
  | 80 => false
  | 81 => false
  | 82 => false
  | 83 => false
  | 84 => false
  | 85 => false
  | 86 => false
  | 87 => false
  | 88 => false
  | 89 => false
  | 90 => false
  | 91 => false
  | 92 => false
  | 93 => false
  | 94 => false
  | 95 => false
  | 96 => false
  | 97 => false
  | 98 => false
  | 99 => false
  | 100 => false
  | 101 => false
  | 102 => false
  | 103 => false
  | 104 => false
  | 105 => false
  | 106 => false
  | 107 => false
  | 108 => false
  | 109 => false
  | 110 => false
  | 111 => false
  | _ => false
def xthrT : Nat → List (Nat × Nat × Nat × Nat × Nat × Nat × Nat × Nat)
  | 1 => [(19, 11, 147, 383, 151, 1, 62, 40)]
  | 39 => [(76, 12, 90, 317, 94, 1, 296, 36)]
  | 40 => [(21, 11, 147, 376, 151, 1, 62, 40)]
  | 47 => [(16, 12, 90, 332, 94, 1, 296, 36)]
  | 51 => [(161, 12, 90, 323, 94, 1, 296, 36)]
  | 54 => [(158, 12, 90, 273, 94, 1, 296, 36)]
  | 55 => [(15, 11, 147, 374, 151, 1, 62, 40)]
  | 61 => [(76, 12, 90, 306, 94, 1, 296, 36)]
  | 62 => [(15, 11, 147, 378, 151, 1, 62, 40)]
  | 63 => [(26, 12, 90, 294, 94, 1, 296, 36)]
  | 65 => [(15, 11, 147, 280, 151, 1, 62, 40), (109, 12, 90, 289, 94, 1, 296, 36)]
  | 85 => [(21, 11, 147, 190, 151, 0, 62, 40), (47, 12, 90, 198, 94, 0, 296, 36)]
  | 92 => [(16, 13, 62, 64, 66, 0, 864, 37)]
  | 93 => [(10, 12, 90, 372, 94, 1, 296, 36)]
  | 96 => [(26, 13, 62, 78, 66, 0, 864, 37)]
  | 100 => [(19, 12, 90, 92, 94, 0, 296, 36), (39, 12, 90, 95, 94, 0, 296, 36), (83, 13, 62, 103, 66, 0, 864, 37)]
  | 107 => [(44, 13, 62, 181, 66, 0, 864, 37)]
  | _ => []
def xmulT : Nat → List (Nat × Nat × Nat)
  | 10 => [(29, 3, 707), (34, 0, 709), (50, 4, 710), (55, 5, 712)]
  | _ => []
def xstrT : List (Nat × Nat × String) := [(9, 64, "there are 10 couples"), (9, 78, "there are 7 judges, or an event is open"), (9, 92, "these are not three couples or more"), (9, 95, "dances are 1 to 5"), (9, 103, "an event is open, or too few judges are free"), (9, 181, "no final can begin"), (9, 190, "no such judge in a final"), (9, 198, "marks are 1 to n, each once"), (9, 273, "what is 0 to 7"), (9, 280, "no such judge"), (9, 289, "what is 0 to 3"), (9, 294, "no such place"), (9, 306, "what is 0 or 1"), (9, 317, "what is 0 to 2"), (9, 323, "what is 0 to 10"), (9, 332, "judges are a set of 0 to 127"), (9, 372, "a club is 0 to 5"), (9, 374, "no such couple"), (9, 376, "no such couple in a final"), (9, 378, "no such dance"), (9, 383, "no such sheet in a final")]
end XT
end
section
/-! a machine on lists: what the bytecode does, on labels instead of addresses -/
section XM
/-- a cell: its kind (a class' number, or 100 and an array type's), what it holds -/
abbrev xE : Type := Nat × List Value
abbrev xH : Type := List xE
abbrev xL : Type := List (Nat × Value)
abbrev xC : Type := Nat × xL × List Value × xH × Nat
/-- where a label's cell lies: the first four are old things, the others new ones, one behind the other -/
def xad (old : Nat → Nat) (n0 k : Nat) : Nat := if k < 4 then old k else n0 + (k - 4)
def xv (ad : Nat → Nat) (v : Value) : Value := match v with
  | .ref k => .ref (ad k)
  | w => w
theorem xv_cat (ad : Nat → Nat) (v : Value) : (xv ad v).category = v.category := by cases v <;> rfl
def xm (ad : Nat → Nat) (lv : xL) : xL := lv.map (fun q => (q.1, xv ad q.2))
def xlk (i : Nat) : xL → Option Value
  | [] => none
  | (j, v) :: r => bif Nat.beq j i then some v else xlk i r
theorem xlk_mem {i : Nat} {v : Value} : ∀ {lv : xL}, xlk i lv = some v → (i, v) ∈ lv
  | [], h => by cases h
  | (j, w) :: r, h => by
    unfold xlk at h
    cases hb : Nat.beq j i with
    | true =>
      rw [hb] at h
      have e : j = i := Nat.eq_of_beq_eq_true hb
      subst e
      cases h
      exact List.mem_cons_self
    | false =>
      rw [hb] at h
      exact List.mem_cons_of_mem _ (xlk_mem h)
theorem xlk_has {ls : Array Slot} {nL i : Nat} {v : Value} {lv : xL} {ad : Nat → Nat} (h : xlk i lv = some v) (hl : lv_has ls nL (xm ad lv)) : ls[i]? = some (.val (xv ad v)) :=
  hl.2.2 (i, xv ad v) (List.mem_map.mpr ⟨(i, v), xlk_mem h, rfl⟩)
theorem xlk_at {i : Nat} {v : Value} {lv : xL} {ad : Nat → Nat} (h : xlk i lv = some v) : ∃ k : Nat, (xm ad lv)[k]? = some (i, xv ad v) :=
  List.getElem?_of_mem (List.mem_map.mpr ⟨(i, v), xlk_mem h, rfl⟩)
def xs1 (i : Nat) (v : Value) (lv : xL) : xL := (i, v) :: lv.filter (fun q => !(q.1 == i) && !(q.1 + 1 == i && q.2.category == 2))
def xs2 (i : Nat) (v : Value) (lv : xL) : xL := (i, v) :: lv.filter (fun q => !(q.1 == i) && (!(q.1 == i + 1) && !(q.1 + 1 == i && q.2.category == 2)))
theorem xs1_m (i : Nat) (v : Value) (lv : xL) (ad : Nat → Nat) : (i, xv ad v) :: (xm ad lv).filter (fun q => !(q.1 == i) && !(q.1 + 1 == i && q.2.category == 2)) = xm ad (xs1 i v lv) := by
  simp only [xm, xs1, List.map_cons, List.filter_map, Function.comp_def, xv_cat]
theorem xs2_m (i : Nat) (v : Value) (lv : xL) (ad : Nat → Nat) : (i, xv ad v) :: (xm ad lv).filter (fun q => !(q.1 == i) && (!(q.1 == i + 1) && !(q.1 + 1 == i && q.2.category == 2))) = xm ad (xs2 i v lv) := by
  simp only [xm, xs2, List.map_cons, List.filter_map, Function.comp_def, xv_cat]
def xfnd {β : Type} : List (Nat × β) → Nat → Option β
  | [], _ => none
  | (j, b) :: r, i => bif Nat.beq j i then some b else xfnd r i
theorem xfnd_mem {β : Type} {i : Nat} {b : β} : ∀ {l : List (Nat × β)}, xfnd l i = some b → (i, b) ∈ l
  | [], h => by cases h
  | (j, w) :: r, h => by
    unfold xfnd at h
    cases hb : Nat.beq j i with
    | true =>
      rw [hb] at h
      have e : j = i := Nat.eq_of_beq_eq_true hb
      subst e
      cases h
      exact List.mem_cons_self
    | false =>
      rw [hb] at h
      exact List.mem_cons_of_mem _ (xfnd_mem h)
def xj (pc : Nat) (off : Int) : Option Nat := match (pc : Int) + off with
  | .ofNat t => some t
  | _ => none
theorem xj_eq {pc t : Nat} {off : Int} (h : xj pc off = some t) : (pc : Int) + off = (t : Int) := by
  unfold xj at h
  split at h
  · cases h; assumption
  · cases h
def xcmp : ClassFile.Cond → Int32 → Int32 → Bool
  | .eq, x, y => decide (x = y)
  | .ne, x, y => !decide (x = y)
  | .lt, x, y => decide (x < y)
  | .ge, x, y => decide (y ≤ x)
  | .gt, x, y => decide (y < x)
  | .le, x, y => decide (x ≤ y)
def xget (h : xH) (a : Nat) : Option xE := bif Nat.ble 4 a then h[a - 4]? else none
def xset (h : xH) (a : Nat) (e : xE) : xH := h.set (a - 4) e
def xtT : Nat → FieldType
  | 0 => .int
  | 1 => .int
  | 2 => .boolean
  | 3 => .array .int
  | 4 => .array (.array .int)
  | 5 => .array .boolean
  | _ => .object "java/lang/Object"
def xlen : Instr → Nat
  | .bipush _ => 2
  | .ldc _ => 2
  | .iload _ => 2
  | .lload _ => 2
  | .dload _ => 2
  | .aload _ => 2
  | .istore _ => 2
  | .lstore _ => 2
  | .dstore _ => 2
  | .astore _ => 2
  | .newarray _ => 2
  | .sipush _ => 3
  | .ldc_w _ => 3
  | .ldc2_w _ => 3
  | .iinc _ _ => 3
  | .if_icmp _ _ => 3
  | .ifCond _ _ => 3
  | .goto _ => 3
  | .ifnull _ => 3
  | .ifnonnull _ => 3
  | .getfield _ => 3
  | .putfield _ => 3
  | .getstatic _ => 3
  | .new _ => 3
  | .anewarray _ => 3
  | .checkcast _ => 3
  | .invokevirtual _ => 3
  | .invokespecial _ => 3
  | .invokestatic _ => 3
  | .multianewarray _ _ => 4
  | .invokeinterface _ _ => 5
  | .tableswitch _ _ _ _ => 0
  | .lookupswitch _ _ => 0
  | _ => 1
def xix (x : Int32) (n : Nat) : Option Nat := if x < 0 then none else if n ≤ x.toNatClampNeg then none else some x.toNatClampNeg
theorem xix_in {x : Int32} {n k : Nat} (h : xix x n = some k) : ¬ (x < 0 ∨ n ≤ x.toNatClampNeg) ∧ x.toNatClampNeg = k := by
  unfold xix at h
  split at h
  · cases h
  · split at h
    · cases h
    · cases h
      exact ⟨fun q => q.elim (by assumption) (by assumption), rfl⟩
def xati : ArrayType → Option Nat
  | .int => some 0
  | .boolean => some 2
  | _ => none
def xdv : Nat → Value
  | 0 => .int 0
  | 1 => .int 0
  | 2 => .int 0
  | _ => .null
end XM
end
section
/-! one instruction on lists -/
section XS
def xstep (o nL : Nat) (ini : Bool) (sc : Option (List Int32)) (i : Instr) (pc : Nat) (lv : xL) (st : List Value) (h : xH) (ks : Nat) : Option xC := match i with
  | .iconst n => some (pc + 1, lv, .int (Int32.ofInt n) :: st, h, ks)
  | .bipush n => some (pc + 2, lv, .int (Int8.ofInt n).toInt32 :: st, h, ks)
  | .sipush n => some (pc + 3, lv, .int (Int16.ofInt n).toInt32 :: st, h, ks)
  | .lconst n => some (pc + 1, lv, .long (Int64.ofNat (n : Nat)) :: st, h, ks)
  | .dconst n => some (pc + 1, lv, .double ((if n = 0 then FP.dconst0 else FP.dconst1)) :: st, h, ks)
  | .aconst_null => some (pc + 1, lv, .null :: st, h, ks)
  | .ldc x => match xfnd (xconT o) x with | some (v, _) => some (pc + 2, lv, .int v :: st, h, ks) | none => none
  | .ldc_w x => match xfnd (xconT o) x with | some (v, _) => some (pc + 3, lv, .int v :: st, h, ks) | none => none
  | .ldc2_w x => match xfnd (xcolT o) x with | some (v, _) => some (pc + 3, lv, .long v :: st, h, ks) | none => none
  | .iload_n k => match xlk k lv with | some (.int x) => some (pc + 1, lv, .int x :: st, h, ks) | _ => none
  | .iload k => match xlk k lv with | some (.int x) => some (pc + 2, lv, .int x :: st, h, ks) | _ => none
  | .lload_n k => match xlk k lv with | some (.long x) => some (pc + 1, lv, .long x :: st, h, ks) | _ => none
  | .lload k => match xlk k lv with | some (.long x) => some (pc + 2, lv, .long x :: st, h, ks) | _ => none
  | .dload k => match xlk k lv with | some (.double x) => some (pc + 2, lv, .double x :: st, h, ks) | _ => none
  | .aload_n k => match xlk k lv with | some (.ref x) => some (pc + 1, lv, .ref x :: st, h, ks) | _ => none
  | .aload k => match xlk k lv with | some (.ref x) => some (pc + 2, lv, .ref x :: st, h, ks) | _ => none
  | .istore_n k => match st with | .int x :: st => if (k : Nat) < nL then some (pc + 1, xs1 k (.int x) lv, st, h, ks) else none | _ => none
  | .istore k => match st with | .int x :: st => if (k : Nat) < nL then some (pc + 2, xs1 k (.int x) lv, st, h, ks) else none | _ => none
  | .astore_n k => match st with | .ref x :: st => if (k : Nat) < nL then some (pc + 1, xs1 k (.ref x) lv, st, h, ks) else none | _ => none
  | .astore k => match st with | .ref x :: st => if (k : Nat) < nL then some (pc + 2, xs1 k (.ref x) lv, st, h, ks) else none | _ => none
  | .lstore_n k => match st with | .long x :: st => if (k : Nat) + 1 < nL then some (pc + 1, xs2 k (.long x) lv, st, h, ks) else none | _ => none
  | .lstore k => match st with | .long x :: st => if (k : Nat) + 1 < nL then some (pc + 2, xs2 k (.long x) lv, st, h, ks) else none | _ => none
  | .dstore k => match st with | .double x :: st => if (k : Nat) + 1 < nL then some (pc + 2, xs2 k (.double x) lv, st, h, ks) else none | _ => none
  | .iinc k n => match xlk k lv with | some (.int x) => if (k : Nat) < nL then some (pc + 3, xs1 k (.int (x + Int32.ofInt n)) lv, st, h, ks) else none | _ => none
  | .iadd => match st with | .int y :: .int x :: st => some (pc + 1, lv, .int (x + y) :: st, h, ks) | _ => none
  | .isub => match st with | .int y :: .int x :: st => some (pc + 1, lv, .int (x - y) :: st, h, ks) | _ => none
  | .imul => match st with | .int y :: .int x :: st => some (pc + 1, lv, .int (x * y) :: st, h, ks) | _ => none
  | .idiv => match st with | .int y :: .int x :: st => if y = 0 then none else some (pc + 1, lv, .int (x / y) :: st, h, ks) | _ => none
  | .irem => match st with | .int y :: .int x :: st => if y = 0 then none else some (pc + 1, lv, .int (x - x / y * y) :: st, h, ks) | _ => none
  | .ineg => match st with | .int x :: st => some (pc + 1, lv, .int (-x) :: st, h, ks) | _ => none
  | .iand => match st with | .int y :: .int x :: st => some (pc + 1, lv, .int (x &&& y) :: st, h, ks) | _ => none
  | .ior => match st with | .int y :: .int x :: st => some (pc + 1, lv, .int (x ||| y) :: st, h, ks) | _ => none
  | .ixor => match st with | .int y :: .int x :: st => some (pc + 1, lv, .int (x ^^^ y) :: st, h, ks) | _ => none
  | .ishl => match st with | .int y :: .int x :: st => some (pc + 1, lv, .int (x <<< (y &&& 31)) :: st, h, ks) | _ => none
  | .ishr => match st with | .int y :: .int x :: st => some (pc + 1, lv, .int (x >>> (y &&& 31)) :: st, h, ks) | _ => none
  | .iushr => match st with | .int y :: .int x :: st => some (pc + 1, lv, .int (x.toUInt32 >>> (y.toUInt32 &&& Int32.toUInt32 31)).toInt32 :: st, h, ks) | _ => none
  | .ladd => match st with | .long y :: .long x :: st => some (pc + 1, lv, .long (x + y) :: st, h, ks) | _ => none
  | .lmul => match st with | .long y :: .long x :: st => some (pc + 1, lv, .long (x * y) :: st, h, ks) | _ => none
  | .lcmp => match st with | .long y :: .long x :: st => some (pc + 1, lv, .int (lg_cmp x y) :: st, h, ks) | _ => none
  | .dcmp op => match st with | .double y :: .double x :: st => some (pc + 1, lv, .int (Op.cmpValue (FP.dcmp x y) op) :: st, h, ks) | _ => none
  | .i2l => match st with | .int x :: st => some (pc + 1, lv, .long x.toInt64 :: st, h, ks) | _ => none
  | .dup => match st with | x :: st => if x.category = 1 then some (pc + 1, lv, x :: x :: st, h, ks) else none | _ => none
  | .pop => match st with | x :: st => if x.category = 1 then some (pc + 1, lv, st, h, ks) else none | _ => none
  | .dup_x1 => match st with | x :: y :: st => if x.category = 1 then if y.category = 1 then some (pc + 1, lv, x :: y :: x :: st, h, ks) else none else none | _ => none
  | .dup2 => match st with | x :: y :: st => if x.category = 1 then if y.category = 1 then some (pc + 1, lv, x :: y :: x :: y :: st, h, ks) else none else none | _ => none
  | .if_icmp c off => match st with
    | .int y :: .int x :: st => match xj pc off with | some t => bif xcmp c x y then some (t, lv, st, h, ks) else some (pc + 3, lv, st, h, ks) | none => none
    | _ => none
  | .ifCond c off => match st with
    | .int x :: st => match xj pc off with | some t => bif xcmp c x 0 then some (t, lv, st, h, ks) else some (pc + 3, lv, st, h, ks) | none => none
    | _ => none
  | .goto off => match xj pc off with | some t => some (t, lv, st, h, ks) | none => none
  | .tableswitch d lo hi offs => match st with
    | .int x :: st => if x.toInt < lo then (match xj pc d with | some t => some (t, lv, st, h, ks) | none => none) else
        if hi < x.toInt then (match xj pc d with | some t => some (t, lv, st, h, ks) | none => none) else
        match offs[(x.toInt - lo).toNat]? with
        | some off => (match xj pc off with | some t => some (t, lv, st, h, ks) | none => none)
        | none => none
    | _ => none
  | .lookupswitch d ps => match st with
    | .int x :: st => bif (ps.toList.zip (ps.toList.drop 1)).all (fun (a, next) => a.1 < next.1) then
        (match xj pc (Op.lookupswitch.offset ps.toList d x.toInt) with | some t => some (t, lv, st, h, ks) | none => none) else none
    | _ => none
  | .getfield x => match st with
    | .ref a :: st => match xfnd (xfldT o) x with
      | some (ci, k, _, _) => match xget h a with
        | some (t, fs) => if t = ci then (match fs[k]? with | some v => some (pc + 3, lv, v :: st, h, ks) | none => none) else none
        | none => none
      | none => none
    | _ => none
  | .putfield x => match st with
    | v :: .ref a :: st => match xfnd (xfldT o) x with
      | some (ci, k, kd, _) => match xget h a with
        | some (t, fs) => match xcl[ci]? with
          | some (_, T, _) => if t = ci ∧ k < fs.length ∧ narrow (xtyf ci k) v = v ∧ fits (xtyf ci k) v = true ∧ ((T k).2.2.2 = false ∨ (ini = true ∧ kd = 0 ∧ (T k).1 = xown o)) then some (pc + 3, lv, st, xset h a (t, fs.set k v), ks) else none
          | none => none
        | none => none
      | none => none
    | _ => none
  | .new x => match xfnd (xnewT o) x with
    | some (ci, _) => match xcl[ci]? with
      | some (_, _, N) => if 0 < N then some (pc + 3, lv, .ref (h.length + 4) :: st, h ++ [(ci, xdef ci)], ks + N) else none
      | none => none
    | none => none
  | .newarray aty => match st with
    | .int n :: st => match xati aty with
      | some t => if n < 0 then none else if n.toNatClampNeg * componentBytes (xtT t) ≤ 536870912 then some (pc + 2, lv, .ref (h.length + 4) :: st, h ++ [(100 + t, List.replicate n.toNatClampNeg (xdv t))], ks + n.toNatClampNeg) else none
      | none => none
    | _ => none
  | .arraylength => match st with
    | .ref a :: st => match xget h a with
      | some (t, vs) => if 100 ≤ t ∧ t < 106 then some (pc + 1, lv, .int (Int32.ofNat vs.length) :: st, h, ks) else none
      | none => match sc with
        | some l => if a = 0 then some (pc + 1, lv, .int (Int32.ofNat l.length) :: st, h, ks) else none
        | none => none
    | _ => none
  | .iaload => match st with
    | .int x :: .ref a :: st => match xget h a with
      | some (t, vs) => if t = 100 then (match xix x vs.length with | some k => (match vs[k]? with | some v => some (pc + 1, lv, v :: st, h, ks) | none => none) | none => none) else none
      | none => match sc with
        | some l => if a = 0 then (match xix x l.length with | some k => some (pc + 1, lv, .int (l.getD k 0) :: st, h, ks) | none => none) else none
        | none => none
    | _ => none
  | .baload => match st with
    | .int x :: .ref a :: st => match xget h a with
      | some (t, vs) => if t = 102 then (match xix x vs.length with | some k => (match vs[k]? with | some v => some (pc + 1, lv, v :: st, h, ks) | none => none) | none => none) else none
      | none => none
    | _ => none
  | .aaload => match st with
    | .int x :: .ref a :: st => match xget h a with
      | some (t, vs) => if 103 ≤ t ∧ t < 106 then (match xix x vs.length with | some k => (match vs[k]? with | some v => some (pc + 1, lv, v :: st, h, ks) | none => none) | none => none) else none
      | none => none
    | _ => none
  | .iastore => match st with
    | .int v :: .int x :: .ref a :: st => match xget h a with
      | some (t, vs) => if t = 100 then (match xix x vs.length with | some k => some (pc + 1, lv, st, xset h a (t, vs.set k (.int v)), ks) | none => none) else none
      | none => none
    | _ => none
  | .bastore => match st with
    | .int v :: .int x :: .ref a :: st => match xget h a with
      | some (t, vs) => if t = 102 then (match xix x vs.length with | some k => some (pc + 1, lv, st, xset h a (t, vs.set k (narrow .boolean (.int v))), ks) | none => none) else none
      | none => none
    | _ => none
  | .aastore => match st with
    | .ref v :: .int x :: .ref a :: st => match xget h a, xget h v with
      | some (t, vs), some (t2, _) => if (t = 103 ∧ t2 = 100) ∨ (t = 104 ∧ t2 = 103) ∨ (t = 105 ∧ t2 = 102) then (match xix x vs.length with | some k => some (pc + 1, lv, st, xset h a (t, vs.set k (.ref v)), ks) | none => none) else none
      | _, _ => none
    | _ => none
  | _ => none
end XS
end
section
/-! what the tables say, checked by program -/
section XF
def xnwB : Jvm.Cond → Bool
  | .fieldLinkNest _ _ _ _ _ _ => true
  | .methodLinkNest _ _ _ _ => true
  | .castable _ _ => true
  | .declares _ => true
  | .arrayOver _ => true
  | _ => false
def xgw : List Jvm.Cond := lw_tbl.filter goodWord
def xnw : List Jvm.Cond := lw_tbl.filter xnwB
def xin (w : Jvm.Cond) (p : Nat) : Bool := decide (lw_tbl[p]? = some w)
def xig (w : Jvm.Cond) (p : Nat) : Bool := xin w p && goodWord w
def xinw (w : Jvm.Cond) (p : Nat) : Bool := xin w p && xnwB w
theorem xig_mem {w : Jvm.Cond} {p : Nat} (h : xig w p = true) : w ∈ xgw := by
  unfold xig xin at h
  simp only [Bool.and_eq_true, decide_eq_true_eq] at h
  exact List.mem_filter.mpr ⟨List.mem_of_getElem? h.1, h.2⟩
theorem xinw_mem {w : Jvm.Cond} {p : Nat} (h : xinw w p = true) : w ∈ xnw := by
  unfold xinw xin at h
  simp only [Bool.and_eq_true, decide_eq_true_eq] at h
  exact List.mem_filter.mpr ⟨List.mem_of_getElem? h.1, h.2⟩
theorem xgood {w : Jvm.Cond} (h : w ∈ xgw) : goodWord w = true := (List.mem_filter.mp h).2
-- fields
def xfldC (o : Nat) (q : Nat × Nat × Nat × Nat × Nat) : Bool := match xcl[q.2.1]? with
  | none => false
  | some (_, T, N) => decide (q.2.2.1 < N) && (if q.2.2.2.1 = 0 then xig (.fieldLink (xown o) q.1 (T q.2.2.1).1 (T q.2.2.1).2.1 (T q.2.2.1).2.2.1) q.2.2.2.2 else xinw (.fieldLinkNest (xown o) q.1 (T q.2.2.1).1 (T q.2.2.1).2.1 (T q.2.2.1).2.2.1 (xhost o)) q.2.2.2.2)
set_option maxRecDepth 100000 in
theorem xfld_all : ∀ o, o < xNO → (xfldT o).all (xfldC o) = true := by decide +kernel
theorem xfld_out {o : Nat} (h : ¬ o < xNO) : xfldT o = [] := by
  unfold xNO at h
  unfold xfldT
  split <;> first | omega | rfl
theorem xfld_ok {o x ci k kd p : Nat} (h : xfnd (xfldT o) x = some (ci, k, kd, p)) : ∃ (C : String) (T : u_T) (N : Nat), xcl[ci]? = some (C, T, N) ∧ k < N ∧
    (if kd = 0 then Jvm.Cond.fieldLink (xown o) x (T k).1 (T k).2.1 (T k).2.2.1 ∈ xgw else Jvm.Cond.fieldLinkNest (xown o) x (T k).1 (T k).2.1 (T k).2.2.1 (xhost o) ∈ xnw) := by
  have hm := xfnd_mem h
  by_cases ho : o < xNO
  · have h1 := List.all_eq_true.mp (xfld_all o ho) _ hm
    unfold xfldC at h1
    dsimp only at h1
    split at h1
    · cases h1
    · rename_i C T N hc
      simp only [Bool.and_eq_true, decide_eq_true_eq] at h1
      refine ⟨C, T, N, hc, h1.1, ?_⟩
      split
      · rename_i hk
        rw [if_pos hk] at h1
        exact xig_mem h1.2
      · rename_i hk
        rw [if_neg hk] at h1
        exact xinw_mem h1.2
  · rw [xfld_out ho] at hm
    cases hm
-- the classes' layouts
def xclsC (ci : Nat) : Bool := match xcl[ci]? with
  | none => true
  | some (C, T, N) => (List.range N).all (fun k => xlayT.any (fun q => q.1 == ci && q.2.1 == k && xig (u_lay C T k) q.2.2)) && (List.range N).all (fun k => decide (parseFieldDescriptor (T k).2.2.1 = some (xtyf ci k))) && (List.range N).all (fun a => (List.range N).all (fun b => decide (a = b) || decide ((T a).2.1 ≠ (T b).2.1))) && (List.range N).all (fun j => decide (defaultValue (xtyf ci j) = vp_V (xdef ci) j)) && decide ((xdef ci).length = N)
set_option maxRecDepth 100000 in
theorem xcls_all : (List.range xcl.length).all xclsC = true := by decide +kernel
theorem xcls_ok {ci : Nat} {C : String} {T : u_T} {N : Nat} (hc : xcl[ci]? = some (C, T, N)) : (∀ w ∈ u_ws C T N, w ∈ xgw) ∧ (∀ k, k < N → parseFieldDescriptor (T k).2.2.1 = some (xtyf ci k)) ∧ (∀ a, a < N → ∀ b, b < N → a ≠ b → (T a).2.1 ≠ (T b).2.1) ∧ (∀ j, j < N → defaultValue (xtyf ci j) = vp_V (xdef ci) j) ∧ (xdef ci).length = N := by
  have hlt : ci < xcl.length := (List.getElem?_eq_some_iff.mp hc).1
  have h := List.all_eq_true.mp xcls_all ci (List.mem_range.mpr hlt)
  unfold xclsC at h
  rw [hc] at h
  simp only [Bool.and_eq_true, decide_eq_true_eq, List.all_eq_true, List.mem_range, Bool.or_eq_true] at h
  obtain ⟨⟨⟨⟨h1, h2⟩, h3⟩, h4⟩, h5⟩ := h
  refine ⟨fun w hw => ?_, h2, fun a ha b hb hab => ?_, h4, h5⟩
  · obtain ⟨k, hk, rfl⟩ := List.mem_map.mp hw
    obtain ⟨q, -, hq⟩ := List.any_eq_true.mp (h1 k (List.mem_range.mp hk))
    simp only [Bool.and_eq_true] at hq
    exact xig_mem hq.2
  · rcases h3 a ha b hb with e | e
    · exact absurd e hab
    · exact e
-- new
def xnewC (o : Nat) (q : Nat × Nat × Nat × Nat × Nat) : Bool := match xcl[q.2.1]? with
  | none => false
  | some (C, _, N) => decide (N = 0) || (xig (.classLink (xown o) q.1 C) q.2.2.1 && xig (.instantiable C N) q.2.2.2.1 && xig (.initialized C) q.2.2.2.2)
set_option maxRecDepth 100000 in
theorem xnew_all : ∀ o, o < xNO → (xnewT o).all (xnewC o) = true := by decide +kernel
theorem xnew_out {o : Nat} (h : ¬ o < xNO) : xnewT o = [] := by
  unfold xNO at h
  unfold xnewT
  split <;> first | omega | rfl
theorem xnew_ok {o x ci : Nat} {r : Nat × Nat × Nat} {C : String} {T : u_T} {N : Nat} (h : xfnd (xnewT o) x = some (ci, r)) (hc : xcl[ci]? = some (C, T, N)) (hN : 0 < N) :
    Jvm.Cond.classLink (xown o) x C ∈ xgw ∧ Jvm.Cond.instantiable C N ∈ xgw ∧ Jvm.Cond.initialized C ∈ xgw := by
  have hm := xfnd_mem h
  by_cases ho : o < xNO
  · have h1 := List.all_eq_true.mp (xnew_all o ho) _ hm
    unfold xnewC at h1
    dsimp only at h1
    rw [hc] at h1
    simp only [Bool.and_eq_true, Bool.or_eq_true, decide_eq_true_eq] at h1
    rcases h1 with h1 | h1
    · omega
    · exact ⟨xig_mem h1.1.1, xig_mem h1.1.2, xig_mem h1.2⟩
  · rw [xnew_out ho] at hm
    cases hm
-- constants
set_option maxRecDepth 100000 in
theorem xcon_all : ∀ o, o < xNO → (xconT o).all (fun q => xig (.constant (xown o) q.1 q.2.1) q.2.2) = true := by decide +kernel
set_option maxRecDepth 100000 in
theorem xcol_all : ∀ o, o < xNO → (xcolT o).all (fun q => xig (.constantLong (xown o) q.1 q.2.1) q.2.2) = true := by decide +kernel
theorem xcon_ok {o x p : Nat} {v : Int32} (h : xfnd (xconT o) x = some (v, p)) : Jvm.Cond.constant (xown o) x v ∈ xgw := by
  have hm := xfnd_mem h
  by_cases ho : o < xNO
  · exact xig_mem (List.all_eq_true.mp (xcon_all o ho) _ hm)
  · have : xconT o = [] := by
      unfold xNO at ho
      unfold xconT
      split <;> first | omega | rfl
    rw [this] at hm
    cases hm
theorem xcol_ok {o x p : Nat} {v : Int64} (h : xfnd (xcolT o) x = some (v, p)) : Jvm.Cond.constantLong (xown o) x v ∈ xgw := by
  have hm := xfnd_mem h
  by_cases ho : o < xNO
  · exact xig_mem (List.all_eq_true.mp (xcol_all o ho) _ hm)
  · have : xcolT o = [] := by
      unfold xNO at ho
      unfold xcolT
      split <;> first | omega | rfl
    rw [this] at hm
    cases hm
end XF
end
section
/-! the code lists are the bytes -/
section XDC
def xchk (b : ByteArray) : Nat → List (Option Instr) → Bool
  | _, [] => true
  | pc, none :: r => xchk b (pc + 1) r
  | pc, some i :: r => (match decode b pc with
    | .ok (j, n) => decide (j = i) && (decide (xlen i = 0) || decide (n = xlen i))
    | .error _ => false) && xchk b (pc + 1) r
theorem xchk_ok {b : ByteArray} : ∀ {l : List (Option Instr)} {pc k : Nat} {i : Instr}, xchk b pc l = true → l[k]? = some (some i) → ∃ len, decode b (pc + k) = .ok (i, len) ∧ (xlen i = 0 ∨ len = xlen i)
  | [], _, _, _, _, h => by simp at h
  | none :: r, pc, 0, i, _, h => by simp at h
  | none :: r, pc, k + 1, i, hc, h => by
    have := xchk_ok (l := r) (pc := pc + 1) (k := k) hc (by simpa using h)
    rw [show pc + (k + 1) = pc + 1 + k by omega]
    exact this
  | some j :: r, pc, 0, i, hc, h => by
    simp only [List.getElem?_cons_zero, Option.some.injEq] at h
    subst h
    unfold xchk at hc
    rw [Bool.and_eq_true] at hc
    have hc := hc.1
    split at hc
    · rename_i j2 n hd
      simp only [Bool.and_eq_true, Bool.or_eq_true, decide_eq_true_eq] at hc
      obtain ⟨rfl, h2⟩ := hc
      exact ⟨n, hd, h2⟩
    · cases hc
  | some j :: r, pc, k + 1, i, hc, h => by
    unfold xchk at hc
    rw [Bool.and_eq_true] at hc
    have := xchk_ok (l := r) (pc := pc + 1) (k := k) hc.2 (by simpa using h)
    rw [show pc + (k + 1) = pc + 1 + k by omega]
    exact this
theorem xchk_app {b : ByteArray} : ∀ {l1 l2 : List (Option Instr)} {pc : Nat}, xchk b pc l1 = true → xchk b (pc + l1.length) l2 = true → xchk b pc (l1 ++ l2) = true
  | [], _, pc, _, h => h
  | none :: r, l2, pc, h1, h2 => xchk_app (l1 := r) (pc := pc + 1) h1 (by rw [List.length_cons] at h2; rw [show pc + 1 + r.length = pc + (r.length + 1) by omega]; exact h2)
  | some i :: r, l2, pc, h1, h2 => by
    rw [List.cons_append]
    unfold xchk at h1 ⊢
    rw [Bool.and_eq_true] at h1 ⊢
    exact ⟨h1.1, xchk_app (l1 := r) (pc := pc + 1) h1.2 (by rw [List.length_cons] at h2; rw [show pc + 1 + r.length = pc + (r.length + 1) by omega]; exact h2)⟩
set_option maxRecDepth 100000 in
theorem xdc0 : xchk (xmb 0) 0 (xmc 0) = true := by decide +kernel
set_option maxRecDepth 100000 in
theorem xdc1 : xchk (xmb 1) 0 (xmc 1) = true := by decide +kernel
set_option maxRecDepth 100000 in
theorem xdc2 : xchk (xmb 2) 0 (xmc 2) = true := by decide +kernel
set_option maxRecDepth 100000 in
theorem xdc3 : xchk (xmb 3) 0 (xmc 3) = true := by decide +kernel
set_option maxRecDepth 100000 in
theorem xdc4 : xchk (xmb 4) 0 (xmc 4) = true := by decide +kernel
set_option maxRecDepth 100000 in
theorem xdc5 : xchk (xmb 5) 0 (xmc 5) = true := by decide +kernel
set_option maxRecDepth 100000 in
theorem xdc6 : xchk (xmb 6) 0 (xmc 6) = true := by decide +kernel
set_option maxRecDepth 100000 in
theorem xdc7 : xchk (xmb 7) 0 (xmc 7) = true := by decide +kernel
set_option maxRecDepth 100000 in
theorem xdc8 : xchk (xmb 8) 0 (xmc 8) = true := by decide +kernel
set_option maxRecDepth 100000 in
theorem xdc9 : xchk (xmb 9) 0 (xmc 9) = true := by decide +kernel
set_option maxRecDepth 100000 in
theorem xdc10 : xchk (xmb 10) 0 (xmc 10) = true := by decide +kernel
set_option maxRecDepth 100000 in
theorem xdc11 : xchk (xmb 11) 0 (xmc 11) = true := by decide +kernel
set_option maxRecDepth 100000 in
theorem xdc12 : xchk (xmb 12) 0 (xmc 12) = true := by decide +kernel
set_option maxRecDepth 100000 in
theorem xdc13 : xchk (xmb 13) 0 (xmc 13) = true := by decide +kernel
set_option maxRecDepth 100000 in
theorem xdc14 : xchk (xmb 14) 0 (xmc 14) = true := by decide +kernel
set_option maxRecDepth 100000 in
theorem xdc15 : xchk (xmb 15) 0 (xmc 15) = true := by decide +kernel
set_option maxRecDepth 100000 in
theorem xdc16 : xchk (xmb 16) 0 (xmc 16) = true := by decide +kernel
set_option maxRecDepth 100000 in
theorem xdc17 : xchk (xmb 17) 0 (xmc 17) = true := by decide +kernel
set_option maxRecDepth 100000 in
theorem xdc18 : xchk (xmb 18) 0 (xmc 18) = true := by decide +kernel
set_option maxRecDepth 100000 in
theorem xdc19 : xchk (xmb 19) 0 (xmc 19) = true := by decide +kernel
set_option maxRecDepth 100000 in
theorem xdc20 : xchk (xmb 20) 0 (xmc 20) = true := by decide +kernel
set_option maxRecDepth 100000 in
theorem xdc21 : xchk (xmb 21) 0 (xmc 21) = true := by decide +kernel
set_option maxRecDepth 100000 in
theorem xdc22 : xchk (xmb 22) 0 (xmc 22) = true := by decide +kernel
set_option maxRecDepth 100000 in
theorem xdc23 : xchk (xmb 23) 0 (xmc 23) = true := by decide +kernel
set_option maxRecDepth 100000 in
theorem xdc24 : xchk (xmb 24) 0 (xmc 24) = true := by decide +kernel
set_option maxRecDepth 100000 in
theorem xdc25 : xchk (xmb 25) 0 (xmc 25) = true := by decide +kernel
set_option maxRecDepth 100000 in
theorem xdc26 : xchk (xmb 26) 0 (xmc 26) = true := by decide +kernel
set_option maxRecDepth 100000 in
theorem xdc27 : xchk (xmb 27) 0 (xmc 27) = true := by decide +kernel
set_option maxRecDepth 100000 in
theorem xdc28 : xchk (xmb 28) 0 (xmc 28) = true := by decide +kernel
set_option maxRecDepth 100000 in
theorem xdc29 : xchk (xmb 29) 0 (xmc 29) = true := by decide +kernel
set_option maxRecDepth 100000 in
theorem xdc30 : xchk (xmb 30) 0 (xmc 30) = true := by decide +kernel
set_option maxRecDepth 100000 in
theorem xdc31 : xchk (xmb 31) 0 (xmc 31) = true := by decide +kernel
set_option maxRecDepth 100000 in
theorem xdc32 : xchk (xmb 32) 0 (xmc 32) = true := by decide +kernel
set_option maxRecDepth 100000 in
theorem xdc33 : xchk (xmb 33) 0 (xmc 33) = true := by decide +kernel
set_option maxRecDepth 100000 in
theorem xdc34 : xchk (xmb 34) 0 (xmc 34) = true := by decide +kernel
set_option maxRecDepth 100000 in
theorem xdc35 : xchk (xmb 35) 0 (xmc 35) = true := by decide +kernel
set_option maxRecDepth 100000 in
theorem xdc36 : xchk (xmb 36) 0 (xmc 36) = true := by decide +kernel
set_option maxRecDepth 100000 in
theorem xdc37 : xchk (xmb 37) 0 (xmc 37) = true := by decide +kernel
set_option maxRecDepth 100000 in
theorem xdc38 : xchk (xmb 38) 0 (xmc 38) = true := by decide +kernel
set_option maxRecDepth 100000 in
theorem xdc39 : xchk (xmb 39) 0 (xmc 39) = true := by decide +kernel
set_option maxRecDepth 100000 in
theorem xdc40 : xchk (xmb 40) 0 (xmc 40) = true := by decide +kernel
set_option maxRecDepth 100000 in
theorem xdc41 : xchk (xmb 41) 0 (xmc 41) = true := by decide +kernel
set_option maxRecDepth 100000 in
theorem xdc42 : xchk (xmb 42) 0 (xmc 42) = true := by decide +kernel
set_option maxRecDepth 100000 in
theorem xdc43 : xchk (xmb 43) 0 (xmc 43) = true := by decide +kernel
set_option maxRecDepth 100000 in
theorem xdc44 : xchk (xmb 44) 0 (xmc 44) = true := by decide +kernel
set_option maxRecDepth 100000 in
theorem xdc45 : xchk (xmb 45) 0 (xmc 45) = true := by decide +kernel
set_option maxRecDepth 100000 in
theorem xdc46 : xchk (xmb 46) 0 (xmc 46) = true := by decide +kernel
set_option maxRecDepth 100000 in
theorem xdc47 : xchk (xmb 47) 0 (xmc 47) = true := by decide +kernel
set_option maxRecDepth 100000 in
theorem xdc48 : xchk (xmb 48) 0 (xmc 48) = true := by decide +kernel
set_option maxRecDepth 100000 in
theorem xdc49 : xchk (xmb 49) 0 (xmc 49) = true := by decide +kernel
set_option maxRecDepth 100000 in
theorem xdc50 : xchk (xmb 50) 0 (xmc 50) = true := by decide +kernel
set_option maxRecDepth 100000 in
theorem xdc51 : xchk (xmb 51) 0 (xmc 51) = true := by decide +kernel
set_option maxRecDepth 100000 in
theorem xdc52 : xchk (xmb 52) 0 (xmc 52) = true := by decide +kernel
set_option maxRecDepth 100000 in
theorem xdc53 : xchk (xmb 53) 0 (xmc 53) = true := by decide +kernel
set_option maxRecDepth 100000 in
theorem xdc54 : xchk (xmb 54) 0 (xmc 54) = true := by decide +kernel
set_option maxRecDepth 100000 in
theorem xdc55 : xchk (xmb 55) 0 (xmc 55) = true := by decide +kernel
set_option maxRecDepth 100000 in
theorem xdc56 : xchk (xmb 56) 0 (xmc 56) = true := by decide +kernel
set_option maxRecDepth 100000 in
theorem xdc57 : xchk (xmb 57) 0 (xmc 57) = true := by decide +kernel
set_option maxRecDepth 100000 in
theorem xdc58 : xchk (xmb 58) 0 (xmc 58) = true := by decide +kernel
set_option maxRecDepth 100000 in
theorem xdc59 : xchk (xmb 59) 0 (xmc 59) = true := by decide +kernel
set_option maxRecDepth 100000 in
theorem xdc60 : xchk (xmb 60) 0 (xmc 60) = true := by decide +kernel
set_option maxRecDepth 100000 in
theorem xdc61 : xchk (xmb 61) 0 (xmc 61) = true := by decide +kernel
set_option maxRecDepth 100000 in
theorem xdc62 : xchk (xmb 62) 0 (xmc 62) = true := by decide +kernel
set_option maxRecDepth 100000 in
theorem xdc63 : xchk (xmb 63) 0 (xmc 63) = true := by decide +kernel
set_option maxRecDepth 100000 in
theorem xdc64 : xchk (xmb 64) 0 (xmc 64) = true := by decide +kernel
set_option maxRecDepth 100000 in
theorem xdc65 : xchk (xmb 65) 0 (xmc 65) = true := by decide +kernel
set_option maxRecDepth 100000 in
theorem xdc66 : xchk (xmb 66) 0 (xmc 66) = true := by decide +kernel
set_option maxRecDepth 100000 in
theorem xdc67 : xchk (xmb 67) 0 (xmc 67) = true := by decide +kernel
set_option maxRecDepth 100000 in
theorem xdc68 : xchk (xmb 68) 0 (xmc 68) = true := by decide +kernel
set_option maxRecDepth 100000 in
theorem xdc69 : xchk (xmb 69) 0 (xmc 69) = true := by decide +kernel
set_option maxRecDepth 100000 in
theorem xdc70 : xchk (xmb 70) 0 (xmc 70) = true := by decide +kernel
set_option maxRecDepth 100000 in
theorem xdc71 : xchk (xmb 71) 0 (xmc 71) = true := by decide +kernel
set_option maxRecDepth 100000 in
theorem xdc72 : xchk (xmb 72) 0 (xmc 72) = true := by decide +kernel
set_option maxRecDepth 100000 in
theorem xdc73 : xchk (xmb 73) 0 (xmc 73) = true := by decide +kernel
set_option maxRecDepth 100000 in
theorem xdc74 : xchk (xmb 74) 0 (xmc 74) = true := by decide +kernel
set_option maxRecDepth 100000 in
theorem xdc75 : xchk (xmb 75) 0 (xmc 75) = true := by decide +kernel
set_option maxRecDepth 100000 in
theorem xdc76 : xchk (xmb 76) 0 (xmc 76) = true := by decide +kernel
set_option maxRecDepth 100000 in
theorem xdc77 : xchk (xmb 77) 0 (xmc 77) = true := by decide +kernel
set_option maxRecDepth 100000 in
theorem xdc78 : xchk (xmb 78) 0 (xmc 78) = true := by decide +kernel
set_option maxRecDepth 100000 in
theorem xdc79 : xchk (xmb 79) 0 (xmc 79) = true := by decide +kernel
set_option maxRecDepth 100000 in
theorem xdc80 : xchk (xmb 80) 0 (xmc 80) = true := by decide +kernel
set_option maxRecDepth 100000 in
theorem xdc81 : xchk (xmb 81) 0 (xmc 81) = true := by decide +kernel
set_option maxRecDepth 100000 in
theorem xdc82 : xchk (xmb 82) 0 (xmc 82) = true := by decide +kernel
set_option maxRecDepth 100000 in
theorem xdc83 : xchk (xmb 83) 0 (xmc 83) = true := by decide +kernel
set_option maxRecDepth 100000 in
theorem xdc84 : xchk (xmb 84) 0 (xmc 84) = true := by decide +kernel
set_option maxRecDepth 100000 in
theorem xdc85 : xchk (xmb 85) 0 (xmc 85) = true := by decide +kernel
set_option maxRecDepth 100000 in
theorem xdc86 : xchk (xmb 86) 0 (xmc 86) = true := by decide +kernel
set_option maxRecDepth 100000 in
theorem xdc87 : xchk (xmb 87) 0 (xmc 87) = true := by decide +kernel
set_option maxRecDepth 100000 in
theorem xdc88 : xchk (xmb 88) 0 (xmc 88) = true := by decide +kernel
set_option maxRecDepth 100000 in
theorem xdc89 : xchk (xmb 89) 0 (xmc 89) = true := by decide +kernel
set_option maxRecDepth 100000 in
theorem xdc90 : xchk (xmb 90) 0 (xmc 90) = true := by decide +kernel
set_option maxRecDepth 100000 in
theorem xdc91 : xchk (xmb 91) 0 (xmc 91) = true := by decide +kernel
set_option maxRecDepth 100000 in
theorem xdc92 : xchk (xmb 92) 0 (xmc 92) = true := by decide +kernel
set_option maxRecDepth 100000 in
theorem xdc93 : xchk (xmb 93) 0 (xmc 93) = true := by decide +kernel
set_option maxRecDepth 100000 in
theorem xdc94 : xchk (xmb 94) 0 (xmc 94) = true := by decide +kernel
set_option maxRecDepth 100000 in
theorem xdc95 : xchk (xmb 95) 0 (xmc 95) = true := by decide +kernel
set_option maxRecDepth 100000 in
theorem xdc96 : xchk (xmb 96) 0 (xmc 96) = true := by decide +kernel
set_option maxRecDepth 100000 in
theorem xdc97 : xchk (xmb 97) 0 (xmc 97) = true := by decide +kernel
set_option maxRecDepth 100000 in
theorem xdc98 : xchk (xmb 98) 0 (xmc 98) = true := by decide +kernel
set_option maxRecDepth 100000 in
theorem xdc99 : xchk (xmb 99) 0 (xmc 99) = true := by decide +kernel
set_option maxRecDepth 100000 in
theorem xdc100 : xchk (xmb 100) 0 (xmc 100) = true := by decide +kernel
set_option maxRecDepth 100000 in
theorem xdc101 : xchk (xmb 101) 0 (xmc 101) = true := by decide +kernel
set_option maxRecDepth 100000 in
theorem xdc102 : xchk (xmb 102) 0 (xmc 102) = true := by decide +kernel
set_option maxRecDepth 100000 in
theorem xdc103 : xchk (xmb 103) 0 (xmc 103) = true := by decide +kernel
set_option maxRecDepth 100000 in
theorem xdc104 : xchk (xmb 104) 0 (xmc 104) = true := by decide +kernel
set_option maxRecDepth 100000 in
theorem xdc105 : xchk (xmb 105) 0 (xmc 105) = true := by decide +kernel
set_option maxRecDepth 100000 in
theorem xdc106 : xchk (xmb 106) 0 (xmc 106) = true := by decide +kernel
set_option maxRecDepth 100000 in
theorem xdc107 : xchk (xmb 107) 0 (xmc 107) = true := by decide +kernel
set_option maxRecDepth 100000 in
theorem xdc108 : xchk (xmb 108) 0 (xmc 108) = true := by decide +kernel
set_option maxRecDepth 100000 in
theorem xdc109 : xchk (xmb 109) 0 (xmc 109) = true := by decide +kernel
set_option maxRecDepth 100000 in
theorem xdc110 : xchk (xmb 110) 0 (xmc 110) = true := by decide +kernel
set_option maxRecDepth 100000 in
theorem xdc111_0 : xchk code 0 xc111_0 = true := by decide +kernel
set_option maxRecDepth 100000 in
theorem xdc111_1 : xchk code 100 xc111_1 = true := by decide +kernel
set_option maxRecDepth 100000 in
theorem xdc111_2 : xchk code 200 xc111_2 = true := by decide +kernel
set_option maxRecDepth 100000 in
theorem xdc111_3 : xchk code 300 xc111_3 = true := by decide +kernel
set_option maxRecDepth 100000 in
theorem xdc111_4 : xchk code 400 xc111_4 = true := by decide +kernel
set_option maxRecDepth 100000 in
theorem xdc111_5 : xchk code 500 xc111_5 = true := by decide +kernel
set_option maxRecDepth 100000 in
theorem xdc111_6 : xchk code 600 xc111_6 = true := by decide +kernel
set_option maxRecDepth 100000 in
theorem xdc111_7 : xchk code 700 xc111_7 = true := by decide +kernel
theorem xdc111 : xchk (xmb 111) 0 (xmc 111) = true := xchk_app xdc111_0 (xchk_app xdc111_1 (xchk_app xdc111_2 (xchk_app xdc111_3 (xchk_app xdc111_4 (xchk_app xdc111_5 (xchk_app xdc111_6 (xdc111_7)))))))
theorem xdec : ∀ μ, xchk (xmb μ) 0 (xmc μ) = true
  | 0 => xdc0
  | 1 => xdc1
  | 2 => xdc2
  | 3 => xdc3
  | 4 => xdc4
  | 5 => xdc5
  | 6 => xdc6
  | 7 => xdc7
  | 8 => xdc8
  | 9 => xdc9
  | 10 => xdc10
  | 11 => xdc11
  | 12 => xdc12
  | 13 => xdc13
  | 14 => xdc14
  | 15 => xdc15
  | 16 => xdc16
  | 17 => xdc17
  | 18 => xdc18
  | 19 => xdc19
  | 20 => xdc20
  | 21 => xdc21
  | 22 => xdc22
  | 23 => xdc23
  | 24 => xdc24
  | 25 => xdc25
  | 26 => xdc26
  | 27 => xdc27
  | 28 => xdc28
  | 29 => xdc29
  | 30 => xdc30
  | 31 => xdc31
  | 32 => xdc32
  | 33 => xdc33
  | 34 => xdc34
  | 35 => xdc35
  | 36 => xdc36
  | 37 => xdc37
  | 38 => xdc38
  | 39 => xdc39
  | 40 => xdc40
  | 41 => xdc41
  | 42 => xdc42
  | 43 => xdc43
  | 44 => xdc44
  | 45 => xdc45
  | 46 => xdc46
  | 47 => xdc47
  | 48 => xdc48
  | 49 => xdc49
  | 50 => xdc50
  | 51 => xdc51
  | 52 => xdc52
  | 53 => xdc53
  | 54 => xdc54
  | 55 => xdc55
  | 56 => xdc56
  | 57 => xdc57
  | 58 => xdc58
  | 59 => xdc59
  | 60 => xdc60
  | 61 => xdc61
  | 62 => xdc62
  | 63 => xdc63
  | 64 => xdc64
  | 65 => xdc65
  | 66 => xdc66
  | 67 => xdc67
  | 68 => xdc68
  | 69 => xdc69
  | 70 => xdc70
  | 71 => xdc71
  | 72 => xdc72
  | 73 => xdc73
  | 74 => xdc74
  | 75 => xdc75
  | 76 => xdc76
  | 77 => xdc77
  | 78 => xdc78
  | 79 => xdc79
  | 80 => xdc80
  | 81 => xdc81
  | 82 => xdc82
  | 83 => xdc83
  | 84 => xdc84
  | 85 => xdc85
  | 86 => xdc86
  | 87 => xdc87
  | 88 => xdc88
  | 89 => xdc89
  | 90 => xdc90
  | 91 => xdc91
  | 92 => xdc92
  | 93 => xdc93
  | 94 => xdc94
  | 95 => xdc95
  | 96 => xdc96
  | 97 => xdc97
  | 98 => xdc98
  | 99 => xdc99
  | 100 => xdc100
  | 101 => xdc101
  | 102 => xdc102
  | 103 => xdc103
  | 104 => xdc104
  | 105 => xdc105
  | 106 => xdc106
  | 107 => xdc107
  | 108 => xdc108
  | 109 => xdc109
  | 110 => xdc110
  | 111 => xdc111
  | (k + 112) => rfl
end XDC
end
section
section XCW
set_option maxRecDepth 100000 in
theorem xcw0 : Jvm.Cond.code (xmy 0) (xmb 0) (xml 0) (xmr 0) ∈ xgw := xig_mem (p := 44) (by decide +kernel)
set_option maxRecDepth 100000 in
theorem xcw1 : Jvm.Cond.code (xmy 1) (xmb 1) (xml 1) (xmr 1) ∈ xgw := xig_mem (p := 49) (by decide +kernel)
set_option maxRecDepth 100000 in
theorem xcw2 : Jvm.Cond.code (xmy 2) (xmb 2) (xml 2) (xmr 2) ∈ xgw := xig_mem (p := 53) (by decide +kernel)
set_option maxRecDepth 100000 in
theorem xcw3 : Jvm.Cond.code (xmy 3) (xmb 3) (xml 3) (xmr 3) ∈ xgw := xig_mem (p := 57) (by decide +kernel)
set_option maxRecDepth 100000 in
theorem xcw4 : Jvm.Cond.code (xmy 4) (xmb 4) (xml 4) (xmr 4) ∈ xgw := xig_mem (p := 61) (by decide +kernel)
set_option maxRecDepth 100000 in
theorem xcw5 : Jvm.Cond.code (xmy 5) (xmb 5) (xml 5) (xmr 5) ∈ xgw := xig_mem (p := 135) (by decide +kernel)
set_option maxRecDepth 100000 in
theorem xcw6 : Jvm.Cond.code (xmy 6) (xmb 6) (xml 6) (xmr 6) ∈ xgw := xig_mem (p := 139) (by decide +kernel)
set_option maxRecDepth 100000 in
theorem xcw7 : Jvm.Cond.code (xmy 7) (xmb 7) (xml 7) (xmr 7) ∈ xgw := xig_mem (p := 143) (by decide +kernel)
set_option maxRecDepth 100000 in
theorem xcw8 : Jvm.Cond.code (xmy 8) (xmb 8) (xml 8) (xmr 8) ∈ xgw := xig_mem (p := 147) (by decide +kernel)
set_option maxRecDepth 100000 in
theorem xcw9 : Jvm.Cond.code (xmy 9) (xmb 9) (xml 9) (xmr 9) ∈ xgw := xig_mem (p := 151) (by decide +kernel)
set_option maxRecDepth 100000 in
theorem xcw10 : Jvm.Cond.code (xmy 10) (xmb 10) (xml 10) (xmr 10) ∈ xgw := xig_mem (p := 155) (by decide +kernel)
set_option maxRecDepth 100000 in
theorem xcw11 : Jvm.Cond.code (xmy 11) (xmb 11) (xml 11) (xmr 11) ∈ xgw := xig_mem (p := 159) (by decide +kernel)
set_option maxRecDepth 100000 in
theorem xcw12 : Jvm.Cond.code (xmy 12) (xmb 12) (xml 12) (xmr 12) ∈ xgw := xig_mem (p := 162) (by decide +kernel)
set_option maxRecDepth 100000 in
theorem xcw13 : Jvm.Cond.code (xmy 13) (xmb 13) (xml 13) (xmr 13) ∈ xgw := xig_mem (p := 167) (by decide +kernel)
set_option maxRecDepth 100000 in
theorem xcw14 : Jvm.Cond.code (xmy 14) (xmb 14) (xml 14) (xmr 14) ∈ xgw := xig_mem (p := 172) (by decide +kernel)
set_option maxRecDepth 100000 in
theorem xcw15 : Jvm.Cond.code (xmy 15) (xmb 15) (xml 15) (xmr 15) ∈ xgw := xig_mem (p := 175) (by decide +kernel)
set_option maxRecDepth 100000 in
theorem xcw16 : Jvm.Cond.code (xmy 16) (xmb 16) (xml 16) (xmr 16) ∈ xgw := xig_mem (p := 180) (by decide +kernel)
set_option maxRecDepth 100000 in
theorem xcw17 : Jvm.Cond.code (xmy 17) (xmb 17) (xml 17) (xmr 17) ∈ xgw := xig_mem (p := 184) (by decide +kernel)
set_option maxRecDepth 100000 in
theorem xcw18 : Jvm.Cond.code (xmy 18) (xmb 18) (xml 18) (xmr 18) ∈ xgw := xig_mem (p := 188) (by decide +kernel)
set_option maxRecDepth 100000 in
theorem xcw19 : Jvm.Cond.code (xmy 19) (xmb 19) (xml 19) (xmr 19) ∈ xgw := xig_mem (p := 192) (by decide +kernel)
set_option maxRecDepth 100000 in
theorem xcw20 : Jvm.Cond.code (xmy 20) (xmb 20) (xml 20) (xmr 20) ∈ xgw := xig_mem (p := 198) (by decide +kernel)
set_option maxRecDepth 100000 in
theorem xcw21 : Jvm.Cond.code (xmy 21) (xmb 21) (xml 21) (xmr 21) ∈ xgw := xig_mem (p := 202) (by decide +kernel)
set_option maxRecDepth 100000 in
theorem xcw22 : Jvm.Cond.code (xmy 22) (xmb 22) (xml 22) (xmr 22) ∈ xgw := xig_mem (p := 207) (by decide +kernel)
set_option maxRecDepth 100000 in
theorem xcw23 : Jvm.Cond.code (xmy 23) (xmb 23) (xml 23) (xmr 23) ∈ xgw := xig_mem (p := 212) (by decide +kernel)
set_option maxRecDepth 100000 in
theorem xcw24 : Jvm.Cond.code (xmy 24) (xmb 24) (xml 24) (xmr 24) ∈ xgw := xig_mem (p := 216) (by decide +kernel)
set_option maxRecDepth 100000 in
theorem xcw25 : Jvm.Cond.code (xmy 25) (xmb 25) (xml 25) (xmr 25) ∈ xgw := xig_mem (p := 220) (by decide +kernel)
set_option maxRecDepth 100000 in
theorem xcw26 : Jvm.Cond.code (xmy 26) (xmb 26) (xml 26) (xmr 26) ∈ xgw := xig_mem (p := 224) (by decide +kernel)
set_option maxRecDepth 100000 in
theorem xcw27 : Jvm.Cond.code (xmy 27) (xmb 27) (xml 27) (xmr 27) ∈ xgw := xig_mem (p := 227) (by decide +kernel)
set_option maxRecDepth 100000 in
theorem xcw28 : Jvm.Cond.code (xmy 28) (xmb 28) (xml 28) (xmr 28) ∈ xgw := xig_mem (p := 232) (by decide +kernel)
set_option maxRecDepth 100000 in
theorem xcw29 : Jvm.Cond.code (xmy 29) (xmb 29) (xml 29) (xmr 29) ∈ xgw := xig_mem (p := 236) (by decide +kernel)
set_option maxRecDepth 100000 in
theorem xcw30 : Jvm.Cond.code (xmy 30) (xmb 30) (xml 30) (xmr 30) ∈ xgw := xig_mem (p := 243) (by decide +kernel)
set_option maxRecDepth 100000 in
theorem xcw31 : Jvm.Cond.code (xmy 31) (xmb 31) (xml 31) (xmr 31) ∈ xgw := xig_mem (p := 248) (by decide +kernel)
set_option maxRecDepth 100000 in
theorem xcw32 : Jvm.Cond.code (xmy 32) (xmb 32) (xml 32) (xmr 32) ∈ xgw := xig_mem (p := 252) (by decide +kernel)
set_option maxRecDepth 100000 in
theorem xcw33 : Jvm.Cond.code (xmy 33) (xmb 33) (xml 33) (xmr 33) ∈ xgw := xig_mem (p := 256) (by decide +kernel)
set_option maxRecDepth 100000 in
theorem xcw34 : Jvm.Cond.code (xmy 34) (xmb 34) (xml 34) (xmr 34) ∈ xgw := xig_mem (p := 259) (by decide +kernel)
set_option maxRecDepth 100000 in
theorem xcw35 : Jvm.Cond.code (xmy 35) (xmb 35) (xml 35) (xmr 35) ∈ xgw := xig_mem (p := 266) (by decide +kernel)
set_option maxRecDepth 100000 in
theorem xcw36 : Jvm.Cond.code (xmy 36) (xmb 36) (xml 36) (xmr 36) ∈ xgw := xig_mem (p := 270) (by decide +kernel)
set_option maxRecDepth 100000 in
theorem xcw37 : Jvm.Cond.code (xmy 37) (xmb 37) (xml 37) (xmr 37) ∈ xgw := xig_mem (p := 274) (by decide +kernel)
set_option maxRecDepth 100000 in
theorem xcw38 : Jvm.Cond.code (xmy 38) (xmb 38) (xml 38) (xmr 38) ∈ xgw := xig_mem (p := 278) (by decide +kernel)
set_option maxRecDepth 100000 in
theorem xcw39 : Jvm.Cond.code (xmy 39) (xmb 39) (xml 39) (xmr 39) ∈ xgw := xig_mem (p := 283) (by decide +kernel)
set_option maxRecDepth 100000 in
theorem xcw40 : Jvm.Cond.code (xmy 40) (xmb 40) (xml 40) (xmr 40) ∈ xgw := xig_mem (p := 287) (by decide +kernel)
set_option maxRecDepth 100000 in
theorem xcw41 : Jvm.Cond.code (xmy 41) (xmb 41) (xml 41) (xmr 41) ∈ xgw := xig_mem (p := 293) (by decide +kernel)
set_option maxRecDepth 100000 in
theorem xcw42 : Jvm.Cond.code (xmy 42) (xmb 42) (xml 42) (xmr 42) ∈ xgw := xig_mem (p := 315) (by decide +kernel)
set_option maxRecDepth 100000 in
theorem xcw43 : Jvm.Cond.code (xmy 43) (xmb 43) (xml 43) (xmr 43) ∈ xgw := xig_mem (p := 319) (by decide +kernel)
set_option maxRecDepth 100000 in
theorem xcw44 : Jvm.Cond.code (xmy 44) (xmb 44) (xml 44) (xmr 44) ∈ xgw := xig_mem (p := 323) (by decide +kernel)
set_option maxRecDepth 100000 in
theorem xcw45 : Jvm.Cond.code (xmy 45) (xmb 45) (xml 45) (xmr 45) ∈ xgw := xig_mem (p := 327) (by decide +kernel)
set_option maxRecDepth 100000 in
theorem xcw46 : Jvm.Cond.code (xmy 46) (xmb 46) (xml 46) (xmr 46) ∈ xgw := xig_mem (p := 331) (by decide +kernel)
set_option maxRecDepth 100000 in
theorem xcw47 : Jvm.Cond.code (xmy 47) (xmb 47) (xml 47) (xmr 47) ∈ xgw := xig_mem (p := 337) (by decide +kernel)
set_option maxRecDepth 100000 in
theorem xcw48 : Jvm.Cond.code (xmy 48) (xmb 48) (xml 48) (xmr 48) ∈ xgw := xig_mem (p := 342) (by decide +kernel)
set_option maxRecDepth 100000 in
theorem xcw49 : Jvm.Cond.code (xmy 49) (xmb 49) (xml 49) (xmr 49) ∈ xgw := xig_mem (p := 346) (by decide +kernel)
set_option maxRecDepth 100000 in
theorem xcw50 : Jvm.Cond.code (xmy 50) (xmb 50) (xml 50) (xmr 50) ∈ xgw := xig_mem (p := 354) (by decide +kernel)
set_option maxRecDepth 100000 in
theorem xcw51 : Jvm.Cond.code (xmy 51) (xmb 51) (xml 51) (xmr 51) ∈ xgw := xig_mem (p := 360) (by decide +kernel)
set_option maxRecDepth 100000 in
theorem xcw52 : Jvm.Cond.code (xmy 52) (xmb 52) (xml 52) (xmr 52) ∈ xgw := xig_mem (p := 364) (by decide +kernel)
set_option maxRecDepth 100000 in
theorem xcw53 : Jvm.Cond.code (xmy 53) (xmb 53) (xml 53) (xmr 53) ∈ xgw := xig_mem (p := 370) (by decide +kernel)
set_option maxRecDepth 100000 in
theorem xcw54 : Jvm.Cond.code (xmy 54) (xmb 54) (xml 54) (xmr 54) ∈ xgw := xig_mem (p := 374) (by decide +kernel)
set_option maxRecDepth 100000 in
theorem xcw55 : Jvm.Cond.code (xmy 55) (xmb 55) (xml 55) (xmr 55) ∈ xgw := xig_mem (p := 378) (by decide +kernel)
set_option maxRecDepth 100000 in
theorem xcw56 : Jvm.Cond.code (xmy 56) (xmb 56) (xml 56) (xmr 56) ∈ xgw := xig_mem (p := 383) (by decide +kernel)
set_option maxRecDepth 100000 in
theorem xcw57 : Jvm.Cond.code (xmy 57) (xmb 57) (xml 57) (xmr 57) ∈ xgw := xig_mem (p := 388) (by decide +kernel)
set_option maxRecDepth 100000 in
theorem xcw58 : Jvm.Cond.code (xmy 58) (xmb 58) (xml 58) (xmr 58) ∈ xgw := xig_mem (p := 392) (by decide +kernel)
set_option maxRecDepth 100000 in
theorem xcw59 : Jvm.Cond.code (xmy 59) (xmb 59) (xml 59) (xmr 59) ∈ xgw := xig_mem (p := 399) (by decide +kernel)
set_option maxRecDepth 100000 in
theorem xcw60 : Jvm.Cond.code (xmy 60) (xmb 60) (xml 60) (xmr 60) ∈ xgw := xig_mem (p := 404) (by decide +kernel)
set_option maxRecDepth 100000 in
theorem xcw61 : Jvm.Cond.code (xmy 61) (xmb 61) (xml 61) (xmr 61) ∈ xgw := xig_mem (p := 409) (by decide +kernel)
set_option maxRecDepth 100000 in
theorem xcw62 : Jvm.Cond.code (xmy 62) (xmb 62) (xml 62) (xmr 62) ∈ xgw := xig_mem (p := 413) (by decide +kernel)
set_option maxRecDepth 100000 in
theorem xcw63 : Jvm.Cond.code (xmy 63) (xmb 63) (xml 63) (xmr 63) ∈ xgw := xig_mem (p := 419) (by decide +kernel)
set_option maxRecDepth 100000 in
theorem xcw64 : Jvm.Cond.code (xmy 64) (xmb 64) (xml 64) (xmr 64) ∈ xgw := xig_mem (p := 424) (by decide +kernel)
set_option maxRecDepth 100000 in
theorem xcw65 : Jvm.Cond.code (xmy 65) (xmb 65) (xml 65) (xmr 65) ∈ xgw := xig_mem (p := 428) (by decide +kernel)
set_option maxRecDepth 100000 in
theorem xcw66 : Jvm.Cond.code (xmy 66) (xmb 66) (xml 66) (xmr 66) ∈ xgw := xig_mem (p := 433) (by decide +kernel)
set_option maxRecDepth 100000 in
theorem xcw67 : Jvm.Cond.code (xmy 67) (xmb 67) (xml 67) (xmr 67) ∈ xgw := xig_mem (p := 440) (by decide +kernel)
set_option maxRecDepth 100000 in
theorem xcw68 : Jvm.Cond.code (xmy 68) (xmb 68) (xml 68) (xmr 68) ∈ xgw := xig_mem (p := 445) (by decide +kernel)
set_option maxRecDepth 100000 in
theorem xcw69 : Jvm.Cond.code (xmy 69) (xmb 69) (xml 69) (xmr 69) ∈ xgw := xig_mem (p := 451) (by decide +kernel)
set_option maxRecDepth 100000 in
theorem xcw70 : Jvm.Cond.code (xmy 70) (xmb 70) (xml 70) (xmr 70) ∈ xgw := xig_mem (p := 457) (by decide +kernel)
set_option maxRecDepth 100000 in
theorem xcw71 : Jvm.Cond.code (xmy 71) (xmb 71) (xml 71) (xmr 71) ∈ xgw := xig_mem (p := 468) (by decide +kernel)
set_option maxRecDepth 100000 in
theorem xcw72 : Jvm.Cond.code (xmy 72) (xmb 72) (xml 72) (xmr 72) ∈ xgw := xig_mem (p := 501) (by decide +kernel)
set_option maxRecDepth 100000 in
theorem xcw73 : Jvm.Cond.code (xmy 73) (xmb 73) (xml 73) (xmr 73) ∈ xgw := xig_mem (p := 522) (by decide +kernel)
set_option maxRecDepth 100000 in
theorem xcw74 : Jvm.Cond.code (xmy 74) (xmb 74) (xml 74) (xmr 74) ∈ xgw := xig_mem (p := 559) (by decide +kernel)
set_option maxRecDepth 100000 in
theorem xcw75 : Jvm.Cond.code (xmy 75) (xmb 75) (xml 75) (xmr 75) ∈ xgw := xig_mem (p := 591) (by decide +kernel)
set_option maxRecDepth 100000 in
theorem xcw76 : Jvm.Cond.code (xmy 76) (xmb 76) (xml 76) (xmr 76) ∈ xgw := xig_mem (p := 616) (by decide +kernel)
set_option maxRecDepth 100000 in
theorem xcw77 : Jvm.Cond.code (xmy 77) (xmb 77) (xml 77) (xmr 77) ∈ xgw := xig_mem (p := 626) (by decide +kernel)
set_option maxRecDepth 100000 in
theorem xcw78 : Jvm.Cond.code (xmy 78) (xmb 78) (xml 78) (xmr 78) ∈ xgw := xig_mem (p := 717) (by decide +kernel)
set_option maxRecDepth 100000 in
theorem xcw79 : Jvm.Cond.code (xmy 79) (xmb 79) (xml 79) (xmr 79) ∈ xgw := xig_mem (p := 803) (by decide +kernel)
set_option maxRecDepth 100000 in
theorem xcw80 : Jvm.Cond.code (xmy 80) (xmb 80) (xml 80) (xmr 80) ∈ xgw := xig_mem (p := 806) (by decide +kernel)
set_option maxRecDepth 100000 in
theorem xcw81 : Jvm.Cond.code (xmy 81) (xmb 81) (xml 81) (xmr 81) ∈ xgw := xig_mem (p := 810) (by decide +kernel)
set_option maxRecDepth 100000 in
theorem xcw82 : Jvm.Cond.code (xmy 82) (xmb 82) (xml 82) (xmr 82) ∈ xgw := xig_mem (p := 815) (by decide +kernel)
set_option maxRecDepth 100000 in
theorem xcw83 : Jvm.Cond.code (xmy 83) (xmb 83) (xml 83) (xmr 83) ∈ xgw := xig_mem (p := 818) (by decide +kernel)
set_option maxRecDepth 100000 in
theorem xcw84 : Jvm.Cond.code (xmy 84) (xmb 84) (xml 84) (xmr 84) ∈ xgw := xig_mem (p := 822) (by decide +kernel)
set_option maxRecDepth 100000 in
theorem xcw85 : Jvm.Cond.code (xmy 85) (xmb 85) (xml 85) (xmr 85) ∈ xgw := xig_mem (p := 827) (by decide +kernel)
set_option maxRecDepth 100000 in
theorem xcw86 : Jvm.Cond.code (xmy 86) (xmb 86) (xml 86) (xmr 86) ∈ xgw := xig_mem (p := 832) (by decide +kernel)
set_option maxRecDepth 100000 in
theorem xcw87 : Jvm.Cond.code (xmy 87) (xmb 87) (xml 87) (xmr 87) ∈ xgw := xig_mem (p := 838) (by decide +kernel)
set_option maxRecDepth 100000 in
theorem xcw88 : Jvm.Cond.code (xmy 88) (xmb 88) (xml 88) (xmr 88) ∈ xgw := xig_mem (p := 841) (by decide +kernel)
set_option maxRecDepth 100000 in
theorem xcw89 : Jvm.Cond.code (xmy 89) (xmb 89) (xml 89) (xmr 89) ∈ xgw := xig_mem (p := 845) (by decide +kernel)
set_option maxRecDepth 100000 in
theorem xcw90 : Jvm.Cond.code (xmy 90) (xmb 90) (xml 90) (xmr 90) ∈ xgw := xig_mem (p := 849) (by decide +kernel)
set_option maxRecDepth 100000 in
theorem xcw91 : Jvm.Cond.code (xmy 91) (xmb 91) (xml 91) (xmr 91) ∈ xgw := xig_mem (p := 852) (by decide +kernel)
set_option maxRecDepth 100000 in
theorem xcw92 : Jvm.Cond.code (xmy 92) (xmb 92) (xml 92) (xmr 92) ∈ xgw := xig_mem (p := 859) (by decide +kernel)
set_option maxRecDepth 100000 in
theorem xcw93 : Jvm.Cond.code (xmy 93) (xmb 93) (xml 93) (xmr 93) ∈ xgw := xig_mem (p := 862) (by decide +kernel)
set_option maxRecDepth 100000 in
theorem xcw94 : Jvm.Cond.code (xmy 94) (xmb 94) (xml 94) (xmr 94) ∈ xgw := xig_mem (p := 883) (by decide +kernel)
set_option maxRecDepth 100000 in
theorem xcw95 : Jvm.Cond.code (xmy 95) (xmb 95) (xml 95) (xmr 95) ∈ xgw := xig_mem (p := 888) (by decide +kernel)
set_option maxRecDepth 100000 in
theorem xcw96 : Jvm.Cond.code (xmy 96) (xmb 96) (xml 96) (xmr 96) ∈ xgw := xig_mem (p := 892) (by decide +kernel)
set_option maxRecDepth 100000 in
theorem xcw97 : Jvm.Cond.code (xmy 97) (xmb 97) (xml 97) (xmr 97) ∈ xgw := xig_mem (p := 897) (by decide +kernel)
set_option maxRecDepth 100000 in
theorem xcw98 : Jvm.Cond.code (xmy 98) (xmb 98) (xml 98) (xmr 98) ∈ xgw := xig_mem (p := 902) (by decide +kernel)
set_option maxRecDepth 100000 in
theorem xcw99 : Jvm.Cond.code (xmy 99) (xmb 99) (xml 99) (xmr 99) ∈ xgw := xig_mem (p := 906) (by decide +kernel)
set_option maxRecDepth 100000 in
theorem xcw100 : Jvm.Cond.code (xmy 100) (xmb 100) (xml 100) (xmr 100) ∈ xgw := xig_mem (p := 910) (by decide +kernel)
set_option maxRecDepth 100000 in
theorem xcw101 : Jvm.Cond.code (xmy 101) (xmb 101) (xml 101) (xmr 101) ∈ xgw := xig_mem (p := 914) (by decide +kernel)
set_option maxRecDepth 100000 in
theorem xcw102 : Jvm.Cond.code (xmy 102) (xmb 102) (xml 102) (xmr 102) ∈ xgw := xig_mem (p := 920) (by decide +kernel)
set_option maxRecDepth 100000 in
theorem xcw103 : Jvm.Cond.code (xmy 103) (xmb 103) (xml 103) (xmr 103) ∈ xgw := xig_mem (p := 926) (by decide +kernel)
set_option maxRecDepth 100000 in
theorem xcw104 : Jvm.Cond.code (xmy 104) (xmb 104) (xml 104) (xmr 104) ∈ xgw := xig_mem (p := 934) (by decide +kernel)
set_option maxRecDepth 100000 in
theorem xcw105 : Jvm.Cond.code (xmy 105) (xmb 105) (xml 105) (xmr 105) ∈ xgw := xig_mem (p := 938) (by decide +kernel)
set_option maxRecDepth 100000 in
theorem xcw106 : Jvm.Cond.code (xmy 106) (xmb 106) (xml 106) (xmr 106) ∈ xgw := xig_mem (p := 942) (by decide +kernel)
set_option maxRecDepth 100000 in
theorem xcw107 : Jvm.Cond.code (xmy 107) (xmb 107) (xml 107) (xmr 107) ∈ xgw := xig_mem (p := 946) (by decide +kernel)
set_option maxRecDepth 100000 in
theorem xcw108 : Jvm.Cond.code (xmy 108) (xmb 108) (xml 108) (xmr 108) ∈ xgw := xig_mem (p := 951) (by decide +kernel)
set_option maxRecDepth 100000 in
theorem xcw109 : Jvm.Cond.code (xmy 109) (xmb 109) (xml 109) (xmr 109) ∈ xgw := xig_mem (p := 956) (by decide +kernel)
set_option maxRecDepth 100000 in
theorem xcw110 : Jvm.Cond.code (xmy 110) (xmb 110) (xml 110) (xmr 110) ∈ xgw := xig_mem (p := 960) (by decide +kernel)
theorem xcod_ok : ∀ {μ : Nat}, xcod μ = true → Jvm.Cond.code (xmy μ) (xmb μ) (xml μ) (xmr μ) ∈ xgw
  | 0, _ => xcw0
  | 1, _ => xcw1
  | 2, _ => xcw2
  | 3, _ => xcw3
  | 4, _ => xcw4
  | 5, _ => xcw5
  | 6, _ => xcw6
  | 7, _ => xcw7
  | 8, _ => xcw8
  | 9, _ => xcw9
  | 10, _ => xcw10
  | 11, _ => xcw11
  | 12, _ => xcw12
  | 13, _ => xcw13
  | 14, _ => xcw14
  | 15, _ => xcw15
  | 16, _ => xcw16
  | 17, _ => xcw17
  | 18, _ => xcw18
  | 19, _ => xcw19
  | 20, _ => xcw20
  | 21, _ => xcw21
  | 22, _ => xcw22
  | 23, _ => xcw23
  | 24, _ => xcw24
  | 25, _ => xcw25
  | 26, _ => xcw26
  | 27, _ => xcw27
  | 28, _ => xcw28
  | 29, _ => xcw29
  | 30, _ => xcw30
  | 31, _ => xcw31
  | 32, _ => xcw32
  | 33, _ => xcw33
  | 34, _ => xcw34
  | 35, _ => xcw35
  | 36, _ => xcw36
  | 37, _ => xcw37
  | 38, _ => xcw38
  | 39, _ => xcw39
  | 40, _ => xcw40
  | 41, _ => xcw41
  | 42, _ => xcw42
  | 43, _ => xcw43
  | 44, _ => xcw44
  | 45, _ => xcw45
  | 46, _ => xcw46
  | 47, _ => xcw47
  | 48, _ => xcw48
  | 49, _ => xcw49
  | 50, _ => xcw50
  | 51, _ => xcw51
  | 52, _ => xcw52
  | 53, _ => xcw53
  | 54, _ => xcw54
  | 55, _ => xcw55
  | 56, _ => xcw56
  | 57, _ => xcw57
  | 58, _ => xcw58
  | 59, _ => xcw59
  | 60, _ => xcw60
  | 61, _ => xcw61
  | 62, _ => xcw62
  | 63, _ => xcw63
  | 64, _ => xcw64
  | 65, _ => xcw65
  | 66, _ => xcw66
  | 67, _ => xcw67
  | 68, _ => xcw68
  | 69, _ => xcw69
  | 70, _ => xcw70
  | 71, _ => xcw71
  | 72, _ => xcw72
  | 73, _ => xcw73
  | 74, _ => xcw74
  | 75, _ => xcw75
  | 76, _ => xcw76
  | 77, _ => xcw77
  | 78, _ => xcw78
  | 79, _ => xcw79
  | 80, _ => xcw80
  | 81, _ => xcw81
  | 82, _ => xcw82
  | 83, _ => xcw83
  | 84, _ => xcw84
  | 85, _ => xcw85
  | 86, _ => xcw86
  | 87, _ => xcw87
  | 88, _ => xcw88
  | 89, _ => xcw89
  | 90, _ => xcw90
  | 91, _ => xcw91
  | 92, _ => xcw92
  | 93, _ => xcw93
  | 94, _ => xcw94
  | 95, _ => xcw95
  | 96, _ => xcw96
  | 97, _ => xcw97
  | 98, _ => xcw98
  | 99, _ => xcw99
  | 100, _ => xcw100
  | 101, _ => xcw101
  | 102, _ => xcw102
  | 103, _ => xcw103
  | 104, _ => xcw104
  | 105, _ => xcw105
  | 106, _ => xcw106
  | 107, _ => xcw107
  | 108, _ => xcw108
  | 109, _ => xcw109
  | 110, _ => xcw110
  | 111, h => absurd h (by decide)
  | (k + 112), h => absurd h (by show ¬ false = true; decide)
theorem xcod_lt : ∀ {μ : Nat}, xcod μ = true → μ < xNM
  | 0, _ => by decide
  | 1, _ => by decide
  | 2, _ => by decide
  | 3, _ => by decide
  | 4, _ => by decide
  | 5, _ => by decide
  | 6, _ => by decide
  | 7, _ => by decide
  | 8, _ => by decide
  | 9, _ => by decide
  | 10, _ => by decide
  | 11, _ => by decide
  | 12, _ => by decide
  | 13, _ => by decide
  | 14, _ => by decide
  | 15, _ => by decide
  | 16, _ => by decide
  | 17, _ => by decide
  | 18, _ => by decide
  | 19, _ => by decide
  | 20, _ => by decide
  | 21, _ => by decide
  | 22, _ => by decide
  | 23, _ => by decide
  | 24, _ => by decide
  | 25, _ => by decide
  | 26, _ => by decide
  | 27, _ => by decide
  | 28, _ => by decide
  | 29, _ => by decide
  | 30, _ => by decide
  | 31, _ => by decide
  | 32, _ => by decide
  | 33, _ => by decide
  | 34, _ => by decide
  | 35, _ => by decide
  | 36, _ => by decide
  | 37, _ => by decide
  | 38, _ => by decide
  | 39, _ => by decide
  | 40, _ => by decide
  | 41, _ => by decide
  | 42, _ => by decide
  | 43, _ => by decide
  | 44, _ => by decide
  | 45, _ => by decide
  | 46, _ => by decide
  | 47, _ => by decide
  | 48, _ => by decide
  | 49, _ => by decide
  | 50, _ => by decide
  | 51, _ => by decide
  | 52, _ => by decide
  | 53, _ => by decide
  | 54, _ => by decide
  | 55, _ => by decide
  | 56, _ => by decide
  | 57, _ => by decide
  | 58, _ => by decide
  | 59, _ => by decide
  | 60, _ => by decide
  | 61, _ => by decide
  | 62, _ => by decide
  | 63, _ => by decide
  | 64, _ => by decide
  | 65, _ => by decide
  | 66, _ => by decide
  | 67, _ => by decide
  | 68, _ => by decide
  | 69, _ => by decide
  | 70, _ => by decide
  | 71, _ => by decide
  | 72, _ => by decide
  | 73, _ => by decide
  | 74, _ => by decide
  | 75, _ => by decide
  | 76, _ => by decide
  | 77, _ => by decide
  | 78, _ => by decide
  | 79, _ => by decide
  | 80, _ => by decide
  | 81, _ => by decide
  | 82, _ => by decide
  | 83, _ => by decide
  | 84, _ => by decide
  | 85, _ => by decide
  | 86, _ => by decide
  | 87, _ => by decide
  | 88, _ => by decide
  | 89, _ => by decide
  | 90, _ => by decide
  | 91, _ => by decide
  | 92, _ => by decide
  | 93, _ => by decide
  | 94, _ => by decide
  | 95, _ => by decide
  | 96, _ => by decide
  | 97, _ => by decide
  | 98, _ => by decide
  | 99, _ => by decide
  | 100, _ => by decide
  | 101, _ => by decide
  | 102, _ => by decide
  | 103, _ => by decide
  | 104, _ => by decide
  | 105, _ => by decide
  | 106, _ => by decide
  | 107, _ => by decide
  | 108, _ => by decide
  | 109, _ => by decide
  | 110, _ => by decide
  | 111, _ => by decide
  | (k + 112), h => absurd h (by show ¬ false = true; decide)
theorem xcow_ok : ∀ {μ : Nat}, xcow μ = true → Jvm.Cond.codeWith (xmy μ) (xmb μ) (xml μ) (xmr μ) (xmh μ) ∈ xgw
  | 0, h => absurd h (by decide)
  | 1, h => absurd h (by decide)
  | 2, h => absurd h (by decide)
  | 3, h => absurd h (by decide)
  | 4, h => absurd h (by decide)
  | 5, h => absurd h (by decide)
  | 6, h => absurd h (by decide)
  | 7, h => absurd h (by decide)
  | 8, h => absurd h (by decide)
  | 9, h => absurd h (by decide)
  | 10, h => absurd h (by decide)
  | 11, h => absurd h (by decide)
  | 12, h => absurd h (by decide)
  | 13, h => absurd h (by decide)
  | 14, h => absurd h (by decide)
  | 15, h => absurd h (by decide)
  | 16, h => absurd h (by decide)
  | 17, h => absurd h (by decide)
  | 18, h => absurd h (by decide)
  | 19, h => absurd h (by decide)
  | 20, h => absurd h (by decide)
  | 21, h => absurd h (by decide)
  | 22, h => absurd h (by decide)
  | 23, h => absurd h (by decide)
  | 24, h => absurd h (by decide)
  | 25, h => absurd h (by decide)
  | 26, h => absurd h (by decide)
  | 27, h => absurd h (by decide)
  | 28, h => absurd h (by decide)
  | 29, h => absurd h (by decide)
  | 30, h => absurd h (by decide)
  | 31, h => absurd h (by decide)
  | 32, h => absurd h (by decide)
  | 33, h => absurd h (by decide)
  | 34, h => absurd h (by decide)
  | 35, h => absurd h (by decide)
  | 36, h => absurd h (by decide)
  | 37, h => absurd h (by decide)
  | 38, h => absurd h (by decide)
  | 39, h => absurd h (by decide)
  | 40, h => absurd h (by decide)
  | 41, h => absurd h (by decide)
  | 42, h => absurd h (by decide)
  | 43, h => absurd h (by decide)
  | 44, h => absurd h (by decide)
  | 45, h => absurd h (by decide)
  | 46, h => absurd h (by decide)
  | 47, h => absurd h (by decide)
  | 48, h => absurd h (by decide)
  | 49, h => absurd h (by decide)
  | 50, h => absurd h (by decide)
  | 51, h => absurd h (by decide)
  | 52, h => absurd h (by decide)
  | 53, h => absurd h (by decide)
  | 54, h => absurd h (by decide)
  | 55, h => absurd h (by decide)
  | 56, h => absurd h (by decide)
  | 57, h => absurd h (by decide)
  | 58, h => absurd h (by decide)
  | 59, h => absurd h (by decide)
  | 60, h => absurd h (by decide)
  | 61, h => absurd h (by decide)
  | 62, h => absurd h (by decide)
  | 63, h => absurd h (by decide)
  | 64, h => absurd h (by decide)
  | 65, h => absurd h (by decide)
  | 66, h => absurd h (by decide)
  | 67, h => absurd h (by decide)
  | 68, h => absurd h (by decide)
  | 69, h => absurd h (by decide)
  | 70, h => absurd h (by decide)
  | 71, h => absurd h (by decide)
  | 72, h => absurd h (by decide)
  | 73, h => absurd h (by decide)
  | 74, h => absurd h (by decide)
  | 75, h => absurd h (by decide)
  | 76, h => absurd h (by decide)
  | 77, h => absurd h (by decide)
  | 78, h => absurd h (by decide)
  | 79, h => absurd h (by decide)
  | 80, h => absurd h (by decide)
  | 81, h => absurd h (by decide)
  | 82, h => absurd h (by decide)
  | 83, h => absurd h (by decide)
  | 84, h => absurd h (by decide)
  | 85, h => absurd h (by decide)
  | 86, h => absurd h (by decide)
  | 87, h => absurd h (by decide)
  | 88, h => absurd h (by decide)
  | 89, h => absurd h (by decide)
  | 90, h => absurd h (by decide)
  | 91, h => absurd h (by decide)
  | 92, h => absurd h (by decide)
  | 93, h => absurd h (by decide)
  | 94, h => absurd h (by decide)
  | 95, h => absurd h (by decide)
  | 96, h => absurd h (by decide)
  | 97, h => absurd h (by decide)
  | 98, h => absurd h (by decide)
  | 99, h => absurd h (by decide)
  | 100, h => absurd h (by decide)
  | 101, h => absurd h (by decide)
  | 102, h => absurd h (by decide)
  | 103, h => absurd h (by decide)
  | 104, h => absurd h (by decide)
  | 105, h => absurd h (by decide)
  | 106, h => absurd h (by decide)
  | 107, h => absurd h (by decide)
  | 108, h => absurd h (by decide)
  | 109, h => absurd h (by decide)
  | 110, h => absurd h (by decide)
  | 111, h => absurd h (by decide)
  | (k + 112), h => absurd h (by show ¬ false = true; decide)
theorem xcow_lt : ∀ {μ : Nat}, xcow μ = true → μ < xNM
  | 0, _ => by decide
  | 1, _ => by decide
  | 2, _ => by decide
  | 3, _ => by decide
  | 4, _ => by decide
  | 5, _ => by decide
  | 6, _ => by decide
  | 7, _ => by decide
  | 8, _ => by decide
  | 9, _ => by decide
  | 10, _ => by decide
  | 11, _ => by decide
  | 12, _ => by decide
  | 13, _ => by decide
  | 14, _ => by decide
  | 15, _ => by decide
  | 16, _ => by decide
  | 17, _ => by decide
  | 18, _ => by decide
  | 19, _ => by decide
  | 20, _ => by decide
  | 21, _ => by decide
  | 22, _ => by decide
  | 23, _ => by decide
  | 24, _ => by decide
  | 25, _ => by decide
  | 26, _ => by decide
  | 27, _ => by decide
  | 28, _ => by decide
  | 29, _ => by decide
  | 30, _ => by decide
  | 31, _ => by decide
  | 32, _ => by decide
  | 33, _ => by decide
  | 34, _ => by decide
  | 35, _ => by decide
  | 36, _ => by decide
  | 37, _ => by decide
  | 38, _ => by decide
  | 39, _ => by decide
  | 40, _ => by decide
  | 41, _ => by decide
  | 42, _ => by decide
  | 43, _ => by decide
  | 44, _ => by decide
  | 45, _ => by decide
  | 46, _ => by decide
  | 47, _ => by decide
  | 48, _ => by decide
  | 49, _ => by decide
  | 50, _ => by decide
  | 51, _ => by decide
  | 52, _ => by decide
  | 53, _ => by decide
  | 54, _ => by decide
  | 55, _ => by decide
  | 56, _ => by decide
  | 57, _ => by decide
  | 58, _ => by decide
  | 59, _ => by decide
  | 60, _ => by decide
  | 61, _ => by decide
  | 62, _ => by decide
  | 63, _ => by decide
  | 64, _ => by decide
  | 65, _ => by decide
  | 66, _ => by decide
  | 67, _ => by decide
  | 68, _ => by decide
  | 69, _ => by decide
  | 70, _ => by decide
  | 71, _ => by decide
  | 72, _ => by decide
  | 73, _ => by decide
  | 74, _ => by decide
  | 75, _ => by decide
  | 76, _ => by decide
  | 77, _ => by decide
  | 78, _ => by decide
  | 79, _ => by decide
  | 80, _ => by decide
  | 81, _ => by decide
  | 82, _ => by decide
  | 83, _ => by decide
  | 84, _ => by decide
  | 85, _ => by decide
  | 86, _ => by decide
  | 87, _ => by decide
  | 88, _ => by decide
  | 89, _ => by decide
  | 90, _ => by decide
  | 91, _ => by decide
  | 92, _ => by decide
  | 93, _ => by decide
  | 94, _ => by decide
  | 95, _ => by decide
  | 96, _ => by decide
  | 97, _ => by decide
  | 98, _ => by decide
  | 99, _ => by decide
  | 100, _ => by decide
  | 101, _ => by decide
  | 102, _ => by decide
  | 103, _ => by decide
  | 104, _ => by decide
  | 105, _ => by decide
  | 106, _ => by decide
  | 107, _ => by decide
  | 108, _ => by decide
  | 109, _ => by decide
  | 110, _ => by decide
  | 111, _ => by decide
  | (k + 112), h => absurd h (by show ¬ false = true; decide)
end XCW
end
section
/-! what the tables say of calls, checked by program; the words that stay when the tables warm -/
section XCF
def xmetC (μ : Nat) : Bool := plainName (xmy μ).cls && decide ((xmy μ).cls ≠ "java/lang/invoke/MethodHandle") && decide ((xmy μ).cls ≠ "java/lang/invoke/VarHandle") && decide ((parseMethodDescriptor (xmy μ).desc).map (fun d => d.parameters.length) = some (xmn μ)) && decide (xown (xmo μ) = (xmy μ).cls) && (!xini μ || decide ((xmy μ).name = "<init>"))
set_option maxRecDepth 100000 in
theorem xmet_all : (List.range xNM).all (fun μ => !(xcod μ || xcow μ) || xmetC μ) = true := by decide +kernel
theorem xmet_ok {μ : Nat} (hcd : xcod μ = true ∨ xcow μ = true) : plainName (xmy μ).cls = true ∧ (xmy μ).cls ≠ "java/lang/invoke/MethodHandle" ∧ (xmy μ).cls ≠ "java/lang/invoke/VarHandle" ∧ (parseMethodDescriptor (xmy μ).desc).map (fun d => d.parameters.length) = some (xmn μ) ∧ xown (xmo μ) = (xmy μ).cls ∧ (xini μ = true → (xmy μ).name = "<init>") := by
  have h1 := List.all_eq_true.mp xmet_all μ (List.mem_range.mpr (hcd.elim xcod_lt xcow_lt))
  have hcd : (xcod μ || xcow μ) = true := by rw [Bool.or_eq_true]; exact hcd
  rw [hcd] at h1
  unfold xmetC at h1
  simp only [Bool.not_true, Bool.false_or, Bool.and_eq_true, decide_eq_true_eq, Bool.or_eq_true, Bool.not_eq_true'] at h1
  obtain ⟨⟨⟨⟨⟨a, b⟩, c⟩, d⟩, e⟩, f⟩ := h1
  refine ⟨a, b, c, d, e, fun hi => ?_⟩
  rcases f with f | f
  · rw [hi] at f; cases f
  · exact f
def xcalC (o : Nat) (q : Nat × Nat × Nat × Nat × Nat × Nat × Nat) : Bool :=
  let y := xmy q.2.2.1
  match q.2.1 with
  | 0 => xig (.methodLink (xown o) q.1 y) q.2.2.2.1 && xig (.instanceMethod y) q.2.2.2.2.1 && xig (.initialized y.cls) q.2.2.2.2.2.1
  | 1 => xig (.methodLink (xown o) q.1 y) q.2.2.2.1 && xig (.instanceMethod y) q.2.2.2.2.1 && xig (.selects y.cls y y) q.2.2.2.2.2.1 && xig (.initialized y.cls) q.2.2.2.2.2.2
  | 2 => xig (.methodLink (xown o) q.1 y) q.2.2.2.1 && xig (.static y) q.2.2.2.2.1 && xig (.initialized y.cls) q.2.2.2.2.2.1
  | 3 => xinw (.methodLinkNest (xown o) q.1 y (xhost o)) q.2.2.2.1 && xig (.static y) q.2.2.2.2.1 && xig (.initialized y.cls) q.2.2.2.2.2.1
  | 4 => xinw (.methodLinkNest (xown o) q.1 y (xhost o)) q.2.2.2.1 && xig (.instanceMethod y) q.2.2.2.2.1 && xig (.initialized y.cls) q.2.2.2.2.2.1
  | 6 => xig (.methodLink (xown o) q.1 objectInit) q.2.2.2.1 && xig (.instanceMethod objectInit) q.2.2.2.2.1 && xig (.code objectInit ⟨#[0xb1]⟩ 1 none) q.2.2.2.2.2.1
  | 7 => xig (.methodLink (xown o) q.1 Lib.Math.max.name) q.2.2.2.1 && xig (.static Lib.Math.max.name) q.2.2.2.2.1 && xig (.initialized "java/lang/Math") q.2.2.2.2.2.1 && xig (.code Lib.Math.max.name Lib.Math.max.code 2 (some .int)) q.2.2.2.2.2.2
  | 8 => xig (.methodLink (xown o) q.1 Lib.Math.min.name) q.2.2.2.1 && xig (.static Lib.Math.min.name) q.2.2.2.2.1 && xig (.initialized "java/lang/Math") q.2.2.2.2.2.1 && xig (.code Lib.Math.min.name Lib.Math.min.code 2 (some .int)) q.2.2.2.2.2.2
  | 9 => xig (.methodLink (xown o) q.1 Lib.Math.abs.name) q.2.2.2.1 && xig (.static Lib.Math.abs.name) q.2.2.2.2.1 && xig (.initialized "java/lang/Math") q.2.2.2.2.2.1 && xig (.code Lib.Math.abs.name Lib.Math.abs.code 1 (some .int)) q.2.2.2.2.2.2
  | 10 => xig (.methodLink (xown o) q.1 arraycopyName) q.2.2.2.1 && xig (.native arraycopyName) q.2.2.2.2.1 && xig (.static arraycopyName) q.2.2.2.2.2.1 && xig (.initialized "java/lang/System") q.2.2.2.2.2.2
  | _ => true
set_option maxRecDepth 100000 in
theorem xcal_all : ∀ o, o < xNO → (xcalT o).all (xcalC o) = true := by decide +kernel
theorem xcal_ok {o x : Nat} {r : Nat × Nat × Nat × Nat × Nat × Nat} (h : xfnd (xcalT o) x = some r) : xcalC o (x, r) = true := by
  have hm := xfnd_mem h
  by_cases ho : o < xNO
  · exact List.all_eq_true.mp (xcal_all o ho) _ hm
  · have : xcalT o = [] := by
      unfold xNO at ho
      unfold xcalT
      split <;> first | omega | rfl
    rw [this] at hm
    cases hm
set_option maxRecDepth 100000 in
theorem xcl_all : (List.range xNX).all (fun ci => match xcl[ci]? with | some (C, _, _) => decide (C = xown ci) | none => false) = true := by decide +kernel
theorem xcl_own {ci : Nat} {C : String} {T : u_T} {N : Nat} (hc : xcl[ci]? = some (C, T, N)) (h : ci < xNX) : C = xown ci := by
  have h1 := List.all_eq_true.mp xcl_all ci (List.mem_range.mpr h)
  rw [hc] at h1
  exact of_decide_eq_true h1
-- the interface's call
def xitfC (o : Nat) (q : Nat × Nat × Nat × Nat × Nat × Nat) : Bool :=
  let y := xmy q.2.1
  decide (y = ⟨"java/util/ArrayList", "size", "()I"⟩) && xal && xig (.methodLink (xown o) q.1 ⟨"java/util/List", "size", "()I"⟩) q.2.2.1 && xig (.selects "java/util/ArrayList" ⟨"java/util/List", "size", "()I"⟩ y) q.2.2.2.1 && xig (.instanceMethod y) q.2.2.2.2.1 && xig (.initialized y.cls) q.2.2.2.2.2
set_option maxRecDepth 100000 in
theorem xitf_all : ∀ o, o < xNO → (xitfT o).all (xitfC o) = true := by decide +kernel
theorem xitf_ok {o x : Nat} {r : Nat × Nat × Nat × Nat × Nat} (h : xfnd (xitfT o) x = some r) : xitfC o (x, r) = true := by
  have hm := xfnd_mem h
  by_cases ho : o < xNO
  · exact List.all_eq_true.mp (xitf_all o ho) _ hm
  · have : xitfT o = [] := by
      unfold xNO at ho
      unfold xitfT
      split <;> first | omega | rfl
    rw [this] at hm
    cases hm
def xgstC (o : Nat) (q : Nat × Nat) : Bool := xal && xig (.fieldLink (xown o) q.1 "java/util/ArrayList" "DEFAULTCAPACITY_EMPTY_ELEMENTDATA" "[Ljava/lang/Object;") q.2
set_option maxRecDepth 100000 in
theorem xgst_all : ∀ o, o < xNO → (xgstT o).all (xgstC o) = true := by decide +kernel
theorem xgst_ok {o x : Nat} {r : Nat} (h : xfnd (xgstT o) x = some r) : xgstC o (x, r) = true := by
  have hm := xfnd_mem h
  by_cases ho : o < xNO
  · exact List.all_eq_true.mp (xgst_all o ho) _ hm
  · have : xgstT o = [] := by
      unfold xNO at ho
      unfold xgstT
      split <;> first | omega | rfl
    rw [this] at hm
    cases hm
-- words that stay
theorem xAO_moved {t : FieldType} {u U : State} (hvm : u.vm.Alike U.vm) (h : va_Nw (.arrayOver (.array t)) u) : va_Nw (.arrayOver (.array t)) U := by
  unfold va_Nw Cond.before Cond.holds at h ⊢
  simp only [Cond.value, beq_iff_eq] at h ⊢
  rw [hvm.findClass]
  cases hc : u.vm.findClass (FieldType.array t).toString with
  | none => rw [hc] at h; simp at h
  | some comp =>
    rw [hc] at h
    simp only [Option.bind_some, Option.bind_eq_some_iff, Option.map_eq_some_iff] at h ⊢
    obtain ⟨c, hi, k, hk, hb⟩ := h
    obtain ⟨k', hk', he⟩ := hvm.2.2 _ _ hk
    refine ⟨c, ?_, k', hk', ?_⟩
    · have e1 := va_idx_bare U.vm comp
      have e2 := va_idx_bare u.vm comp
      have e3 : U.vm.bare = u.vm.bare := by first | exact hvm.bare_eq | exact hvm.bare_eq.symm
      rw [e3] at e1
      exact (e1.symm.trans e2).trans hi
    · rw [he]
      rw [hvm.findClass]
      exact hb
def xnwC (w : Jvm.Cond) : Bool := !xnwB w || (match w with
  | .arrayOver (.object _) => true
  | .arrayOver (.array _) => true
  | .arrayOver _ => false
  | _ => true)
set_option maxRecDepth 100000 in
theorem xnwC_all : lw_tbl.all xnwC = true := by decide +kernel
theorem xAO_only {t : FieldType} (h : Jvm.Cond.arrayOver t ∈ xnw) : (∃ C, t = .object C) ∨ ∃ t', t = .array t' := by
  obtain ⟨h1, h2⟩ := List.mem_filter.mp h
  have h3 := List.all_eq_true.mp xnwC_all _ h1
  cases t with
  | object C => exact Or.inl ⟨C, rfl⟩
  | array t => exact Or.inr ⟨t, rfl⟩
  | _ => cases h3
theorem xnw_warm {w : Jvm.Cond} (hw : w ∈ xnw) {s U : State} (hW : s.WarmedH U.vm) (h : va_Nw w s) : va_Nw w U := by
  have hb := (List.mem_filter.mp hw).2
  cases w with
  | fieldLinkNest => exact va_Nw.warmF hW h
  | methodLinkNest => exact va_Nw.warmM hW h
  | castable => exact va_Nw.warmC hW h
  | declares => exact va_Nw.warmD hW h
  | arrayOver t =>
    cases t with
    | object C => exact va_AO.moved hW.alike h
    | array t => exact xAO_moved hW.alike h
    | _ =>
      rcases xAO_only hw with ⟨_, q⟩ | ⟨_, q⟩ <;> cases q
  | _ => cases hb
end XCF
end
section
/-! one instruction: what the lists say, the machine does -/
section XQ
def xcell (D : va_G) (tA : Nat → ClassId) (ad : Nat → Nat) (a : Nat) (e : xE) (H : Heap) : Prop := if e.1 < 100 then va_at D xcl (a, .inr (e.1, e.2.map (xv ad))) H else H[a]? = some { cls := tA (e.1 - 100), slots := (e.2.map (xv ad)).toArray, vm := .none }
def xP (D : va_G) (tA : Nat → ClassId) (ad : Nat → Nat) (h : xH) (H : Heap) : Prop := ∀ (k : Nat) (e : xE), h[k]? = some e → xcell D tA ad (ad (k + 4)) e H
def xcomp : Nat → Nat
  | 3 => 0
  | 4 => 3
  | 5 => 2
  | _ => 0
def xK (D : va_G) (tA : Nat → ClassId) (U : State) : Prop := va_K D xcl [] U ∧ ∀ t, t < 6 → U.vm.findClass ("[" ++ (xtT t).toString) = some (tA t) ∧ ∃ (k : Class) (comp : ClassId), U.vm.classes[tA t]? = some k ∧ k.kind = .array comp (xtT t) ∧ (3 ≤ t → comp = tA (xcomp t))
def xX (sc : Option (List Int32)) (old : Nat → Nat) (n0 : Nat) (U : State) : Prop := match sc with
  | none => True
  | some l => va_X (old 0) l.length (fun j => l.getD j 0) U U.heap ∧ old 0 < n0
theorem xad_new (old : Nat → Nat) (n0 k : Nat) : xad old n0 (k + 4) = n0 + k := by
  unfold xad
  rw [if_neg (by omega), Nat.add_sub_cancel]
theorem xget_ok {h : xH} {a : Nat} {e : xE} (hg : xget h a = some e) : ∃ k, a = k + 4 ∧ h[k]? = some e := by
  unfold xget at hg
  cases hb : Nat.ble 4 a with
  | true =>
    rw [hb] at hg
    have := Nat.le_of_ble_eq_true hb
    exact ⟨a - 4, by omega, hg⟩
  | false =>
    rw [hb] at hg
    cases hg
theorem xcell_kept {D : va_G} {tA : Nat → ClassId} {ad : Nat → Nat} {a : Nat} {e : xE} {H H1 : Heap} (h : xcell D tA ad a e H) (hq : H1[a]? = H[a]?) : xcell D tA ad a e H1 := by
  unfold xcell at h ⊢
  split
  · rename_i hlt
    rw [if_pos hlt] at h
    exact va_at.kept h hq
  · rename_i hlt
    rw [if_neg hlt] at h
    rw [hq]
    exact h
theorem xP_arr {D : va_G} {tA : Nat → ClassId} {ad : Nat → Nat} {h : xH} {H : Heap} {a t : Nat} {vs : List Value} (hP : xP D tA ad h H) (hg : xget h a = some (t, vs)) (ht : 100 ≤ t) : H[ad a]? = some { cls := tA (t - 100), slots := (vs.map (xv ad)).toArray, vm := .none } := by
  obtain ⟨k, rfl, hk⟩ := xget_ok hg
  have := hP k _ hk
  unfold xcell at this
  rw [if_neg (by show ¬ t < 100; omega)] at this
  exact this
theorem xP_obj {D : va_G} {tA : Nat → ClassId} {ad : Nat → Nat} {h : xH} {H : Heap} {a t : Nat} {vs : List Value} (hP : xP D tA ad h H) (hg : xget h a = some (t, vs)) (ht : t < 100) : va_at D xcl (ad a, .inr (t, vs.map (xv ad))) H := by
  obtain ⟨k, rfl, hk⟩ := xget_ok hg
  have := hP k _ hk
  unfold xcell at this
  rw [if_pos (show t < 100 from ht)] at this
  exact this
theorem xP_set {D : va_G} {tA : Nat → ClassId} {old : Nat → Nat} {n0 a : Nat} {h : xH} {H H1 : Heap} {e e0 : xE} (hP : xP D tA (xad old n0) h H) (hg : xget h a = some e0) (h1 : xcell D tA (xad old n0) (xad old n0 a) e H1) (hq : ∀ q, q ≠ xad old n0 a → H1[q]? = H[q]?) : xP D tA (xad old n0) (xset h a e) H1 := by
  obtain ⟨k, rfl, hk⟩ := xget_ok hg
  intro j e9 hj
  unfold xset at hj
  rw [Nat.add_sub_cancel, List.getElem?_set] at hj
  by_cases hkj : k = j
  · subst hkj
    rw [if_pos rfl] at hj
    split at hj
    · cases hj
      exact h1
    · cases hj
  · rw [if_neg hkj] at hj
    exact xcell_kept (hP j e9 hj) (hq _ (by rw [xad_new, xad_new]; omega))
theorem xP_push {D : va_G} {tA : Nat → ClassId} {old : Nat → Nat} {n0 : Nat} {h : xH} {H H1 : Heap} {e : xE} (hP : xP D tA (xad old n0) h H) (hz : H.size = n0 + h.length) (h1 : xcell D tA (xad old n0) H.size e H1) (hq : ∀ q, q < H.size → H1[q]? = H[q]?) : xP D tA (xad old n0) (h ++ [e]) H1 := by
  intro j e9 hj
  by_cases hlt : j < h.length
  · rw [List.getElem?_append_left hlt] at hj
    exact xcell_kept (hP j e9 hj) (hq _ (by rw [xad_new]; omega))
  · rw [List.getElem?_append_right (by omega)] at hj
    have h0 : j - h.length < 1 := (List.getElem?_eq_some_iff.mp hj).1
    rw [show j - h.length = 0 by omega] at hj
    cases hj
    rw [xad_new, show n0 + j = H.size by omega]
    exact h1
theorem xfit (ty : FieldType) (ad : Nat → Nat) (v : Value) : fits ty (xv ad v) = fits ty v := by cases v <;> cases ty <;> rfl
theorem xnar {ty : FieldType} {ad : Nat → Nat} {v : Value} (h : narrow ty v = v) : narrow ty (xv ad v) = xv ad v := by
  cases v with
  | ref k => cases ty <;> rfl
  | _ => exact h
theorem xdl {cc : ByteArray} {pc n : Nat} {i : Instr} (h : ∃ len, decode cc pc = .ok (i, len) ∧ (xlen i = 0 ∨ len = xlen i)) (hn : xlen i = n + 1) : decode cc pc = .ok (i, n + 1) := by
  obtain ⟨len, h1, h2⟩ := h
  rcases h2 with h2 | h2
  · omega
  · rw [h1, h2, hn]
section
variable {p : Program} {l : Launch} {e : Env} {R : Room} {s : State} {m : MethodId} {args : Array Value} {below : List Frame} {meth : Method} {c : Code} {H : Heap} {locs : List Loc} {cells slots : Nat} {Q : State → Prop}
theorem xIsA {D : va_G} {tA : Nat → ClassId} {t : Nat} {sl : Array Value} (hK : xK D tA s) (ht : t < 6) : s.isArrayOf { cls := tA t, slots := sl, vm := .none } (xtT t) := by
  obtain ⟨-, k, comp, h1, h2, -⟩ := hK.2 t ht
  exact ⟨fun q h => by (cases h), k, h1, comp, h2⟩
/-- a field is written: plain, final in a constructor, or a nest mate's -/
theorem x_put {cc : ByteArray} {pc : Nat} {ls : Array Slot} {rest : List Value} {D : va_G} {tA : Nat → ClassId} {a o x ci k kd pp : Nat} {fs : List Value} {v : Value} {C : String} {T : u_T} {N : Nat}
    (hx : p.tables.exec = Jvm.exec) (hb : c.code = cc) (hown : s.vm.findClass (xown o) = some m.cls) (hts : ∀ w ∈ xgw, w.before args s = true) (hnw : ∀ w ∈ xnw, w.before args s = true) (hK : xK D tA s)
    (hc : xcl[ci]? = some (C, T, N)) (hl : xfnd (xfldT o) x = some (ci, k, kd, pp)) (hat : va_at D xcl (a, .inr (ci, fs)) H) (hkl : k < fs.length) (hn : narrow (xtyf ci k) v = v) (hfit : fits (xtyf ci k) v = true)
    (hfin : (T k).2.2.2 = false ∨ (meth.name = "<init>" ∧ kd = 0 ∧ (T k).1 = xown o)) (hdg : decode cc pc = .ok (.putfield x, 3))
    (kk : ∀ (H1 : Heap) (i : Nat), va_at D xcl (a, .inr (ci, fs.set k v)) H1 → H1.size = H.size → (∀ q, q ≠ a → H1[q]? = H[q]?) → W p l e R s m args below meth c H1 (locs ++ [⟨a, i⟩]) cells slots Q (F0 m (pc + 3) ls rest)) : W p l e R s m args below meth c H locs cells slots Q (F0 m pc ls (v :: .ref a :: rest)) := by
  obtain ⟨hin, hty, hnm, -, -⟩ := xcls_ok hc
  obtain ⟨C', T', N', hc', hk, hlink⟩ := xfld_ok hl
  cases hc.symm.trans hc'
  have hap := va_apart (own := xown o) hts hin (xtyf ci) hty hnm hK.1 hc
  obtain ⟨r, h1, cell, q1, q2, q3, q4⟩ := hat
  have hr : r = (C, T, N) := Option.some.inj (h1.symm.trans hc)
  subst hr
  obtain ⟨hS, hfc, kC, hkC, hkind⟩ := hK.1.1 ci _ hc
  obtain ⟨cf, kf, fi, f, hi, hsl⟩ := hS k hk
  have hlay := hts _ (hin _ (u_in_lay hk))
  unfold u_lay at hlay
  have hst := (u_facts hfc hkC (u_lays hts hin hk) hi).1
  have fin : ∀ H' : Heap, H'[a]? = some (cell.setSlot f.slot v) → H'.size = H.size → (∀ q, q ≠ a → H'[q]? = H[q]?) → W p l e R s m args below meth c H' (locs ++ [⟨a, f.slot⟩]) cells slots Q (F0 m (pc + 3) ls rest) := fun H' e1 e2 e3 => by
    rw [hsl] at e1 ⊢
    exact kk H' _ ⟨_, hc, t_OB.to (V := updV (vp_V fs) k v) ⟨_, e1, q2, q3, t_set q4 hap hk v⟩ (fun j _ => vp_updV_set hkl v j)⟩ e2 e3
  rcases hfin with hfin | ⟨hin2, hkd, hdecl⟩
  · rw [if_neg (by rw [hfin]; decide)] at hlay
    have h6 := u_store hfc hkC hkind hlay hi (hty k hk) hn hfit
    by_cases hkd : kd = 0
    · rw [if_pos hkd] at hlink
      exact W.putK hx hb (f := f) ⟨hown, hts _ hlink, ⟨_, _, _, hi⟩, hst⟩ (by rw [q2]; exact h6) q1 q3 (by rw [hsl]; exact k2_hasslot (q4 k hk)) rfl rfl hdg fin
    · rw [if_neg hkd] at hlink
      exact va_WputK hx hb (f := f) hown (hnw _ hlink) hi hst (by rw [q2]; exact h6) q1 q3 (by rw [hsl]; exact k2_hasslot (q4 k hk)) rfl rfl hdg fin
  · rw [if_pos hkd] at hlink
    by_cases hf : (T k).2.2.2 = true
    · rw [if_pos hf] at hlay
      have hcf : m.cls = cf := by
        obtain ⟨_, _, c', _, _, _, -, -, hf', -, -, -, hown2, -⟩ := Cond.laysFinal_spec hlay
        have e1 : c' = cf := by have := hi.symm.trans hf'; simp at this; exact this.1.symm
        rw [hdecl] at hown2
        rw [← e1]; exact Option.some.inj (hown.symm.trans hown2)
      have h6 := u_fits hfc hkC hkind (Or.inr hlay) hi (hty k hk) hn hfit
      exact W.putFinK hx hb hown (hts _ hlink) hi hst hcf hin2 (by rw [q2]; exact h6) q1 q3 (by rw [hsl]; exact k2_hasslot (q4 k hk)) rfl rfl hdg fin
    · rw [if_neg hf] at hlay
      have h6 := u_store hfc hkC hkind hlay hi (hty k hk) hn hfit
      exact W.putK hx hb (f := f) ⟨hown, hts _ hlink, ⟨_, _, _, hi⟩, hst⟩ (by rw [q2]; exact h6) q1 q3 (by rw [hsl]; exact k2_hasslot (q4 k hk)) rfl rfl hdg fin
/-- a field is read -/
theorem x_gf {cc : ByteArray} {pc : Nat} {ls : Array Slot} {rest : List Value} {D : va_G} {tA : Nat → ClassId} {a o x ci k kd pp : Nat} {fs : List Value} {v : Value}
    (hx : p.tables.exec = Jvm.exec) (hb : c.code = cc) (hown : s.vm.findClass (xown o) = some m.cls) (hts : ∀ w ∈ xgw, w.before args s = true) (hnw : ∀ w ∈ xnw, w.before args s = true) (hK : xK D tA s)
    (hl : xfnd (xfldT o) x = some (ci, k, kd, pp)) (hat : va_at D xcl (a, .inr (ci, fs)) H) (hv : fs[k]? = some v) (hdg : decode cc pc = .ok (.getfield x, 3))
    (kk : W p l e R s m args below meth c H locs cells slots Q (F0 m (pc + 3) ls (v :: rest))) : W p l e R s m args below meth c H locs cells slots Q (F0 m pc ls (.ref a :: rest)) := by
  obtain ⟨C, T, N, hc, hk, hlink⟩ := xfld_ok hl
  obtain ⟨hin, -⟩ := xcls_ok hc
  have hP : va_P D xcl [(a, .inr (ci, fs))] H := fun j q hj => by
    have h0 : j < 1 := (List.getElem?_eq_some_iff.mp hj).1
    rw [show j = 0 by omega] at hj
    cases hj
    exact hat
  by_cases hkd : kd = 0
  · rw [if_pos hkd] at hlink
    exact va_get (D := D) (ci := ci) (v := v) (C := C) (T := T) (N := N) hx hb hts hin hown hK.1 hP 0 rfl hc k hk (hts _ hlink) (fun _ h9 => h9) hv hdg kk
  · rw [if_neg hkd] at hlink
    exact va_getN (D := D) (ci := ci) (v := v) (C := C) (T := T) (N := N) hx hb hts hin hown hK.1 hP 0 rfl hc k hk (hnw _ hlink) (fun _ h9 => h9) hv hdg kk
end
/-- at this point of the lists' run the machine goes to Q -/
def xG (p : Program) (l : Launch) (e : Env) (R : Room) (s : State) (m : MethodId) (args : Array Value) (below : List Frame) (meth : Method) (c : Code) (Q : State → Prop) (D : va_G) (tA : Nat → ClassId) (old : Nat → Nat) (n0 hb kb nL : Nat) (pc : Nat) (lv : xL) (st : List Value) (h : xH) (ks : Nat) : Prop :=
  ∀ (H : Heap) (locs : List Loc) (ls : Array Slot), H.size = n0 + h.length → xP D tA (xad old n0) h H → va_S (fun q => n0 ≤ q) s.heap H locs → lv_has ls nL (xm (xad old n0) lv) →
    W p l e R s m args below meth c H locs (h.length - hb) (ks - kb) Q (F0 m pc ls (st.map (xv (xad old n0))))
end XQ
end
section
section XI0
theorem xdef_map (ci : Nat) (ad : Nat → Nat) : (xdef ci).map (xv ad) = xdef ci := by
  unfold xdef
  split <;> rfl
theorem xati_ok {aty : ArrayType} {t : Nat} (h : xati aty = some t) : newarray.typeOf aty = xtT t := by
  cases aty <;> simp only [xati, reduceCtorEq, Option.some.injEq] at h <;> subst h <;> rfl
theorem xati_lt {aty : ArrayType} {t : Nat} (h : xati aty = some t) : t < 3 := by
  cases aty <;> simp only [xati, reduceCtorEq, Option.some.injEq] at h <;> omega
theorem xdv_ok {t : Nat} (h : t < 3) : defaultValue (xtT t) = xdv t := by
  match t, h with
  | 0, _ => rfl
  | 1, _ => rfl
  | 2, _ => rfl
theorem xdv_map (ad : Nat → Nat) (t : Nat) : xv ad (xdv t) = xdv t := by
  unfold xdv
  split <;> rfl
theorem xget_ge {h : xH} {a : Nat} {e : xE} {old : Nat → Nat} {n0 : Nat} (hg : xget h a = some e) : n0 ≤ xad old n0 a := by
  obtain ⟨k9, e9, -⟩ := xget_ok hg
  rw [e9, xad_new]
  exact Nat.le_add_right _ _
theorem xtoI (n : Nat) : n.toInt32 = Int32.ofNat n := rfl
theorem xtT_ref {t : Nat} (h : 103 ≤ t ∧ t < 106) : (xtT (t - 100)).isReference = true := by
  obtain ⟨h1, h2⟩ := h
  rcases (show t = 103 ∨ t = 104 ∨ t = 105 by omega) with rfl | rfl | rfl <;> rfl
theorem xvI (ad : Nat → Nat) (x : Int32) : xv ad (.int x) = .int x := rfl
theorem xvL (ad : Nat → Nat) (x : Int64) : xv ad (.long x) = .long x := rfl
theorem xvR (ad : Nat → Nat) (x : Nat) : xv ad (.ref x) = .ref (ad x) := rfl
theorem xnarB (ad : Nat → Nat) (x : Int32) : xv ad (narrow .boolean (.int x)) = narrow .boolean (.int x) := rfl
theorem xcomp_ok {t t2 : Nat} (h : (t = 103 ∧ t2 = 100) ∨ (t = 104 ∧ t2 = 103) ∨ (t = 105 ∧ t2 = 102)) : t2 - 100 = xcomp (t - 100) := by
  rcases h with ⟨rfl, rfl⟩ | ⟨rfl, rfl⟩ | ⟨rfl, rfl⟩ <;> rfl
end XI0
/-! one instruction of the machine, out of one on lists -/
section XI
variable {p : Program} {l : Launch} {e : Env} {R : Room} {s : State} {m : MethodId} {args : Array Value} {below : List Frame} {meth : Method} {c : Code} {Q : State → Prop}
set_option maxHeartbeats 4000000 in
set_option maxRecDepth 100000 in
theorem x_step {cc : ByteArray} {D : va_G} {tA : Nat → ClassId} {old : Nat → Nat} {n0 hb kb nL o : Nat} {ini : Bool} {sc : Option (List Int32)} {i : Instr} {pc : Nat} {lv : xL} {st : List Value} {h : xH} {ks : Nat} {pc' : Nat} {lv' : xL} {st' : List Value} {h' : xH} {ks' : Nat}
    (hx : p.tables.exec = Jvm.exec) (hb9 : c.code = cc) (hown : s.vm.findClass (xown o) = some m.cls) (hts : ∀ w ∈ xgw, w.before args s = true) (hnw : ∀ w ∈ xnw, w.before args s = true) (hK : xK D tA s) (hX : xX sc old n0 s)
    (hini : ini = true → meth.name = "<init>") (hac : ∀ t, t < 3 → (Jvm.Cond.arrayClass (xtT t)).before args s = true) (hlb : hb ≤ h.length) (hkb : kb ≤ ks) (hn0 : n0 ≤ s.heap.size)
    (hd : ∃ len, decode cc pc = .ok (i, len) ∧ (xlen i = 0 ∨ len = xlen i))
    (he : xstep o nL ini sc i pc lv st h ks = some (pc', lv', st', h', ks'))
    (hRc : h'.length - hb ≤ R.cells) (hRs : ks' - kb ≤ R.slots)
    (kk : xG p l e R s m args below meth c Q D tA old n0 hb kb nL pc' lv' st' h' ks') : xG p l e R s m args below meth c Q D tA old n0 hb kb nL pc lv st h ks := by
  intro H locs ls hz hP hS hl
  cases i
  case iconst n =>
    have hd1 := xdl hd rfl
    simp only [xstep] at he
    cases he
    exact lv_iconst hx hb9 hd1 rfl (kk H locs ls hz hP hS hl)
  case bipush n =>
    have hd1 := xdl hd rfl
    simp only [xstep] at he
    cases he
    exact lv_bipush hx hb9 hd1 rfl (kk H locs ls hz hP hS hl)
  case sipush n =>
    have hd1 := xdl hd rfl
    simp only [xstep] at he
    cases he
    exact lv_sipush hx hb9 hd1 rfl (kk H locs ls hz hP hS hl)
  case lconst n =>
    have hd1 := xdl hd rfl
    simp only [xstep] at he
    cases he
    exact lv_lconst hx hb9 hd1 rfl (kk H locs ls hz hP hS hl)
  case aconst_null =>
    have hd1 := xdl hd rfl
    simp only [xstep] at he
    cases he
    exact lv_null hx hb9 hd1 (kk H locs ls hz hP hS hl)
  case dconst n =>
    have hd1 := xdl hd rfl
    simp only [xstep] at he
    cases he
    by_cases hn : n = 0
    · subst hn
      exact lv_dconst0 hx hb9 hd1 (kk H locs ls hz hP hS hl)
    · have : n = 1 := by omega
      subst this
      exact lv_dconst1 hx hb9 hd1 (kk H locs ls hz hP hS hl)
  case ldc x =>
    have hd1 := xdl hd rfl
    simp only [xstep] at he
    split at he
    · rename_i hf
      cases he
      exact lv_ldc hx hb9 hown (hts _ (xcon_ok hf)) hd1 (kk H locs ls hz hP hS hl)
    · cases he
  case ldc_w x =>
    have hd1 := xdl hd rfl
    simp only [xstep] at he
    split at he
    · rename_i hf
      cases he
      exact lv_ldcw hx hb9 hown (hts _ (xcon_ok hf)) hd1 (kk H locs ls hz hP hS hl)
    · cases he
  case ldc2_w x =>
    have hd1 := xdl hd rfl
    simp only [xstep] at he
    split at he
    · rename_i hf
      cases he
      exact lv_ldc2 hx hb9 hown (hts _ (xcol_ok hf)) hd1 (kk H locs ls hz hP hS hl)
    · cases he
  case iload_n k =>
    have hd1 := xdl hd rfl
    simp only [xstep] at he
    split at he
    · rename_i hf
      cases he
      exact lv_iload_n hx hb9 hd1 rfl (xlk_has hf hl) (kk H locs ls hz hP hS hl)
    · cases he
  case iload k =>
    have hd1 := xdl hd rfl
    simp only [xstep] at he
    split at he
    · rename_i hf
      cases he
      exact lv_iload hx hb9 hd1 (xlk_has hf hl) (kk H locs ls hz hP hS hl)
    · cases he
  case lload_n k =>
    have hd1 := xdl hd rfl
    simp only [xstep] at he
    split at he
    · rename_i hf
      cases he
      exact lv_lload_n hx hb9 hd1 rfl (xlk_has hf hl) (kk H locs ls hz hP hS hl)
    · cases he
  case lload k =>
    have hd1 := xdl hd rfl
    simp only [xstep] at he
    split at he
    · rename_i hf
      cases he
      exact lv_lload hx hb9 hd1 (xlk_has hf hl) (kk H locs ls hz hP hS hl)
    · cases he
  case dload k =>
    have hd1 := xdl hd rfl
    simp only [xstep] at he
    split at he
    · rename_i hf
      cases he
      exact lv_dload hx hb9 hd1 (xlk_has hf hl) (kk H locs ls hz hP hS hl)
    · cases he
  case aload_n k =>
    have hd1 := xdl hd rfl
    simp only [xstep] at he
    split at he
    · rename_i hf
      cases he
      exact lv_aload_n hx hb9 hd1 rfl (xlk_has hf hl) (kk H locs ls hz hP hS hl)
    · cases he
  case aload k =>
    have hd1 := xdl hd rfl
    simp only [xstep] at he
    split at he
    · rename_i hf
      cases he
      exact lv_aload hx hb9 hd1 (xlk_has hf hl) (kk H locs ls hz hP hS hl)
    · cases he
  case istore_n k =>
    have hd1 := xdl hd rfl
    simp only [xstep] at he
    split at he
    · split at he
      · rename_i hk
        cases he
        exact lv_istore_n hx hb9 hd1 rfl hl hk (xs1_m _ (.int _) lv (xad old n0)) (fun ls' hl' => kk H locs ls' hz hP hS hl')
      · cases he
    · cases he
  case istore k =>
    have hd1 := xdl hd rfl
    simp only [xstep] at he
    split at he
    · split at he
      · rename_i hk
        cases he
        exact lv_istore hx hb9 hd1 hl hk (xs1_m _ (.int _) lv (xad old n0)) (fun ls' hl' => kk H locs ls' hz hP hS hl')
      · cases he
    · cases he
  case astore_n k =>
    have hd1 := xdl hd rfl
    simp only [xstep] at he
    split at he
    · split at he
      · rename_i hk
        cases he
        exact lv_astore_n hx hb9 hd1 rfl hl hk (xs1_m _ (.ref _) lv (xad old n0)) (fun ls' hl' => kk H locs ls' hz hP hS hl')
      · cases he
    · cases he
  case astore k =>
    have hd1 := xdl hd rfl
    simp only [xstep] at he
    split at he
    · split at he
      · rename_i hk
        cases he
        exact lv_astore hx hb9 hd1 hl hk (xs1_m _ (.ref _) lv (xad old n0)) (fun ls' hl' => kk H locs ls' hz hP hS hl')
      · cases he
    · cases he
  case lstore_n k =>
    have hd1 := xdl hd rfl
    simp only [xstep] at he
    split at he
    · split at he
      · rename_i hk
        cases he
        exact lv_lstore_n hx hb9 hd1 rfl hl hk (xs2_m _ (.long _) lv (xad old n0)) (fun ls' hl' => kk H locs ls' hz hP hS hl')
      · cases he
    · cases he
  case lstore k =>
    have hd1 := xdl hd rfl
    simp only [xstep] at he
    split at he
    · split at he
      · rename_i hk
        cases he
        exact lv_lstore hx hb9 hd1 hl hk (xs2_m _ (.long _) lv (xad old n0)) (fun ls' hl' => kk H locs ls' hz hP hS hl')
      · cases he
    · cases he
  case dstore k =>
    have hd1 := xdl hd rfl
    simp only [xstep] at he
    split at he
    · split at he
      · rename_i hk
        cases he
        exact lv_dstore hx hb9 hd1 hl hk (xs2_m _ (.double _) lv (xad old n0)) (fun ls' hl' => kk H locs ls' hz hP hS hl')
      · cases he
    · cases he
  case iinc k n =>
    have hd1 := xdl hd rfl
    simp only [xstep] at he
    split at he
    · rename_i hf
      split at he
      · rename_i hk
        cases he
        obtain ⟨j, hj⟩ := xlk_at (ad := xad old n0) hf
        exact lv_iinc hx hb9 hd1 hl hj rfl hk (xs1_m _ (.int _) lv (xad old n0)) (fun ls' hl' => kk H locs ls' hz hP hS hl')
      · cases he
    · cases he
  case iadd =>
    have hd1 := xdl hd rfl
    simp only [xstep] at he
    split at he
    · cases he
      exact lv_iadd hx hb9 hd1 (kk H locs ls hz hP hS hl)
    · cases he
  case isub =>
    have hd1 := xdl hd rfl
    simp only [xstep] at he
    split at he
    · cases he
      exact lv_isub hx hb9 hd1 (kk H locs ls hz hP hS hl)
    · cases he
  case imul =>
    have hd1 := xdl hd rfl
    simp only [xstep] at he
    split at he
    · cases he
      exact lv_imul hx hb9 hd1 (kk H locs ls hz hP hS hl)
    · cases he
  case ineg =>
    have hd1 := xdl hd rfl
    simp only [xstep] at he
    split at he
    · cases he
      exact lv_ineg hx hb9 hd1 (kk H locs ls hz hP hS hl)
    · cases he
  case iand =>
    have hd1 := xdl hd rfl
    simp only [xstep] at he
    split at he
    · cases he
      exact lv_iand hx hb9 hd1 (kk H locs ls hz hP hS hl)
    · cases he
  case ior =>
    have hd1 := xdl hd rfl
    simp only [xstep] at he
    split at he
    · cases he
      exact lv_ior hx hb9 hd1 (kk H locs ls hz hP hS hl)
    · cases he
  case ixor =>
    have hd1 := xdl hd rfl
    simp only [xstep] at he
    split at he
    · cases he
      exact lv_ixor hx hb9 hd1 (kk H locs ls hz hP hS hl)
    · cases he
  case ishl =>
    have hd1 := xdl hd rfl
    simp only [xstep] at he
    split at he
    · cases he
      exact lv_ishl hx hb9 hd1 (kk H locs ls hz hP hS hl)
    · cases he
  case ishr =>
    have hd1 := xdl hd rfl
    simp only [xstep] at he
    split at he
    · cases he
      exact lv_ishr hx hb9 hd1 (kk H locs ls hz hP hS hl)
    · cases he
  case ladd =>
    have hd1 := xdl hd rfl
    simp only [xstep] at he
    split at he
    · cases he
      exact lv_ladd hx hb9 hd1 (kk H locs ls hz hP hS hl)
    · cases he
  case lmul =>
    have hd1 := xdl hd rfl
    simp only [xstep] at he
    split at he
    · cases he
      exact lv_lmul hx hb9 hd1 (kk H locs ls hz hP hS hl)
    · cases he
  case idiv =>
    have hd1 := xdl hd rfl
    simp only [xstep] at he
    split at he
    · split at he
      · cases he
      · rename_i hne
        cases he
        exact lv_idiv hx hb9 hd1 hne (kk H locs ls hz hP hS hl)
    · cases he
  case irem =>
    have hd1 := xdl hd rfl
    simp only [xstep] at he
    split at he
    · split at he
      · cases he
      · rename_i hne
        cases he
        exact lv_irem hx hb9 hd1 hne (kk H locs ls hz hP hS hl)
    · cases he
  case iushr =>
    have hd1 := xdl hd rfl
    simp only [xstep] at he
    split at he
    · cases he
      exact lv_iushr hx hb9 hd1 rfl (kk H locs ls hz hP hS hl)
    · cases he
  case i2l =>
    have hd1 := xdl hd rfl
    simp only [xstep] at he
    split at he
    · cases he
      exact lv_i2l hx hb9 hd1 rfl (kk H locs ls hz hP hS hl)
    · cases he
  case lcmp =>
    have hd1 := xdl hd rfl
    simp only [xstep] at he
    split at he
    · cases he
      exact W.lcmp hx hb9 hd1 (kk H locs ls hz hP hS hl)
    · cases he
  case dcmp op =>
    have hd1 := xdl hd rfl
    simp only [xstep] at he
    split at he
    · cases he
      exact lv_dcmp hx hb9 hd1 (kk H locs ls hz hP hS hl)
    · cases he
  case dup =>
    have hd1 := xdl hd rfl
    simp only [xstep] at he
    split at he
    · split at he
      · rename_i hc
        cases he
        exact lv_dup hx hb9 hd1 (by rw [xv_cat]; exact hc) (kk H locs ls hz hP hS hl)
      · cases he
    · cases he
  case pop =>
    have hd1 := xdl hd rfl
    simp only [xstep] at he
    split at he
    · split at he
      · rename_i hc
        cases he
        exact lv_pop hx hb9 hd1 (by rw [xv_cat]; exact hc) (kk H locs ls hz hP hS hl)
      · cases he
    · cases he
  case dup_x1 =>
    have hd1 := xdl hd rfl
    simp only [xstep] at he
    split at he
    · split at he
      · rename_i hc
        split at he
        · rename_i hc2
          cases he
          exact lv_dup_x1 hx hb9 hd1 (by rw [xv_cat]; exact hc) (by rw [xv_cat]; exact hc2) (kk H locs ls hz hP hS hl)
        · cases he
      · cases he
    · cases he
  case dup2 =>
    have hd1 := xdl hd rfl
    simp only [xstep] at he
    split at he
    · split at he
      · rename_i hc
        split at he
        · rename_i hc2
          cases he
          exact lv_dup2_11 hx hb9 hd1 (by rw [xv_cat]; exact hc) (by rw [xv_cat]; exact hc2) (kk H locs ls hz hP hS hl)
        · cases he
      · cases he
    · cases he
  case if_icmp cd off =>
    have hd1 := xdl hd rfl
    simp only [xstep] at he
    split at he
    · split at he
      · rename_i ht
        cases cd
        case eq =>
          refine lv_icmp_eq hx hb9 hd1 (xj_eq ht) (fun hc => ?_) (fun hc => ?_)
          · simp only [xcmp, hc, decide_true, decide_false, Bool.not_false, Bool.not_true, not_false_eq_true, cond_true, cond_false] at he
            cases he
            exact kk H locs ls hz hP hS hl
          · simp only [xcmp, hc, decide_true, decide_false, Bool.not_false, Bool.not_true, not_false_eq_true, cond_true, cond_false] at he
            cases he
            exact kk H locs ls hz hP hS hl
        case ne =>
          refine lv_icmp_ne hx hb9 hd1 (xj_eq ht) (fun hc => ?_) (fun hc => ?_)
          · simp only [xcmp, hc, decide_true, decide_false, Bool.not_false, Bool.not_true, not_false_eq_true, cond_true, cond_false] at he
            cases he
            exact kk H locs ls hz hP hS hl
          · simp only [xcmp, hc, decide_true, decide_false, Bool.not_false, Bool.not_true, not_false_eq_true, cond_true, cond_false] at he
            cases he
            exact kk H locs ls hz hP hS hl
        case lt =>
          refine lv_icmp_lt hx hb9 hd1 (xj_eq ht) (fun hc => ?_) (fun hc => ?_)
          · simp only [xcmp, hc, decide_true, decide_false, Bool.not_false, Bool.not_true, not_false_eq_true, cond_true, cond_false] at he
            cases he
            exact kk H locs ls hz hP hS hl
          · simp only [xcmp, hc, decide_true, decide_false, Bool.not_false, Bool.not_true, not_false_eq_true, cond_true, cond_false] at he
            cases he
            exact kk H locs ls hz hP hS hl
        case ge =>
          refine lv_icmp_ge hx hb9 hd1 (xj_eq ht) (fun hc => ?_) (fun hc => ?_)
          · simp only [xcmp, hc, decide_true, decide_false, Bool.not_false, Bool.not_true, not_false_eq_true, cond_true, cond_false] at he
            cases he
            exact kk H locs ls hz hP hS hl
          · simp only [xcmp, hc, decide_true, decide_false, Bool.not_false, Bool.not_true, not_false_eq_true, cond_true, cond_false] at he
            cases he
            exact kk H locs ls hz hP hS hl
        case gt =>
          refine lv_icmp_gt hx hb9 hd1 (xj_eq ht) (fun hc => ?_) (fun hc => ?_)
          · simp only [xcmp, hc, decide_true, decide_false, Bool.not_false, Bool.not_true, not_false_eq_true, cond_true, cond_false] at he
            cases he
            exact kk H locs ls hz hP hS hl
          · simp only [xcmp, hc, decide_true, decide_false, Bool.not_false, Bool.not_true, not_false_eq_true, cond_true, cond_false] at he
            cases he
            exact kk H locs ls hz hP hS hl
        case le =>
          refine lv_icmp_le hx hb9 hd1 (xj_eq ht) (fun hc => ?_) (fun hc => ?_)
          · simp only [xcmp, hc, decide_true, decide_false, Bool.not_false, Bool.not_true, not_false_eq_true, cond_true, cond_false] at he
            cases he
            exact kk H locs ls hz hP hS hl
          · simp only [xcmp, hc, decide_true, decide_false, Bool.not_false, Bool.not_true, not_false_eq_true, cond_true, cond_false] at he
            cases he
            exact kk H locs ls hz hP hS hl
      · cases he
    · cases he
  case ifCond cd off =>
    have hd1 := xdl hd rfl
    simp only [xstep] at he
    split at he
    · split at he
      · rename_i ht
        cases cd
        case eq =>
          refine lv_if_eq hx hb9 hd1 (xj_eq ht) (fun hc => ?_) (fun hc => ?_)
          · simp only [xcmp, hc, decide_true, decide_false, Bool.not_false, Bool.not_true, not_false_eq_true, cond_true, cond_false] at he
            cases he
            exact kk H locs ls hz hP hS hl
          · simp only [xcmp, hc, decide_true, decide_false, Bool.not_false, Bool.not_true, not_false_eq_true, cond_true, cond_false] at he
            cases he
            exact kk H locs ls hz hP hS hl
        case ne =>
          refine lv_if_ne hx hb9 hd1 (xj_eq ht) (fun hc => ?_) (fun hc => ?_)
          · simp only [xcmp, hc, decide_true, decide_false, Bool.not_false, Bool.not_true, not_false_eq_true, cond_true, cond_false] at he
            cases he
            exact kk H locs ls hz hP hS hl
          · simp only [xcmp, hc, decide_true, decide_false, Bool.not_false, Bool.not_true, not_false_eq_true, cond_true, cond_false] at he
            cases he
            exact kk H locs ls hz hP hS hl
        case lt =>
          refine lv_if_lt hx hb9 hd1 (xj_eq ht) (fun hc => ?_) (fun hc => ?_)
          · simp only [xcmp, hc, decide_true, decide_false, Bool.not_false, Bool.not_true, not_false_eq_true, cond_true, cond_false] at he
            cases he
            exact kk H locs ls hz hP hS hl
          · simp only [xcmp, hc, decide_true, decide_false, Bool.not_false, Bool.not_true, not_false_eq_true, cond_true, cond_false] at he
            cases he
            exact kk H locs ls hz hP hS hl
        case ge =>
          refine lv_if_ge hx hb9 hd1 (xj_eq ht) (fun hc => ?_) (fun hc => ?_)
          · simp only [xcmp, hc, decide_true, decide_false, Bool.not_false, Bool.not_true, not_false_eq_true, cond_true, cond_false] at he
            cases he
            exact kk H locs ls hz hP hS hl
          · simp only [xcmp, hc, decide_true, decide_false, Bool.not_false, Bool.not_true, not_false_eq_true, cond_true, cond_false] at he
            cases he
            exact kk H locs ls hz hP hS hl
        case gt =>
          refine lv_if_gt hx hb9 hd1 (xj_eq ht) (fun hc => ?_) (fun hc => ?_)
          · simp only [xcmp, hc, decide_true, decide_false, Bool.not_false, Bool.not_true, not_false_eq_true, cond_true, cond_false] at he
            cases he
            exact kk H locs ls hz hP hS hl
          · simp only [xcmp, hc, decide_true, decide_false, Bool.not_false, Bool.not_true, not_false_eq_true, cond_true, cond_false] at he
            cases he
            exact kk H locs ls hz hP hS hl
        case le =>
          refine lv_if_le hx hb9 hd1 (xj_eq ht) (fun hc => ?_) (fun hc => ?_)
          · simp only [xcmp, hc, decide_true, decide_false, Bool.not_false, Bool.not_true, not_false_eq_true, cond_true, cond_false] at he
            cases he
            exact kk H locs ls hz hP hS hl
          · simp only [xcmp, hc, decide_true, decide_false, Bool.not_false, Bool.not_true, not_false_eq_true, cond_true, cond_false] at he
            cases he
            exact kk H locs ls hz hP hS hl
      · cases he
    · cases he
  case goto off =>
    have hd1 := xdl hd rfl
    simp only [xstep] at he
    split at he
    · rename_i ht
      cases he
      exact lv_goto hx hb9 hd1 (xj_eq ht) (kk H locs ls hz hP hS hl)
    · cases he
  case tableswitch d lo hi offs =>
    obtain ⟨len, hd1, -⟩ := hd
    simp only [xstep] at he
    split at he
    · split at he
      · rename_i hlo
        split at he
        · rename_i ht
          cases he
          exact lv_tableOut hx hb9 hd1 (Or.inl hlo) (xj_eq ht) (kk H locs ls hz hP hS hl)
        · cases he
      · rename_i hlo
        split at he
        · rename_i hhi
          split at he
          · rename_i ht
            cases he
            exact lv_tableOut hx hb9 hd1 (Or.inr hhi) (xj_eq ht) (kk H locs ls hz hP hS hl)
          · cases he
        · rename_i hhi
          split at he
          · rename_i ho
            split at he
            · rename_i ht
              cases he
              exact lv_tableIn hx hb9 hd1 hlo hhi ho (xj_eq ht) (kk H locs ls hz hP hS hl)
            · cases he
          · cases he
    · cases he
  case lookupswitch d ps =>
    obtain ⟨len, hd1, -⟩ := hd
    simp only [xstep] at he
    split at he
    · cases hq : (ps.toList.zip (ps.toList.drop 1)).all (fun (a, next) => a.1 < next.1) with
      | false => rw [hq] at he; cases he
      | true =>
        rw [hq] at he
        simp only [cond_true] at he
        split at he
        · rename_i ht
          cases he
          exact lv_lookup hx hb9 hd1 hq rfl (xj_eq ht) (kk H locs ls hz hP hS hl)
        · cases he
    · cases he
  case getfield x =>
    have hd1 := xdl hd rfl
    simp only [xstep] at he
    split at he
    · split at he
      · rename_i hf
        split at he
        · rename_i hg
          split at he
          · rename_i hci
            split at he
            · rename_i hv
              cases he
              subst hci
              obtain ⟨C, T, N, hc, -, -⟩ := xfld_ok hf
              have hlt : _ < 100 := Nat.lt_of_lt_of_le (List.getElem?_eq_some_iff.mp hc).1 (by decide)
              exact x_gf hx hb9 hown hts hnw hK hf (xP_obj hP hg hlt) (by rw [List.getElem?_map, hv]; rfl) hd1 (kk H locs ls hz hP hS hl)
            · cases he
          · cases he
        · cases he
      · cases he
    · cases he
  case putfield x =>
    have hd1 := xdl hd rfl
    simp only [xstep] at he
    split at he
    · split at he
      · rename_i hf
        split at he
        · rename_i hg
          split at he
          · rename_i hc
            split at he
            · rename_i hcnd
              obtain ⟨hci, hkl, hn, hfit, hfin⟩ := hcnd
              cases he
              subst hci
              have hlt : _ < 100 := Nat.lt_of_lt_of_le (List.getElem?_eq_some_iff.mp hc).1 (by decide)
              refine x_put hx hb9 hown hts hnw hK hc hf (xP_obj hP hg hlt) (by rw [List.length_map]; exact hkl) (xnar hn) (by rw [xfit]; exact hfit) (hfin.imp id (fun q => ⟨hini q.1, q.2⟩)) hd1 (fun H1 i9 h1 h2 h3 => ?_)
              have hge := xget_ge (old := old) (n0 := n0) hg
              have hk := kk H1 (locs ++ [⟨_, i9⟩]) ls (by rw [h2, hz]; unfold xset; rw [List.length_set]) (xP_set hP hg (by unfold xcell; rw [if_pos hlt]; rw [← List.map_set] at h1; exact h1) h3) (hS.put h2 h3 hge) hl
              unfold xset at hk
              rw [List.length_set] at hk
              exact hk
            · cases he
          · cases he
        · cases he
      · cases he
    · cases he
  case new x =>
    have hd1 := xdl hd rfl
    simp only [xstep] at he
    split at he
    · rename_i ci r hf
      split at he
      · rename_i C T N hc
        split at he
        · rename_i hN
          cases he
          obtain ⟨w1, w2, w3⟩ := xnew_ok hf hc hN
          obtain ⟨hin, hty, -, hdf, hdl⟩ := xcls_ok hc
          have hKn := hK.1.1 _ _ hc
          have hlt : _ < 100 := Nat.lt_of_lt_of_le (List.getElem?_eq_some_iff.mp hc).1 (by decide)
          rw [List.length_append, List.length_singleton] at hRc
          refine W.newcK hx hb9 hown (hts _ w1) (hts _ w2) (hts _ w3) rfl hd1 (by omega) (by omega) hKn.2.1 rfl fun H1 kC hkC e1 z1 o1 => ?_
          have hk := kk H1 locs ls (by rw [z1, hz, List.length_append, List.length_singleton]; omega) (xP_push hP hz (by
              unfold xcell
              rw [if_pos hlt]
              show va_at D xcl (H.size, .inr (ci, (xdef ci).map (xv (xad old n0)))) H1
              rw [xdef_map]
              exact ⟨_, hc, (u_born _ hts hin hKn hkC e1 hty).to hdf⟩) o1) ⟨Nat.le_trans hS.1 (by omega), fun q h1 h2 => (o1 q (Nat.lt_of_lt_of_le h1 hS.1)).trans (hS.2.1 q h1 h2), hS.2.2⟩ hl
          rw [List.length_append, List.length_singleton, show h.length + 1 - hb = h.length - hb + 1 by omega, show ks + N - kb = ks - kb + N by omega] at hk
          simp only [List.map_cons, xv] at hk
          rw [xad_new, ← hz] at hk
          exact hk
        · cases he
      · cases he
    · cases he
  case newarray aty =>
    have hd1 := xdl hd rfl
    simp only [xstep] at he
    split at he
    · rename_i n st1
      split at he
      · rename_i t hf
        split at he
        · cases he
        · rename_i hn
          split at he
          · rename_i hby
            cases he
            rw [List.length_append, List.length_singleton] at hRc
            have hty := xati_ok hf
            have ht3 := xati_lt hf
            refine W.newa hx hb9 (by rw [hty]; exact hac _ ht3) rfl hd1 rfl hn (by rw [hty]; exact hby) (by omega) (by omega) fun cA kA comp f1 f2 f3 => ?_
            have ecA : cA = tA t := by
              have := (hK.2 t (by omega)).1
              rw [hty] at f1
              exact Option.some.inj (f1.symm.trans this)
            have hk := kk (H.push { cls := cA, slots := Array.replicate n.toNatClampNeg (defaultValue (newarray.typeOf aty)), vm := .none }) locs ls (by rw [Array.size_push, hz, List.length_append, List.length_singleton]; omega) (xP_push hP hz (by
                unfold xcell
                rw [if_neg (by omega), Nat.add_sub_cancel_left, ← ecA, hty, xdv_ok ht3, List.map_replicate, xdv_map, List.toArray_replicate]
                simp) (fun q hq => by rw [Array.getElem?_push, if_neg (Nat.ne_of_lt hq)])) ⟨Nat.le_trans hS.1 (by rw [Array.size_push]; omega), fun q h1 h2 => by rw [Array.getElem?_push, if_neg (by have := hS.1; omega)]; exact hS.2.1 q h1 h2, hS.2.2⟩ hl
            rw [List.length_append, List.length_singleton, show h.length + 1 - hb = h.length - hb + 1 by omega, show ks + n.toNatClampNeg - kb = ks - kb + n.toNatClampNeg by omega] at hk
            simp only [List.map_cons, xv] at hk
            rw [xad_new, ← hz] at hk
            exact hk
          · cases he
      · cases he
    · cases he
  case arraylength =>
    have hd1 := xdl hd rfl
    simp only [xstep] at he
    split at he
    · split at he
      · rename_i hg
        split at he
        · rename_i ht
          cases he
          exact W.alen hx hb9 (xP_arr hP hg ht.1) (xIsA hK (by omega)) (by simp [xtoI]) rfl rfl hd1 (kk H locs ls hz hP hS hl)
        · cases he
      · split at he
        · rename_i hg
          split at he
          · rename_i ha
            cases he
            subst ha
            exact va_slen hx hb9 hX.1 (Nat.lt_of_lt_of_le hX.2 hn0) (Nat.not_le.mpr hX.2) hS hd1 (kk H locs ls hz hP hS hl)
          · cases he
        · cases he
    · cases he
  case iaload =>
    have hd1 := xdl hd rfl
    simp only [xstep] at he
    split at he
    · split at he
      · rename_i hg
        split at he
        · rename_i ht
          subst ht
          split at he
          · rename_i hi
            split at he
            · rename_i hv
              cases he
              obtain ⟨hin, hik⟩ := xix_in hi
              exact W.iald hx hb9 (xP_arr hP hg (by omega)) (xIsA (t := 0) hK (by omega)) (by intro q; cases q) (by simpa using hin) (by simp [hik, hv]) rfl rfl hd1 (kk H locs ls hz hP hS hl)
            · cases he
          · cases he
        · cases he
      · split at he
        · split at he
          · rename_i ha
            split at he
            · rename_i hi
              cases he
              subst ha
              obtain ⟨hin, hik⟩ := xix_in hi
              subst hik
              exact va_sld hx hb9 hX.1 (Nat.lt_of_lt_of_le hX.2 hn0) (Nat.not_le.mpr hX.2) hS hin hd1 (kk H locs ls hz hP hS hl)
            · cases he
          · cases he
        · cases he
    · cases he
  case baload =>
    have hd1 := xdl hd rfl
    simp only [xstep] at he
    split at he
    · split at he
      · rename_i hg
        split at he
        · rename_i ht
          subst ht
          split at he
          · rename_i hi
            split at he
            · rename_i hv
              cases he
              obtain ⟨hin, hik⟩ := xix_in hi
              exact W.zald hx hb9 (xP_arr hP hg (by omega)) (xIsA (t := 2) hK (by omega)) (by intro q; cases q) (by simpa using hin) (by simp [hik, hv]) rfl rfl hd1 (kk H locs ls hz hP hS hl)
            · cases he
          · cases he
        · cases he
      · cases he
    · cases he
  case aaload =>
    have hd1 := xdl hd rfl
    simp only [xstep] at he
    split at he
    · split at he
      · rename_i hg
        split at he
        · rename_i ht
          split at he
          · rename_i hi
            split at he
            · rename_i hv
              cases he
              obtain ⟨hin, hik⟩ := xix_in hi
              exact W.aald hx hb9 (xP_arr hP hg (by omega)) (xIsA hK (by omega)) (xtT_ref ht) (by intro q; cases q) (by simpa using hin) (by simp [hik, hv]) rfl rfl hd1 (kk H locs ls hz hP hS hl)
            · cases he
          · cases he
        · cases he
      · cases he
    · cases he
  case iastore =>
    have hd1 := xdl hd rfl
    simp only [xstep] at he
    split at he
    · rename_i v x a st1
      split at he
      · rename_i hg
        split at he
        · rename_i ht
          subst ht
          split at he
          · rename_i hi
            cases he
            obtain ⟨hin, hik⟩ := xix_in hi
            have hge := xget_ge (old := old) (n0 := n0) hg
            refine W.iast hx hb9 (xP_arr hP hg (by omega)) (xIsA (t := 0) hK (by omega)) (by intro q; cases q) (by simpa using hin) rfl rfl hd1 fun H1 h1 h2 h3 => ?_
            have hk := kk H1 (locs ++ [⟨_, x.toNatClampNeg⟩]) ls (by rw [h2, hz]; unfold xset; rw [List.length_set]) (xP_set hP hg (by
              unfold xcell
              rw [if_neg (by show ¬ (100 : Nat) < 100; omega), h1]
              simp only [List.map_set, xnarB, xvI, xvL]
              simp [Cell.setSlot, hik]) h3) (hS.put h2 h3 hge) hl
            unfold xset at hk
            rw [List.length_set] at hk
            exact hk
          · cases he
        · cases he
      · cases he
    · cases he
  case bastore =>
    have hd1 := xdl hd rfl
    simp only [xstep] at he
    split at he
    · rename_i v x a st1
      split at he
      · rename_i hg
        split at he
        · rename_i ht
          subst ht
          split at he
          · rename_i hi
            cases he
            obtain ⟨hin, hik⟩ := xix_in hi
            have hge := xget_ge (old := old) (n0 := n0) hg
            refine W.zast hx hb9 (xP_arr hP hg (by omega)) (xIsA (t := 2) hK (by omega)) (by intro q; cases q) (by simpa using hin) rfl rfl hd1 fun H1 h1 h2 h3 => ?_
            have hk := kk H1 (locs ++ [⟨_, x.toNatClampNeg⟩]) ls (by rw [h2, hz]; unfold xset; rw [List.length_set]) (xP_set hP hg (by
              unfold xcell
              rw [if_neg (by show ¬ (102 : Nat) < 100; omega), h1]
              simp only [List.map_set, xnarB, xvI, xvL]
              simp [Cell.setSlot, hik]) h3) (hS.put h2 h3 hge) hl
            unfold xset at hk
            rw [List.length_set] at hk
            exact hk
          · cases he
        · cases he
      · cases he
    · cases he
  case aastore =>
    have hd1 := xdl hd rfl
    simp only [xstep] at he
    split at he
    · rename_i v x a st1
      split at he
      · rename_i t vs t2 vs2 hg hg2
        split at he
        · rename_i ht
          split at he
          · rename_i hi
            cases he
            obtain ⟨hin, hik⟩ := xix_in hi
            have hge := xget_ge (old := old) (n0 := n0) hg
            have ht1 : 103 ≤ t ∧ t < 106 := ⟨by omega, by omega⟩
            obtain ⟨-, kA, comp, k1, k2, k3⟩ := hK.2 (t - 100) (by omega)
            have hcomp := k3 (by omega)
            obtain ⟨-, kB, compB, b1, -, -⟩ := hK.2 (xcomp (t - 100)) (by unfold xcomp; split <;> omega)
            have he2 : t2 - 100 = xcomp (t - 100) := xcomp_ok ht
            refine W.aast hx hb9 (xP_arr hP hg (by omega)) (by intro q h; cases h) (by intro h; cases h) k1 k2 (xtT_ref ht1) (by rw [hcomp]; exact b1) ⟨fun q => hin (Or.inl q), by have := fun q => hin (Or.inr q); simpa using this⟩ (xP_arr hP hg2 (by omega)) (by intro q h; cases h) (by rw [he2]; exact b1) (by rw [hcomp, he2]; exact va_asg _ _) rfl rfl hd1 fun H1 h1 h2 h3 => ?_
            have hk := kk H1 (locs ++ [⟨_, x.toNatClampNeg⟩]) ls (by rw [h2, hz]; unfold xset; rw [List.length_set]) (xP_set hP hg (by
              unfold xcell
              rw [if_neg (by show ¬ t < 100; omega), h1]
              simp only [List.map_set, xvR]
              simp [Cell.setSlot, hik]) h3) (hS.put h2 h3 hge) hl
            unfold xset at hk
            rw [List.length_set] at hk
            exact hk
          · cases he
        · cases he
      · cases he
    · cases he
  all_goals (simp only [xstep, reduceCtorEq] at he)
end XI
end
section
/-! a run on lists: instruction by instruction, call by call -/
section XO
/-- how a run ends: the class thrown, if one was; the answer; the cells; how many slots were made -/
abbrev xO : Type := Option Nat × Option Value × xH × Nat
def xexit (μ : Nat) (i : Instr) (st : List Value) : Option (Option Value) := match i, st with
  | .ireturn, [.int v] => match xmr μ with
    | some t => if narrow t (.int v) = .int v then some (some (.int v)) else none
    | none => none
  | .lreturn, [.long v] => if xmr μ = some .long then some (some (.long v)) else none
  | .dreturn, [.double v] => if xmr μ = some .double then some (some (.double v)) else none
  | .areturn, [.ref a] => match xmr μ with
    | some (.object _) => some (some (.ref a))
    | some (.array _) => some (some (.ref a))
    | _ => none
  | .return_, [] => if xmr μ = none then some none else none
  | _, _ => none
def xinv (o μ x : Nat) (st : List Value) : Option (Nat × Nat × List Value × List Value) := match xfnd (xcalT o) x with
  | some (k, μ', _) =>
    if xmn μ' ≤ st.length then
      if k = 2 ∨ k = 3 then
        if ((st.drop (xmn μ')).map fun v => v.category).sum ≤ 8 ∧ xmf μ' + 1 ≤ xmf μ ∧ 8 + (xml μ' + 11) + xmlo μ' ≤ xmlo μ then some (k, μ', (st.take (xmn μ')).reverse, st.drop (xmn μ')) else none
      else match st.drop (xmn μ') with
        | .ref b :: rest => if (rest.map fun v => v.category).sum ≤ 8 ∧ xmf μ' + 1 ≤ xmf μ ∧ 8 + (xml μ' + 11) + xmlo μ' ≤ xmlo μ then some (k, μ', .ref b :: (st.take (xmn μ')).reverse, rest) else none
        | _ => none
    else none
  | none => none
/-- Math's own -/
def xmath (o μ x : Nat) (st : List Value) : Option (Int32 × List Value) := match xfnd (xcalT o) x with
  | some (7, _) => match st with
    | .int y :: .int x :: rest => if (rest.map fun v => v.category).sum + 13 ≤ xmlo μ ∧ 1 ≤ xmf μ then some (if x < y then y else x, rest) else none
    | _ => none
  | some (8, _) => match st with
    | .int y :: .int x :: rest => if (rest.map fun v => v.category).sum + 13 ≤ xmlo μ ∧ 1 ≤ xmf μ then some (if y < x then y else x, rest) else none
    | _ => none
  | some (9, _) => match st with
    | .int x :: rest => if (rest.map fun v => v.category).sum + 13 ≤ xmlo μ ∧ 1 ≤ xmf μ then some (if 0 ≤ x then x else 0 - x, rest) else none
    | _ => none
  | _ => none
def xisI : Value → Bool
  | .int _ => true
  | _ => false
/-- System.arraycopy of ints, the first ones onto the first ones -/
def xcpy (o μ x : Nat) (st : List Value) (h : xH) : Option (List Value × xH) := match xfnd (xcalT o) x with
  | some (10, _) => match st with
    | .int n :: .int z1 :: .ref b :: .int z0 :: .ref a :: rest => match xget h a, xget h b with
      | some (t0, us), some (t1, vs) => if t0 = 100 ∧ t1 = 100 ∧ z0 = 0 ∧ z1 = 0 ∧ ¬ n < 0 ∧ n.toNatClampNeg ≤ us.length ∧ n.toNatClampNeg ≤ vs.length ∧ us.all xisI = true ∧ (rest.map fun v => v.category).sum + 18 ≤ xmlo μ ∧ 1 ≤ xmf μ then some (rest, xset h b (100, us.take n.toNatClampNeg ++ vs.drop n.toNatClampNeg)) else none
      | _, _ => none
    | _ => none
  | _ => none
/-- a row of rows of ints, of none -/
def xanw (o x : Nat) (st : List Value) : Option (List Value) := match xfnd (xmulT o) x with
  | some (0, _) => match st with
    | .int n :: rest => if n = 0 then some rest else none
    | _ => none
  | _ => none
/-- the rows of outer arrays -/
def xmk2 (t n k lab : Nat) : xH := (100 + (if t = 0 then 3 else 5), (List.range n).map (fun i => Value.ref (lab + 1 + i))) :: List.replicate n (100 + t, List.replicate k (xdv t))
def xmk3 (n k r lab : Nat) : xH := (104, (List.range n).map (fun i => Value.ref (lab + 1 + i * (1 + k)))) :: (List.range n).flatMap (fun i => xmk2 0 k r (lab + 1 + i * (1 + k)))
def xmul (o x dm : Nat) (st : List Value) (lab : Nat) : Option (List Value × xH × Nat) := match xfnd (xmulT o) x with
  | some (t, _) =>
    if dm = 2 ∧ (t = 3 ∨ t = 5) then match st with
      | .int k :: .int n :: rest => if n < 0 ∨ k < 0 ∨ 1000 < n ∨ 1000 < k then none else some (rest, xmk2 (xcomp t) n.toNatClampNeg k.toNatClampNeg lab, n.toNatClampNeg + n.toNatClampNeg * k.toNatClampNeg)
      | _ => none
    else if dm = 3 ∧ t = 4 then match st with
      | .int r :: .int k :: .int n :: rest => if n < 0 ∨ k < 0 ∨ r < 0 ∨ 1000 < n ∨ 1000 < k ∨ 1000 < r then none else some (rest, xmk3 n.toNatClampNeg k.toNatClampNeg r.toNatClampNeg lab, n.toNatClampNeg + n.toNatClampNeg * (k.toNatClampNeg + k.toNatClampNeg * r.toNatClampNeg))
      | _ => none
    else none
  | none => none
def xrecv (μ' : Nat) (as : List Value) (h : xH) : Bool := match as with
  | .ref b :: _ => match xget h b with
    | some (ci, _) => decide (ci = xmo μ') && Nat.blt ci xNX
    | none => false
  | _ => false
/-- the one is not the other -/
def xnc (ci ci' : Nat) : Bool := match xcl[ci]?, xcl[ci']? with
  | some (C, _, _), some (C', _, _) => xncT.any (fun z => decide (z.1 = C) && decide (z.2 = C'))
  | _, _ => false
/-- the handler of a class thrown at pc -/
def xhnd (o pc ci : Nat) : List (Nat × Nat × Nat × Nat) → Option Nat
  | [] => none
  | (s, e, hp, ct) :: r => if s ≤ pc ∧ pc < e then (match xfnd (xnewT o) ct with
      | some (ci', _) => if ci' = ci then some hp else if xnc ci ci' = true then xhnd o pc ci r else none
      | none => none) else xhnd o pc ci r
def xctch (o μ pc ci : Nat) (cod : List (Option Instr)) : Option (Nat × Nat × Nat) := match xhnd o pc ci (xmh μ) with
  | some hp => match cod[hp]? with
    | some (some (.astore_n k)) => some (hp, hp + 1, k)
    | some (some (.astore k)) => some (hp, hp + 2, k)
    | _ => none
  | none => none
def xdel (i : Nat) (lv : xL) : xL := lv.filter (fun q => !(q.1 == i) && !(q.1 + 1 == i && q.2.category == 2))
/-- the run of one method, by fuel; 'call' runs the others -/
def xloop (call : Nat → List Value → xH → Nat → Option xO) (sc : Option (List Int32)) (μ o nL : Nat) (ini : Bool) (cod : List (Option Instr)) : Nat → Nat → xL → List Value → xH → Nat → Option xO
  | 0, _, _, _, _, _ => none
  | n + 1, pc, lv, st, h, ks => match cod[pc]? with
    | some (some i) => match i with
      | .ireturn => match xexit μ .ireturn st with | some r => some (none, r, h, ks) | none => none
      | .lreturn => match xexit μ .lreturn st with | some r => some (none, r, h, ks) | none => none
      | .dreturn => match xexit μ .dreturn st with | some r => some (none, r, h, ks) | none => none
      | .areturn => match xexit μ .areturn st with | some r => some (none, r, h, ks) | none => none
      | .return_ => match xexit μ .return_ st with | some r => some (none, r, h, ks) | none => none
      | .invokestatic x => match xmath o μ x st with
        | some (v, rest) => xloop call sc μ o nL ini cod n (pc + 3) lv (.int v :: rest) h ks
        | none => match xinv o μ x st with
          | some (k, μ', as, rest) => if k = 2 then (match call μ' as h ks with
              | some (none, r, h', ks') => xloop call sc μ o nL ini cod n (pc + 3) lv (r.toList ++ rest) h' ks'
              | some (some t, _, h', ks') => if xcod μ' = true then (if xmh μ = [] then some (some t, none, h', ks') else (match xctch o μ pc t cod with
                | some (_, pc', j) => if j < nL then xloop call sc μ o nL ini cod n pc' (xdel j lv) [] h' ks' else none
                | none => none)) else none
              | none => none) else if k = 3 ∧ xcod μ' = true then (match call μ' as h ks with
              | some (none, r, h', ks') => xloop call sc μ o nL ini cod n (pc + 3) lv (r.toList ++ rest) h' ks'
              | _ => none) else none
          | none => match xcpy o μ x st h with
            | some (rest, h') => xloop call sc μ o nL ini cod n (pc + 3) lv rest h' ks
            | none => none
      | .invokevirtual x => match xinv o μ x st with
        | some (k, μ', as, rest) => if k = 1 ∧ xrecv μ' as h = true ∧ xcod μ' = true then (match call μ' as h ks with
            | some (none, r, h', ks') => xloop call sc μ o nL ini cod n (pc + 3) lv (r.toList ++ rest) h' ks'
            | some (some t, _, h', ks') => if xmh μ = [] then some (some t, none, h', ks') else (match xctch o μ pc t cod with
              | some (_, pc', j) => if j < nL then xloop call sc μ o nL ini cod n pc' (xdel j lv) [] h' ks' else none
              | none => none)
            | none => none) else none
        | none => none
      | .invokespecial x => match xfnd (xcalT o) x with
        | some (6, _) => match st with
          | .ref _ :: rest => if (rest.map fun v => v.category).sum + 12 ≤ xmlo μ ∧ 1 ≤ xmf μ then xloop call sc μ o nL ini cod n (pc + 3) lv rest h ks else none
          | _ => none
        | _ => match xinv o μ x st with
          | some (k, μ', as, rest) => if (k = 0 ∨ k = 4) ∧ xmr μ' = none ∧ xini μ' = true ∧ xcod μ' = true then (match call μ' as h ks with
              | some (none, r, h', ks') => xloop call sc μ o nL ini cod n (pc + 3) lv (r.toList ++ rest) h' ks'
              | _ => none) else none
          | none => none
      | .getstatic x => match xfnd (xgstT o) x with
        | some _ => xloop call sc μ o nL ini cod n (pc + 3) lv (.ref 1 :: st) h ks
        | none => none
      | .invokeinterface x _ => match xfnd (xitfT o) x with
        | some (μ', _) => match st with
          | .ref b :: rest => if (rest.map fun v => v.category).sum ≤ 8 ∧ xmf μ' + 1 ≤ xmf μ ∧ 8 + (xml μ' + 11) + xmlo μ' ≤ xmlo μ ∧ xrecv μ' [.ref b] h = true ∧ xcod μ' = true then (match call μ' [.ref b] h ks with
              | some (none, r, h', ks') => xloop call sc μ o nL ini cod n (pc + 5) lv (r.toList ++ rest) h' ks'
              | _ => none) else none
          | _ => none
        | none => none
      | .multianewarray x dm => match xmul o x dm st (h.length + 4) with
        | some (rest, es, sl) => xloop call sc μ o nL ini cod n (pc + 4) lv (.ref (h.length + 4) :: rest) (h ++ es) (ks + sl)
        | none => none
      | .anewarray x => match xanw o x st with
        | some rest => xloop call sc μ o nL ini cod n (pc + 3) lv (.ref (h.length + 4) :: rest) (h ++ [(103, [])]) ks
        | none => none
      | .new x => match xfnd (xthrT μ) pc with
        | some (ci, _) => (match st with
          | [] => if xmh μ = [] then some (some ci, none, h ++ [(ci, [])], ks + 6) else none
          | _ => none)
        | none => match xstep o nL ini sc (.new x) pc lv st h ks with
          | some (pc', lv', st', h', ks') => xloop call sc μ o nL ini cod n pc' lv' st' h' ks'
          | none => none
      | i => match xstep o nL ini sc i pc lv st h ks with
        | some (pc', lv', st', h', ks') => xloop call sc μ o nL ini cod n pc' lv' st' h' ks'
        | none => none
    | _ => none
/-- a call, by the depth of calls; 'F' is the fuel of each -/
def xcall (F : Nat) (sc : Option (List Int32)) : Nat → Nat → List Value → xH → Nat → Option xO
  | 0, _, _, _, _ => none
  | d + 1, μ, as, h, ks => if (xcod μ = true ∨ xcow μ = true) ∧ (lg_sl as).length ≤ xml μ then xloop (xcall F sc d) sc μ (xmo μ) (xml μ) (xini μ) (xmc μ) F 0 (lv_args 0 as) [] h ks else none
end XO
end
section
/-! a run on lists grows -/
section XMO
set_option maxHeartbeats 4000000 in
theorem xstep_mono {o nL : Nat} {ini : Bool} {sc : Option (List Int32)} {i : Instr} {pc : Nat} {lv : xL} {st : List Value} {h : xH} {ks : Nat} {pc' : Nat} {lv' : xL} {st' : List Value} {h' : xH} {ks' : Nat}
    (he : xstep o nL ini sc i pc lv st h ks = some (pc', lv', st', h', ks')) : h.length ≤ h'.length ∧ ks ≤ ks' := by
  unfold xstep at he
  simp only [Bool.cond_eq_ite] at he
  repeat' split at he
  all_goals first
    | (cases he; exact ⟨Nat.le_refl _, Nat.le_refl _⟩)
    | (cases he; simp only [xset, List.length_set, List.length_append, List.length_singleton]; omega)
    | cases he
theorem xcpy_len {o μ x : Nat} {st rest : List Value} {h h' : xH} (hm : xcpy o μ x st h = some (rest, h')) : h'.length = h.length := by
  unfold xcpy at hm
  repeat' split at hm
  all_goals first
    | (cases hm; done)
    | (cases hm; simp [xset])
theorem xloop_mono {call : Nat → List Value → xH → Nat → Option xO} (hcall : ∀ μ as h ks out, call μ as h ks = some out → h.length ≤ out.2.2.1.length ∧ ks ≤ out.2.2.2) {sc : Option (List Int32)} {μ o nL : Nat} {ini : Bool} {cod : List (Option Instr)} :
    ∀ (n pc : Nat) (lv : xL) (st : List Value) (h : xH) (ks : Nat) (out : xO), xloop call sc μ o nL ini cod n pc lv st h ks = some out → h.length ≤ out.2.2.1.length ∧ ks ≤ out.2.2.2 := by
  intro n
  induction n with
  | zero => intro pc lv st h ks out he; cases he
  | succ n ih =>
    intro pc lv st h ks out he
    have down : ∀ (pc' : Nat) (lv' : xL) (st' : List Value) (h' : xH) (ks' : Nat), h.length ≤ h'.length → ks ≤ ks' → xloop call sc μ o nL ini cod n pc' lv' st' h' ks' = some out → h.length ≤ out.2.2.1.length ∧ ks ≤ out.2.2.2 := fun pc' lv' st' h' ks' a b q => by
      have := ih pc' lv' st' h' ks' out q
      exact ⟨Nat.le_trans a this.1, Nat.le_trans b this.2⟩
    unfold xloop at he
    split at he
    · split at he
      · split at he
        · cases he; exact ⟨Nat.le_refl _, Nat.le_refl _⟩
        · cases he
      · split at he
        · cases he; exact ⟨Nat.le_refl _, Nat.le_refl _⟩
        · cases he
      · split at he
        · cases he; exact ⟨Nat.le_refl _, Nat.le_refl _⟩
        · cases he
      · split at he
        · cases he; exact ⟨Nat.le_refl _, Nat.le_refl _⟩
        · cases he
      · split at he
        · cases he; exact ⟨Nat.le_refl _, Nat.le_refl _⟩
        · cases he
      · split at he
        · exact down _ _ _ _ _ (Nat.le_refl _) (Nat.le_refl _) he
        · split at he
          · split at he
            · split at he
              · rename_i hc
                have := hcall _ _ _ _ _ hc
                exact down _ _ _ _ _ this.1 this.2 he
              · rename_i hc
                have := hcall _ _ _ _ _ hc
                split at he
                · split at he
                  · cases he
                    exact this
                  · split at he
                    · split at he
                      · exact down _ _ _ _ _ this.1 this.2 he
                      · cases he
                    · cases he
                · cases he
              · cases he
            · split at he
              · split at he
                · rename_i hc
                  have := hcall _ _ _ _ _ hc
                  exact down _ _ _ _ _ this.1 this.2 he
                · cases he
              · cases he
          · split at he
            · rename_i hc
              exact down _ _ _ _ _ (Nat.le_of_eq (xcpy_len hc).symm) (Nat.le_refl _) he
            · cases he
      · split at he
        · split at he
          · split at he
            · rename_i hc
              have := hcall _ _ _ _ _ hc
              exact down _ _ _ _ _ this.1 this.2 he
            · rename_i hc
              have := hcall _ _ _ _ _ hc
              split at he
              · cases he
                exact this
              · split at he
                · split at he
                  · exact down _ _ _ _ _ this.1 this.2 he
                  · cases he
                · cases he
            · cases he
          · cases he
        · cases he
      · split at he
        · split at he
          · split at he
            · exact down _ _ _ _ _ (Nat.le_refl _) (Nat.le_refl _) he
            · cases he
          · cases he
        · split at he
          · split at he
            · split at he
              · rename_i hc
                have := hcall _ _ _ _ _ hc
                exact down _ _ _ _ _ this.1 this.2 he
              · cases he
            · cases he
          · cases he
      · split at he
        · exact down _ _ _ _ _ (Nat.le_refl _) (Nat.le_refl _) he
        · cases he
      · split at he
        · split at he
          · split at he
            · split at he
              · rename_i hc
                have := hcall _ _ _ _ _ hc
                exact down _ _ _ _ _ this.1 this.2 he
              · cases he
            · cases he
          · cases he
        · cases he
      · split at he
        · exact down _ _ _ _ _ (by rw [List.length_append]; exact Nat.le_add_right _ _) (Nat.le_add_right _ _) he
        · cases he
      · split at he
        · exact down _ _ _ _ _ (by rw [List.length_append]; exact Nat.le_add_right _ _) (Nat.le_refl _) he
        · cases he
      · split at he
        · split at he
          · split at he
            · cases he
              exact ⟨by rw [List.length_append]; exact Nat.le_add_right _ _, Nat.le_add_right _ _⟩
            · cases he
          · cases he
        · split at he
          · rename_i hs
            have := xstep_mono hs
            exact down _ _ _ _ _ this.1 this.2 he
          · cases he
      · split at he
        · rename_i hs
          have := xstep_mono hs
          exact down _ _ _ _ _ this.1 this.2 he
        · cases he
    · cases he
theorem xcall_mono {F : Nat} {sc : Option (List Int32)} : ∀ (d μ : Nat) (as : List Value) (h : xH) (ks : Nat) (out : xO), xcall F sc d μ as h ks = some out → h.length ≤ out.2.2.1.length ∧ ks ≤ out.2.2.2 := by
  intro d
  induction d with
  | zero => intro μ as h ks out he; cases he
  | succ d ih =>
    intro μ as h ks out he
    unfold xcall at he
    split at he
    · exact xloop_mono ih _ _ _ _ _ _ _ he
    · cases he
end XMO
end
section
/-! a method: what its run on lists says, the machine does -/
section XLP
set_option maxRecDepth 100000 in
theorem xcodw_all : (List.range xNM).all (fun μ => !(xcod μ && xcow μ)) = true := by decide +kernel
/-- the statics that a throw reads, the texts it takes -/
abbrev xLs : MethodName := ⟨"java/util/List", "size", "()I"⟩
abbrev xAs : MethodName := ⟨"java/util/ArrayList", "size", "()I"⟩
def xZ (old : Nat → Nat) (n0 : Nat) (U : State) : Prop := vx_Zq Bundle.tN "UNASSIGNED_STACK" Bundle.steD (fun q => n0 ≤ q) U U.heap ∧ vx_Zq Bundle.tN "SUPPRESSED_SENTINEL" Bundle.listD (fun q => n0 ≤ q) U U.heap ∧ (∀ q ∈ xstrT, ∃ sa, vk_R (xown q.1) q.2.1 q.2.2 sa U) ∧ (∀ q ∈ xncT, va_Nc q.1 q.2 U) ∧
  (xal = true → va_Z "java/util/ArrayList" "DEFAULTCAPACITY_EMPTY_ELEMENTDATA" "[Ljava/lang/Object;" (.ref (old 1)) (fun q => n0 ≤ q) U U.heap ∧ va_Fw "java/util/ArrayList" xLs xAs U)
def xPc (D : va_G) (tA : Nat → ClassId) (old : Nat → Nat) (n0 : Nat) (sc : Option (List Int32)) (h : xH) (U : State) : Prop :=
  U.heap.size = n0 + h.length ∧ xP D tA (xad old n0) h U.heap ∧ xK D tA U ∧ (∀ w ∈ xnw, va_Nw w U) ∧ xX sc old n0 U ∧ xZ old n0 U
def xQc (D : va_G) (tA : Nat → ClassId) (old : Nat → Nat) (n0 : Nat) (out : xO) : Array Value → State → Outcome → State → Prop := fun _ st oc t =>
  (out.1 = none ∧ oc = .returned (out.2.1.map (xv (xad old n0))) ∧ t.heap.size = n0 + out.2.2.1.length ∧ xP D tA (xad old n0) out.2.2.1 t.heap) ∧ va_F (fun q => n0 ≤ q) st t
def xXc (D : va_G) (tA : Nat → ClassId) (old : Nat → Nat) (n0 : Nat) (out : xO) : String → State → State → Prop := fun E st t =>
  ((∃ (ci : Nat) (C : String) (T : u_T) (N : Nat), out.1 = some ci ∧ xcl[ci]? = some (C, T, N) ∧ E = C) ∧ t.heap.size = n0 + out.2.2.1.length ∧ xP D tA (xad old n0) out.2.2.1 t.heap) ∧ va_F (fun q => n0 ≤ q) st t
def xws (μ : Nat) : List Jvm.Cond := (if xcow μ = true then .codeWith (xmy μ) (xmb μ) (xml μ) (xmr μ) (xmh μ) else .code (xmy μ) (xmb μ) (xml μ) (xmr μ)) :: xgw
def xMet (l : Launch) (D : va_G) (tA : Nat → ClassId) (old : Nat → Nat) (n0 : Nat) (sc : Option (List Int32)) (μ : Nat) (as : List Value) (h : xH) (ks : Nat) (out : xO) : Prop :=
  vx_Met l (xmy μ) (xws μ) ({ frames := xmf μ, cells := out.2.2.1.length - h.length, slots := out.2.2.2 - ks, locals := xmlo μ } : Room) (va_Pc (as.map (xv (xad old n0))) (xPc D tA old n0 sc h)) (xQc D tA old n0 out) (xXc D tA old n0 out) (out.2.2.1.length - h.length) (out.2.2.2 - ks) (fun q => n0 ≤ q)
theorem xnw_of {w : Jvm.Cond} (hw : w ∈ xnw) {A : Array Value} {U : State} (h : w.before A U = true) : va_Nw w U := by
  have hb := (List.mem_filter.mp hw).2
  cases w with
  | fieldLinkNest => exact va_Nw.of rfl h
  | methodLinkNest => exact va_Nw.of rfl h
  | castable => exact va_Nw.of rfl h
  | declares => exact va_Nw.of rfl h
  | arrayOver t => exact h
  | _ => cases hb
theorem xnw_use {w : Jvm.Cond} (hw : w ∈ xnw) {A : Array Value} {U : State} (h : va_Nw w U) : w.before A U = true := by
  have hb := (List.mem_filter.mp hw).2
  cases w with
  | fieldLinkNest => exact va_Nw.use rfl h
  | methodLinkNest => exact va_Nw.use rfl h
  | castable => exact va_Nw.use rfl h
  | declares => exact va_Nw.use rfl h
  | arrayOver t => exact h
  | _ => cases hb
theorem xGood {L : List Jvm.Cond} (h : ∀ w ∈ L, w ∈ xgw) : GoodIn xgw L := fun w hw => ⟨h w hw, good_of_word (xgood (h w hw))⟩
theorem xcodw {μ : Nat} (h : xcod μ = true) : ¬ xcow μ = true := by
  intro h2
  have h1 := List.all_eq_true.mp xcodw_all μ (List.mem_range.mpr (xcod_lt h))
  rw [h, h2] at h1
  cases h1
theorem xws_c {μ : Nat} (h : xcod μ = true) : xws μ = .code (xmy μ) (xmb μ) (xml μ) (xmr μ) :: xgw := by
  unfold xws
  rw [if_neg (xcodw h)]
theorem xws_w {μ : Nat} (h : xcow μ = true) : xws μ = .codeWith (xmy μ) (xmb μ) (xml μ) (xmr μ) (xmh μ) :: xgw := by
  unfold xws
  rw [if_pos h]
theorem xws_in {μ : Nat} (h : xcod μ = true ∨ xcow μ = true) : ∀ w ∈ xws μ, w ∈ xgw := fun w hw => by
  rcases h with h | h
  · rw [xws_c h] at hw
    exact (List.mem_cons.mp hw).elim (fun e => e ▸ xcod_ok h) id
  · rw [xws_w h] at hw
    exact (List.mem_cons.mp hw).elim (fun e => e ▸ xcow_ok h) id
theorem xK_moved {D : va_G} {tA : Nat → ClassId} {u U : State} (hvm : u.vm.Alike U.vm) (h : xK D tA u) : xK D tA U := by
  refine ⟨va_K.moved hvm h.1, fun t ht => ?_⟩
  obtain ⟨h1, k, comp, h2, h3, h4⟩ := h.2 t ht
  obtain ⟨k', hk', he⟩ := hvm.2.2 _ _ h2
  exact ⟨by rw [hvm.findClass]; exact h1, k', comp, hk', by rw [he]; exact h3, h4⟩
theorem xX_moved {sc : Option (List Int32)} {old : Nat → Nat} {n0 : Nat} {u U : State} (hvm : u.vm.Alike U.vm) (hq : ∀ q : Nat, q < n0 → U.heap[q]? = u.heap[q]?) (h : xX sc old n0 u) : xX sc old n0 U := by
  cases sc with
  | none => trivial
  | some l => exact ⟨va_X.moved hvm (va_X.kept h.1 (hq _ h.2)), h.2⟩
theorem xZ_moved {old : Nat → Nat} {n0 : Nat} {u U : State} (hW : u.WarmedH U.vm) (hq : ∀ q : Nat, q < u.heap.size → ¬ n0 ≤ q → U.heap[q]? = u.heap[q]?) (h : xZ old n0 u) : xZ old n0 U :=
  ⟨vx_Zq.moved hW.alike (h.1.kept hq), vx_Zq.moved hW.alike (h.2.1.kept hq), fun q hm => (h.2.2.1 q hm).imp fun sa hs => vk_R.warm hW hs, fun q hm => va_Nc.moved hW.alike (h.2.2.2.1 q hm), fun ha => ⟨va_Z.moved hW.alike ((h.2.2.2.2 ha).1.kept hq), va_Fw.moved (by decide) hW.alike (h.2.2.2.2 ha).2⟩⟩
theorem xPc_blind {D : va_G} {tA : Nat → ClassId} {old : Nat → Nat} {n0 : Nat} {sc : Option (List Int32)} {h : xH} {av : List Value} : FrameBlind (va_Pc av (xPc D tA old n0 sc h)) := by
  intro a U g mk q
  obtain ⟨q0, q1, q2, q3, q4, q5, q6⟩ := q
  exact ⟨q0, q1, q2, xK_moved (u := U) (U := U.calling g mk a) (Vm.Alike.refl U.vm) q3, fun w hw => xnw_warm hw (s := U) (U := U.calling g mk a) (State.WarmedH.refl U) (q4 w hw), xX_moved (u := U) (U := U.calling g mk a) (Vm.Alike.refl U.vm) (fun _ _ => rfl) q5, xZ_moved (u := U) (U := U.calling g mk a) (State.WarmedH.refl U) (fun _ _ _ => rfl) q6⟩
theorem xcat_m (ad : Nat → Nat) (l : List Value) : ((l.map (xv ad)).map fun v => v.category).sum = (l.map fun v => v.category).sum := by
  rw [List.map_map]
  congr 1
  exact List.map_congr_left fun v _ => xv_cat ad v
theorem xstk {st r : List Value} {n : Nat} {f : Value → Value} (h : st.drop n = r) : st.map f = (((st.take n).reverse).map f).reverse ++ r.map f := by
  rw [← h, List.map_reverse, List.reverse_reverse, ← List.map_append, List.take_append_drop]
section
variable {p : Program} {l : Launch} {e : Env} {R : Room} {s : State} {m : MethodId} {args : Array Value} {below : List Frame} {meth : Method} {c : Code} {H : Heap} {locs : List Loc} {cells slots : Nat} {Q : State → Prop}
/-- the callee's start, out of the caller's -/
theorem xPc_at {D : va_G} {tA : Nat → ClassId} {old : Nat → Nat} {n0 : Nat} {sc : Option (List Int32)} {h : xH} (hnw : ∀ w ∈ xnw, w.before args s = true) (hK : xK D tA s) (hX : xX sc old n0 s) (hZ : xZ old n0 s) (hn0 : n0 ≤ s.heap.size)
    (hz : H.size = n0 + h.length) (hP : xP D tA (xad old n0) h H) (hS : va_S (fun q => n0 ≤ q) s.heap H locs) (U : State) (hU : U.heap = H) (hW : s.WarmedH U.vm) : xPc D tA old n0 sc h U := by
  subst hU
  refine ⟨hz, hP, xK_moved hW.alike hK, fun w hw => xnw_warm hw hW ?_, xX_moved hW.alike (fun q hq => hS.2.1 q (Nat.lt_of_lt_of_le hq hn0) (Nat.not_le.mpr hq)) hX, xZ_moved hW hS.2.1 hZ⟩
  exact xnw_of hw (hnw w hw)
/-- a call that returns -/
theorem x_cret {D : va_G} {tA : Nat → ClassId} {old : Nat → Nat} {n0 mc ms pc : Nat} {ls : Array Slot} {st0 rest : List Value} {a : Array Value} {out : xO} {h' : xH} {ks' : Nat} {r : Option Value}
    (hr : vx_Run p l e R s m args below meth c H locs cells slots mc ms (F0 m pc ls st0) rest (xQc D tA old n0 out a) (xXc D tA old n0 out) (fun q => n0 ≤ q)) (ho : out = (none, r, h', ks')) (hS : va_S (fun q => n0 ≤ q) s.heap H locs)
    (kk : ∀ (H1 : Heap) (locs1 : List Loc), H1.size = n0 + h'.length → xP D tA (xad old n0) h' H1 → va_S (fun q => n0 ≤ q) s.heap H1 locs1 → W p l e R s m args below meth c H1 locs1 (cells + mc) (slots + ms) Q (F0 m (pc + 3) ls ((r.toList ++ []).map (xv (xad old n0)) ++ rest))) : W p l e R s m args below meth c H locs cells slots Q (F0 m pc ls st0) := by
  subst ho
  intro T hT X
  rcases hr T hT X with ⟨v, st₀, t, T', L, h0, X', hL, e1, e2, ⟨⟨-, hv, hsz, hp⟩, hF⟩, st⟩ | ⟨q, st₀, t, T', L, E, ce, h0, X', hL, e1, e2, ⟨⟨⟨ci, C, T9, N, hx1, -⟩, -⟩, -⟩, -⟩
  · obtain ⟨k1, k2, k3⟩ := vx_keep h0 e1 hS (fun _ _ h => h) (fun _ h => h) hL hF
    obtain ⟨t2, a1, b1⟩ := kk T'.heap (locs ++ L) (by rw [e1]; exact hsz) (by rw [e1]; exact hp) k3 T' rfl X'
    refine ⟨t2, st t2 ?_, b1⟩
    have hv : v = r.map (xv (xad old n0)) := Outcome.returned.inj hv
    subst hv
    have e : (r.toList ++ []).map (xv (xad old n0)) ++ rest = (r.map (xv (xad old n0))).toList ++ rest := by cases r <;> rfl
    rw [e] at a1
    exact a1
  · cases hx1
/-- a call that throws: it goes on to the caller -/
theorem x_cthr {D : va_G} {tA : Nat → ClassId} {old : Nat → Nat} {n0 mc ms mc2 ms2 pc : Nat} {ls : Array Slot} {st0 rest : List Value} {a : Array Value} {out : xO} {h' : xH} {ks' ci : Nat} {r : Option Value}
    (hr : vx_Run p l e R s m args below meth c H locs cells slots mc ms (F0 m pc ls st0) rest (xQc D tA old n0 out a) (xXc D tA old n0 out) (fun q => n0 ≤ q)) (ho : out = (some ci, r, h', ks')) (hS : va_S (fun q => n0 ≤ q) s.heap H locs)
    (hnoh : ∀ x ∈ c.exceptionTable.toList, False) (hlocks : meth.locks = false) (hc : cells + mc ≤ mc2) (hs : slots + ms ≤ ms2) :
    W p l e R s m args below meth c H locs cells slots (vx_MQ below (xQc D tA old n0 (some ci, none, h', ks')) (xXc D tA old n0 (some ci, none, h', ks')) args s mc2 ms2 (fun q => n0 ≤ q)) (F0 m pc ls st0) := by
  subst ho
  intro T hT X
  rcases hr T hT X with ⟨v, st₀, t, T', L, h0, X', hL, e1, e2, ⟨⟨hv, -⟩, -⟩, -⟩ | ⟨q, st₀, t, T', L, E, ce, h0, X', hL, e1, e2, ⟨⟨⟨ci2, C, T9, N, hx1, hx2, hx3⟩, hsz, hp⟩, hF⟩, hce, hcv, hcl, st⟩
  · cases hv
  · obtain ⟨k1, k2, k3⟩ := vx_keep h0 e1 hS (fun _ _ h => h) (fun _ h => h) hL hF
    have hw := vx_out (p := p) (l := l) (e := e) (R := R) (s := s) (m := m) (args := args) (below := below) (meth := meth) (c := c) (H := T'.heap) (locs := locs ++ L) (cells := cells + mc) (slots := slots + ms) (pc := pc) (ls := ls) (rest := rest) (Qc := xQc D tA old n0 (some ci, none, h', ks')) (XC := xXc D tA old n0 (some ci, none, h', ks')) (free := fun q => n0 ≤ q) (E := E) (ce := ce) (q := q) (mc := mc2) (ms := ms2)
      (fun x hx => (hnoh x hx).elim) hlocks (by rw [e1]; exact hce) hcv hcl (fun t9 ht9 hal => ⟨⟨⟨ci2, C, T9, N, hx1, hx2, hx3⟩, by rw [ht9, e1]; exact hsz, by rw [ht9, e1]; exact hp⟩, va_S.F k3 ht9⟩) k3.2.2 hc hs
    obtain ⟨t2, a1, b1⟩ := hw T' rfl X'
    exact ⟨t2, st.trans a1, b1⟩
end
/-- a callee that throws nothing -/
theorem xMet_plain {l : Launch} {D : va_G} {tA : Nat → ClassId} {old : Nat → Nat} {n0 : Nat} {sc : Option (List Int32)} {μ : Nat} {as : List Value} {h : xH} {ks : Nat} {r : Option Value} {h' : xH} {ks' : Nat} (hm : xMet l D tA old n0 sc μ as h ks (none, r, h', ks')) :
    Met l (xmy μ) (xws μ) ({ frames := xmf μ, cells := h'.length - h.length, slots := ks' - ks, locals := xmlo μ } : Room) (va_Pc (as.map (xv (xad old n0))) (xPc D tA old n0 sc h)) (xQc D tA old n0 (none, r, h', ks')) (h'.length - h.length) (ks' - ks) (fun q => n0 ≤ q) := by
  intro p e ha hc hk s m args below hf happ hP hK
  obtain ⟨n, o, h1, h2, h3, h4⟩ := hm p e ha hc hk s m args below hf happ hP hK
  rcases h4 with h4 | ⟨q, -, E, ce, L, ⟨⟨⟨ci, C, T, N, hx, -⟩, -⟩, -⟩, -⟩
  · exact ⟨n, o, h1, h2, h3, h4⟩
  · cases hx
end XLP
end
section
section XLA
set_option maxRecDepth 100000 in
theorem xarr_all : (List.range 3).all (fun t => lw_tbl.any (fun w => decide (w = Jvm.Cond.arrayClass (xtT t)))) = true := by decide +kernel
theorem xarr_ok {t : Nat} (ht : t < 3) : Jvm.Cond.arrayClass (xtT t) ∈ xgw := by
  obtain ⟨w, hw, he⟩ := List.any_eq_true.mp (List.all_eq_true.mp xarr_all t (List.mem_range.mpr ht))
  have := of_decide_eq_true he
  subst this
  exact List.mem_filter.mpr ⟨hw, rfl⟩
end XLA
end
section
section XLB
theorem xexit_i {μ : Nat} {st : List Value} {r : Option Value} (h : xexit μ .ireturn st = some r) : ∃ v t, st = [.int v] ∧ xmr μ = some t ∧ narrow t (.int v) = .int v ∧ r = some (.int v) := by
  match st, h with
  | [.int v], h =>
    unfold xexit at h
    dsimp only at h
    split at h
    · rename_i t ht
      split at h
      · rename_i hn
        exact ⟨v, t, rfl, ht, hn, (Option.some.inj h).symm⟩
      · cases h
    · cases h
theorem xexit_l {μ : Nat} {st : List Value} {r : Option Value} (h : xexit μ .lreturn st = some r) : ∃ v, st = [.long v] ∧ xmr μ = some .long ∧ r = some (.long v) := by
  match st, h with
  | [.long v], h =>
    unfold xexit at h
    dsimp only at h
    split at h
    · rename_i ht
      exact ⟨v, rfl, ht, (Option.some.inj h).symm⟩
    · cases h
theorem xexit_d {μ : Nat} {st : List Value} {r : Option Value} (h : xexit μ .dreturn st = some r) : ∃ v, st = [.double v] ∧ xmr μ = some .double ∧ r = some (.double v) := by
  match st, h with
  | [.double v], h =>
    unfold xexit at h
    dsimp only at h
    split at h
    · rename_i ht
      exact ⟨v, rfl, ht, (Option.some.inj h).symm⟩
    · cases h
theorem xexit_a {μ : Nat} {st : List Value} {r : Option Value} (h : xexit μ .areturn st = some r) : ∃ v t, st = [.ref v] ∧ xmr μ = some t ∧ ((∃ n, t = .object n) ∨ ∃ t', t = .array t') ∧ r = some (.ref v) := by
  match st, h with
  | [.ref v], h =>
    unfold xexit at h
    dsimp only at h
    split at h
    · rename_i n ht
      exact ⟨v, _, rfl, ht, Or.inl ⟨n, rfl⟩, (Option.some.inj h).symm⟩
    · rename_i n ht
      exact ⟨v, _, rfl, ht, Or.inr ⟨n, rfl⟩, (Option.some.inj h).symm⟩
    · cases h
theorem xexit_v {μ : Nat} {st : List Value} {r : Option Value} (h : xexit μ .return_ st = some r) : st = [] ∧ xmr μ = none ∧ r = none := by
  match st, h with
  | [], h =>
    unfold xexit at h
    dsimp only at h
    split at h
    · rename_i ht
      exact ⟨rfl, ht, (Option.some.inj h).symm⟩
    · cases h
theorem xinv_ok {o μ x k μ' : Nat} {st as rest : List Value} (h : xinv o μ x st = some (k, μ', as, rest)) : ∃ r', xfnd (xcalT o) x = some (k, μ', r') ∧ xmn μ' ≤ st.length ∧ (rest.map fun v => v.category).sum ≤ 8 ∧ xmf μ' + 1 ≤ xmf μ ∧ 8 + (xml μ' + 11) + xmlo μ' ≤ xmlo μ ∧
    ((k = 2 ∨ k = 3) → as = (st.take (xmn μ')).reverse ∧ st.drop (xmn μ') = rest) ∧ (¬ (k = 2 ∨ k = 3) → ∃ b, as = .ref b :: (st.take (xmn μ')).reverse ∧ st.drop (xmn μ') = .ref b :: rest) := by
  unfold xinv at h
  split at h
  · rename_i k2 μ2 r2 hf
    split at h
    · rename_i hle
      split at h
      · rename_i hk
        split at h
        · rename_i hc
          cases h
          exact ⟨r2, hf, hle, hc.1, hc.2.1, hc.2.2, fun _ => ⟨rfl, rfl⟩, fun q => absurd hk q⟩
        · cases h
      · rename_i hk
        split at h
        · rename_i b rest2 hdr
          split at h
          · rename_i hc
            cases h
            exact ⟨r2, hf, hle, hc.1, hc.2.1, hc.2.2, fun q => absurd q hk, fun _ => ⟨b, rfl, hdr⟩⟩
          · cases h
        · cases h
    · cases h
  · cases h
section
variable {p : Program} {l : Launch} {e : Env} {R : Room} {s : State} {m : MethodId} {args : Array Value} {below : List Frame} {meth : Method} {c : Code} {H : Heap} {locs : List Loc} {cells slots : Nat} {Q : State → Prop}
theorem x_ofva {mc ms : Nat} {g : JFrame} {rest : List Value} {Qa : State → Outcome → State → Prop} {free : Addr → Prop} {XC : String → State → State → Prop} (h : va_Run p l e R s m args below meth c H locs cells slots mc ms g rest Qa free) : vx_Run p l e R s m args below meth c H locs cells slots mc ms g rest Qa XC free :=
  fun T hT X => Or.inl (h T hT X)
/-- the call's run, by its kind -/
theorem x_run {D : va_G} {tA : Nat → ClassId} {old : Nat → Nat} {n0 μ μ' x k pc : Nat} {sc : Option (List Int32)} {st as rest : List Value} {h : xH} {ks : Nat} {out : xO} {ls : Array Slot} {lv : xL} {i : Instr} {r' : Nat × Nat × Nat × Nat}
    (hM : xMet l D tA old n0 sc μ' as h ks out) (hcd : xcod μ' = true ∨ (xcow μ' = true ∧ k = 2 ∧ out.1 = none)) (hfix : CallFix p m c (xmb μ) (xml μ) s args xgw (xown (xmo μ)))
    (hnw : ∀ w ∈ xnw, w.before args s = true) (hK : xK D tA s) (hX : xX sc old n0 s) (hZ : xZ old n0 s) (hn0 : n0 ≤ s.heap.size) (hRf : xmf μ ≤ R.frames) (hRl : xmlo μ ≤ R.locals)
    (hz : H.size = n0 + h.length) (hP : xP D tA (xad old n0) h H) (hS : va_S (fun q => n0 ≤ q) s.heap H locs) (hl : lv_has ls (xml μ) (xm (xad old n0) lv))
    (hf : xfnd (xcalT (xmo μ)) x = some (k, μ', r')) (hn : xmn μ' ≤ st.length) (hcat : (rest.map fun v => v.category).sum ≤ 8) (hfr : xmf μ' + 1 ≤ xmf μ) (hlo : 8 + (xml μ' + 11) + xmlo μ' ≤ xmlo μ)
    (hsp : ((k = 2 ∨ k = 3) → as = (st.take (xmn μ')).reverse ∧ st.drop (xmn μ') = rest) ∧ (¬ (k = 2 ∨ k = 3) → ∃ b, as = .ref b :: (st.take (xmn μ')).reverse ∧ st.drop (xmn μ') = .ref b :: rest))
    (hk : (k = 1 ∧ i = .invokevirtual x ∧ xrecv μ' as h = true) ∨ ((k = 2 ∨ (k = 3 ∧ out.1 = none)) ∧ i = .invokestatic x) ∨ ((k = 0 ∨ k = 4) ∧ i = .invokespecial x ∧ xmr μ' = none ∧ xini μ' = true ∧ out.1 = none))
    (hdg : decode (xmb μ) pc = .ok (i, 3)) (hc1 : cells + (out.2.2.1.length - h.length) ≤ R.cells) (hc2 : slots + (out.2.2.2 - ks) ≤ R.slots) :
    vx_Run p l e R s m args below meth c H locs cells slots (out.2.2.1.length - h.length) (out.2.2.2 - ks) (F0 m pc ls (st.map (xv (xad old n0)))) (rest.map (xv (xad old n0))) (xQc D tA old n0 out (as.map (xv (xad old n0))).toArray) (xXc D tA old n0 out) (fun q => n0 ≤ q) := by
  have hcw : xcod μ' = true ∨ xcow μ' = true := hcd.imp id (fun q => q.1)
  obtain ⟨m1, m2, m3, m4, m5, m6⟩ := xmet_ok hcw
  have hts := hfix.2.2.2.2
  have hwc := xcal_ok hf
  have hPc : ∀ U : State, U.heap = H → s.WarmedH U.vm → xPc D tA old n0 sc h U := fun U hU hW => xPc_at hnw hK hX hZ hn0 hz hP hS U hU hW
  have hroom : 2 * (F0 m pc ls (st.map (xv (xad old n0)))).monitorRoom + ((rest.map (xv (xad old n0))).map fun v => v.category).sum ≤ 8 := lv_room (by rw [xcat_m]; exact hcat)
  have hlen : ((st.take (xmn μ')).reverse.map (xv (xad old n0))).length = xmn μ' := by rw [List.length_map, List.length_reverse, List.length_take]; omega
  have hR : xmf μ' + 1 ≤ R.frames ∧ 8 + (xml μ' + 11) + xmlo μ' ≤ R.locals := ⟨Nat.le_trans hfr hRf, Nat.le_trans hlo hRl⟩
  have hplain : out.1 = none → Met l (xmy μ') (xws μ') ({ frames := xmf μ', cells := out.2.2.1.length - h.length, slots := out.2.2.2 - ks, locals := xmlo μ' } : Room) (va_Pc (as.map (xv (xad old n0))) (xPc D tA old n0 sc h)) (xQc D tA old n0 out) (out.2.2.1.length - h.length) (out.2.2.2 - ks) (fun q => n0 ≤ q) := fun ho => by
    obtain ⟨o1, o2, o3, o4⟩ := out
    cases ho
    exact xMet_plain hM
  rcases hk with ⟨rfl, rfl, hrec⟩ | ⟨hk, rfl⟩ | ⟨hk, rfl, hmr, hin, ho⟩
  · have hcd : xcod μ' = true := by
      rcases hcd with q | ⟨-, q, -⟩
      · exact q
      · cases q
    obtain ⟨b, rfl, hdr⟩ := hsp.2 (by omega)
    simp only [xcalC, Bool.and_eq_true] at hwc
    obtain ⟨⟨⟨w1, w2⟩, w3⟩, w4⟩ := hwc
    have hcell : ∃ cellB : Cell, H[xad old n0 b]? = some cellB ∧ cellB.vm.isStatics = false ∧ s.vm.findClass (xmy μ').cls = some cellB.cls := by
      unfold xrecv at hrec
      dsimp only at hrec
      split at hrec
      · rename_i ci fs hg
        rw [Bool.and_eq_true, decide_eq_true_eq] at hrec
        obtain ⟨rfl, hlt⟩ := hrec
        have hlt := Nat.blt_eq.mp hlt
        obtain ⟨⟨C, T, N⟩, hc, cell, q1, q2, q3, -⟩ := xP_obj hP hg (Nat.lt_of_lt_of_le hlt (by decide))
        have hC := xcl_own hc hlt
        obtain ⟨-, hfc, -⟩ := hK.1.1 _ _ hc
        refine ⟨cell, q1, by rw [q3]; rfl, ?_⟩
        rw [q2, ← m5, ← hC]
        exact hfc
      · cases hrec
    exact vx_runV hfix hM (cwV (xmn μ') hts (xGood (fun w hw => by
        rcases List.mem_append.mp hw with h9 | h9
        · rcases List.mem_cons.mp h9 with rfl | h9
          · exact xig_mem w1
          · rcases List.mem_cons.mp h9 with rfl | h9
            · exact xig_mem w2
            · rcases List.mem_cons.mp h9 with rfl | h9
              · exact xig_mem w3
              · rw [List.mem_singleton.mp h9]
                exact xig_mem w4
        · exact xws_in hcw w h9)) (xws_c hcd) rfl rfl ⟨rfl, m2, m3, m4⟩ hR) ⟨xPc_blind, hcell, fun U hU hW => ⟨rfl, hPc U hU hW⟩⟩ rfl hlen hl.1 (xstk hdr) hroom hdg ⟨hc1, hc2⟩
  · obtain ⟨rfl, hdr⟩ := hsp.1 (by omega)
    rcases hk with rfl | ⟨rfl, ho⟩
    · simp only [xcalC, Bool.and_eq_true] at hwc
      obtain ⟨⟨w1, w2⟩, w3⟩ := hwc
      have hGS : GoodIn xgw (va_wsS (xown (xmo μ)) x (xmy μ') (xws μ')) := xGood (fun w hw => by
        rcases List.mem_append.mp hw with h9 | h9
        · rcases List.mem_cons.mp h9 with rfl | h9
          · exact xig_mem w1
          · rcases List.mem_cons.mp h9 with rfl | h9
            · exact xig_mem w2
            · rw [List.mem_singleton.mp h9]
              exact xig_mem w3
        · exact xws_in hcw w h9)
      rcases hcd with hcd | ⟨hcd, -, ho⟩
      · exact vx_runS hfix hM (va_cwS (xmn μ') hts hGS (xws_c hcd) rfl rfl ⟨m2, m3, m4⟩ hR) ⟨xPc_blind, fun U hU hW => ⟨rfl, hPc U hU hW⟩⟩ rfl hlen hl.1 (xstk hdr) hroom hdg ⟨hc1, hc2⟩
      · exact x_ofva (vx_runSW hfix (hplain ho) (vx_cwSW (xmn μ') hts hGS (xws_w hcd) rfl rfl ⟨m2, m3, m4⟩ hR) ⟨xPc_blind, fun U hU hW => ⟨rfl, hPc U hU hW⟩⟩ rfl hlen hl.1 (xstk hdr) hroom hdg ⟨hc1, hc2⟩)
    · have hcd : xcod μ' = true := by
        rcases hcd with q | ⟨-, q, -⟩
        · exact q
        · cases q
      simp only [xcalC, Bool.and_eq_true] at hwc
      obtain ⟨⟨w1, w2⟩, w3⟩ := hwc
      exact x_ofva (va_runSN hfix (hplain ho) ⟨va_cnB (xmn μ') hts (xGood (xws_in hcw)) (xws_c hcd) rfl rfl (xnw_of (xinw_mem w1) (hnw _ (xinw_mem w1))) (hts _ (xig_mem w3)) ⟨m2, m3, m4⟩ hR, hts _ (xig_mem w2), trivial⟩ ⟨xPc_blind, fun U hU hW => ⟨rfl, hPc U hU hW⟩⟩ rfl hlen hl.1 (xstk hdr) hroom hdg ⟨hc1, hc2⟩)
  · have hcd : xcod μ' = true := by
      rcases hcd with q | ⟨-, q, -⟩
      · exact q
      · omega
    obtain ⟨b, rfl, hdr⟩ := hsp.2 (by omega)
    have hw0 : xws μ' = Jvm.Cond.code (xmy μ') (xmb μ') (xml μ') none :: xgw := by rw [xws_c hcd, hmr]
    rcases hk with rfl | rfl
    · simp only [xcalC, Bool.and_eq_true] at hwc
      obtain ⟨⟨w1, w2⟩, w3⟩ := hwc
      exact x_ofva (va_runI hfix (hplain ho) (cwI (xmn μ') hts (xGood (xws_in hcw)) hw0 rfl rfl (hts _ (xig_mem w3)) (hts _ (xig_mem w1)) (hts _ (xig_mem w2)) (m6 hin) ⟨m2, m3, m4⟩ hR) ⟨xPc_blind, fun U hU hW => ⟨rfl, hPc U hU hW⟩⟩ rfl hlen hl.1 (xstk hdr) hroom hdg ⟨hc1, hc2⟩)
    · simp only [xcalC, Bool.and_eq_true] at hwc
      obtain ⟨⟨w1, w2⟩, w3⟩ := hwc
      exact x_ofva (va_runIN hfix (hplain ho) ⟨va_cnB (xmn μ') hts (xGood (xws_in hcw)) hw0 rfl rfl (xnw_of (xinw_mem w1) (hnw _ (xinw_mem w1))) (hts _ (xig_mem w3)) ⟨m2, m3, m4⟩ hR, m6 hin, hts _ (xig_mem w2)⟩ ⟨xPc_blind, fun U hU hW => ⟨rfl, hPc U hU hW⟩⟩ rfl hlen hl.1 (xstk hdr) hroom hdg ⟨hc1, hc2⟩)
/-- List.size of an ArrayList -/
theorem x_itf {D : va_G} {tA : Nat → ClassId} {old : Nat → Nat} {n0 μ μ' x cnt pc b : Nat} {sc : Option (List Int32)} {rest : List Value} {h h' : xH} {ks ks' : Nat} {rv : Option Value} {ls : Array Slot} {lv : xL} {r' : Nat × Nat × Nat × Nat}
    (hM : xMet l D tA old n0 sc μ' [.ref b] h ks (none, rv, h', ks')) (hcd : xcod μ' = true) (hfix : CallFix p m c (xmb μ) (xml μ) s args xgw (xown (xmo μ)))
    (hnw : ∀ w ∈ xnw, w.before args s = true) (hK : xK D tA s) (hX : xX sc old n0 s) (hZ : xZ old n0 s) (hn0 : n0 ≤ s.heap.size) (hRf : xmf μ ≤ R.frames) (hRl : xmlo μ ≤ R.locals)
    (hz : H.size = n0 + h.length) (hP : xP D tA (xad old n0) h H) (hS : va_S (fun q => n0 ≤ q) s.heap H locs) (hl : lv_has ls (xml μ) (xm (xad old n0) lv))
    (hf : xfnd (xitfT (xmo μ)) x = some (μ', r')) (hcat : (rest.map fun v => v.category).sum ≤ 8) (hfr : xmf μ' + 1 ≤ xmf μ) (hlo : 8 + (xml μ' + 11) + xmlo μ' ≤ xmlo μ) (hrec : xrecv μ' [.ref b] h = true)
    (hdg : decode (xmb μ) pc = .ok (.invokeinterface x cnt, 5)) (hc1 : cells + (h'.length - h.length) ≤ R.cells) (hc2 : slots + (ks' - ks) ≤ R.slots)
    (kk : ∀ (H1 : Heap) (locs1 : List Loc), H1.size = n0 + h'.length → xP D tA (xad old n0) h' H1 → va_S (fun q => n0 ≤ q) s.heap H1 locs1 → W p l e R s m args below meth c H1 locs1 (cells + (h'.length - h.length)) (slots + (ks' - ks)) Q (F0 m (pc + 5) ls ((rv.toList ++ rest).map (xv (xad old n0))))) :
    W p l e R s m args below meth c H locs cells slots Q (F0 m pc ls (((.ref b : Value) :: rest).map (xv (xad old n0)))) := by
  obtain ⟨m1, m2, m3, m4, m5, m6⟩ := xmet_ok (Or.inl hcd)
  have hts := hfix.2.2.2.2
  have hw := xitf_ok hf
  unfold xitfC at hw
  simp only [Bool.and_eq_true, decide_eq_true_eq] at hw
  obtain ⟨⟨⟨⟨⟨hy, hal⟩, w1⟩, w2⟩, w3⟩, w4⟩ := hw
  have hFw := (hZ.2.2.2.2 hal).2
  have hcell : ∃ (cC : ClassId), ClassAt s "java/util/ArrayList" cC ∧ ∃ cellB : Cell, H[xad old n0 b]? = some cellB ∧ cellB.vm.isStatics = false ∧ s.vm.findClass "java/util/ArrayList" = some cellB.cls := by
    unfold xrecv at hrec
    dsimp only at hrec
    split at hrec
    · rename_i ci fs hg
      rw [Bool.and_eq_true, decide_eq_true_eq] at hrec
      obtain ⟨rfl, hlt⟩ := hrec
      have hlt := Nat.blt_eq.mp hlt
      obtain ⟨⟨C, T, N⟩, hc, cell, q1, q2, q3, -⟩ := xP_obj hP hg (Nat.lt_of_lt_of_le hlt (by decide))
      have hC := xcl_own hc hlt
      have hk := hK.1.1 _ _ hc
      have e1 : C = "java/util/ArrayList" := by rw [hC, m5, hy]
      subst e1
      exact ⟨_, hk.2, cell, q1, by rw [q3]; rfl, by rw [q2]; exact hk.2.1⟩
    · cases hrec
  obtain ⟨cC, hat, hcell⟩ := hcell
  have hrun := va_runF (x := xLs) hat hfix (xMet_plain hM) (va_cwF (x := xLs) 0 hts (xGood (fun w hw => by
        rcases List.mem_append.mp hw with h9 | h9
        · rcases List.mem_cons.mp h9 with rfl | h9
          · exact xig_mem w1
          · rcases List.mem_cons.mp h9 with rfl | h9
            · exact xig_mem w2
            · rcases List.mem_cons.mp h9 with rfl | h9
              · exact xig_mem w3
              · rw [List.mem_singleton.mp h9]
                exact xig_mem w4
        · exact xws_in (Or.inl hcd) w h9)) (xws_c hcd) rfl rfl (by rw [hy]; exact hFw) ⟨by decide, by decide, by decide +kernel⟩ ⟨Nat.le_trans hfr hRf, Nat.le_trans hlo hRl⟩)
    (b := xad old n0 b) (As := []) (rest := rest.map (xv (xad old n0))) (g := F0 m pc ls (((.ref b : Value) :: rest).map (xv (xad old n0)))) (locs := locs) (below := below) (meth := meth) (e := e) (cells := cells) (slots := slots) ⟨xPc_blind, hcell, fun U hU hW => ⟨rfl, xPc_at hnw hK hX hZ hn0 hz hP hS U hU hW⟩⟩ rfl rfl hl.1 rfl (lv_room (by rw [xcat_m]; exact hcat)) hdg ⟨hc1, hc2⟩
  intro T hT X
  obtain ⟨v, st₀, t, T', L, h0, X', hL, e1, e2, ⟨⟨-, hv, hsz, hp⟩, hF⟩, st⟩ := hrun T hT X
  obtain ⟨k1, k2, k3⟩ := vx_keep h0 e1 hS (fun _ _ h => h) (fun _ h => h) hL hF
  obtain ⟨t2, a1, b1⟩ := kk T'.heap (locs ++ L) (by rw [e1]; exact hsz) (by rw [e1]; exact hp) k3 T' rfl X'
  refine ⟨t2, st t2 ?_, b1⟩
  have hv : v = rv.map (xv (xad old n0)) := Outcome.returned.inj hv
  subst hv
  have e9 : (rv.toList ++ rest).map (xv (xad old n0)) = (rv.map (xv (xad old n0))).toList ++ rest.map (xv (xad old n0)) := by cases rv <;> rfl
  rw [e9] at a1
  exact a1
end
end XLB
end
section
/-! arrays of arrays, two and three deep -/
section XMA
theorem x_outE (c : ClassId) (N h0 : Nat) : ∀ i, Jvm.Free.Multi.outerC c N h0 i = { cls := c, slots := (Jvm.Free.Multi.outerC c N h0 i).slots, vm := .none }
  | 0 => rfl
  | i + 1 => by
    show (Jvm.Free.Multi.outerC c N h0 i).setSlot i _ = _
    rw [x_outE c N h0 i]
    rfl
theorem x_out (c : ClassId) (N h0 : Nat) : Jvm.Free.Multi.outerC c N h0 N = { cls := c, slots := ((List.range N).map (fun j => Value.ref (h0 + 1 + j))).toArray, vm := .none } := by
  rw [x_outE]
  congr 1
  refine Array.ext_getElem? fun j => ?_
  by_cases hj : j < N
  · rw [Jvm.Free.Multi.outerC_slot c N h0 N j hj, if_pos hj]
    simp [hj]
  · rw [Array.getElem?_eq_none (by rw [(Jvm.Free.Multi.outerC_facts c N h0 N).2.2]; omega)]
    simp [hj]
def x_o3 (c : ClassId) (N h0 K : Nat) : Nat → Cell
  | 0 => { cls := c, slots := Array.replicate N .null, vm := .none }
  | i + 1 => (x_o3 c N h0 K i).setSlot i (.ref (h0 + 1 + i * (1 + K)))
def x_f3 (s : State) (c comp cc : ClassId) (N K M : Nat) (dv : Value) : Nat → State
  | 0 => s.pushCell (x_o3 c N s.heap.size K 0)
  | i + 1 => (Jvm.Free.Multi.fill (x_f3 s c comp cc N K M dv i) comp cc K M dv K).setCell s.heap.size (x_o3 c N s.heap.size K (i + 1))
theorem x_o3_facts (c : ClassId) (N h0 K : Nat) : ∀ i, (x_o3 c N h0 K i).cls = c ∧ (x_o3 c N h0 K i).vm = .none ∧ (x_o3 c N h0 K i).slots.size = N
  | 0 => ⟨rfl, rfl, by simp [x_o3]⟩
  | i + 1 => by
    obtain ⟨a, b, d⟩ := x_o3_facts c N h0 K i
    exact ⟨by simp [x_o3, Cell.setSlot, a], by simp [x_o3, Cell.setSlot, b], by simp [x_o3, Cell.setSlot, d]⟩
theorem x_f3_facts (s : State) (c comp cc : ClassId) (N K M : Nat) (dv : Value) : ∀ i, (x_f3 s c comp cc N K M dv i).heap.size = s.heap.size + 1 + i * (1 + K) ∧ (x_f3 s c comp cc N K M dv i).heap[s.heap.size]? = some (x_o3 c N s.heap.size K i) ∧
    (x_f3 s c comp cc N K M dv i).vm = s.vm ∧ (x_f3 s c comp cc N K M dv i).slotsUsed = s.slotsUsed + N + i * (K + K * M)
  | 0 => ⟨by simp [x_f3], by simp [x_f3], rfl, by simp [x_f3, x_o3]⟩
  | i + 1 => by
    obtain ⟨a, b, d, u⟩ := x_f3_facts s c comp cc N K M dv i
    obtain ⟨f1, f2, f3, f4⟩ := Jvm.Free.Multi.fill_facts (x_f3 s c comp cc N K M dv i) comp cc K M dv K
    have hlt : s.heap.size < (x_f3 s c comp cc N K M dv i).heap.size := by omega
    have hb' : (Jvm.Free.Multi.fill (x_f3 s c comp cc N K M dv i) comp cc K M dv K).heap[s.heap.size]? = some (x_o3 c N s.heap.size K i) := by rw [Jvm.Free.Multi.fill_old _ _ _ _ _ _ hlt]; exact b
    have e1 : (i + 1) * (1 + K) = i * (1 + K) + (1 + K) := Nat.succ_mul _ _
    have e2 : (i + 1) * (K + K * M) = i * (K + K * M) + (K + K * M) := Nat.succ_mul _ _
    refine ⟨?_, State.heap_setCell_self hb', by simp [x_f3, f3, d], ?_⟩
    · have e3 : (x_f3 s c comp cc N K M dv (i + 1)).heap.size = (Jvm.Free.Multi.fill (x_f3 s c comp cc N K M dv i) comp cc K M dv K).heap.size := by simp [x_f3, State.setCell]
      rw [e3, f1, a, e1]
      omega
    · have e4 : (x_f3 s c comp cc N K M dv (i + 1)).slotsUsed = (Jvm.Free.Multi.fill (x_f3 s c comp cc N K M dv i) comp cc K M dv K).slotsUsed := by simp [x_f3]
      rw [e4, f4, u, e2]
      omega
theorem x_f3_setTop (s : State) (f : JFrame) (c comp cc : ClassId) (N K M : Nat) (dv : Value) : ∀ i, x_f3 (s.setTop f) c comp cc N K M dv i = (x_f3 s c comp cc N K M dv i).setTop f
  | 0 => rfl
  | i + 1 => by simp only [x_f3, x_f3_setTop s f c comp cc N K M dv i, Jvm.Free.Multi.fill_setTop, State.heap_setTop, State.setCell_setTop]
theorem x_f3_old (s : State) (c comp cc : ClassId) (N K M : Nat) (dv : Value) {a : Addr} (ha : a < s.heap.size) : ∀ i, (x_f3 s c comp cc N K M dv i).heap[a]? = s.heap[a]?
  | 0 => State.heap_pushCell_of_lt _ _ ha
  | i + 1 => by
    have f1 := (x_f3_facts s c comp cc N K M dv i).1
    show ((Jvm.Free.Multi.fill (x_f3 s c comp cc N K M dv i) comp cc K M dv K).setCell s.heap.size _).heap[a]? = _
    rw [State.heap_setCell_other (Nat.ne_of_gt ha), Jvm.Free.Multi.fill_old _ _ _ _ _ _ (Nat.lt_of_lt_of_le ha (by rw [f1, Nat.add_assoc]; exact Nat.le_add_right _ _))]
    exact x_f3_old s c comp cc N K M dv ha i
/-- the middle one number j, and its rows -/
theorem x_f3_mid (s : State) (c comp cc : ClassId) (N K M : Nat) (dv : Value) : ∀ i j, j < i → (x_f3 s c comp cc N K M dv i).heap[s.heap.size + 1 + j * (1 + K)]? = some (Jvm.Free.Multi.outerC comp K (s.heap.size + 1 + j * (1 + K)) K) ∧
    ∀ q, q < K → (x_f3 s c comp cc N K M dv i).heap[s.heap.size + 1 + j * (1 + K) + 1 + q]? = some (Jvm.Free.Multi.innerC cc M dv)
  | 0, _, h => absurd h (Nat.not_lt_zero _)
  | i + 1, j, h => by
    have f1 := (x_f3_facts s c comp cc N K M dv i).1
    have hne : ∀ z : Nat, s.heap.size ≠ s.heap.size + 1 + z := fun z h => by
      have h : (s.heap.size : Nat) = s.heap.size + 1 + z := h
      omega
    have hne2 : ∀ z q : Nat, s.heap.size ≠ s.heap.size + 1 + z + 1 + q := fun z q h => by
      have h : (s.heap.size : Nat) = s.heap.size + 1 + z + 1 + q := h
      omega
    rcases Nat.lt_or_ge j i with hj | hj
    · obtain ⟨h1, h2⟩ := x_f3_mid s c comp cc N K M dv i j hj
      have hle : (j + 1) * (1 + K) ≤ i * (1 + K) := Nat.mul_le_mul_right _ hj
      rw [Nat.succ_mul] at hle
      have b1 : s.heap.size + 1 + j * (1 + K) < (x_f3 s c comp cc N K M dv i).heap.size := by
        rw [f1]
        generalize j * (1 + K) = A at hle ⊢
        generalize i * (1 + K) = B at hle ⊢
        omega
      have b2 : ∀ q, q < K → s.heap.size + 1 + j * (1 + K) + 1 + q < (x_f3 s c comp cc N K M dv i).heap.size := fun q hq => by
        rw [f1]
        generalize j * (1 + K) = A at hle ⊢
        generalize i * (1 + K) = B at hle ⊢
        omega
      refine ⟨?_, fun q hq => ?_⟩
      · show ((Jvm.Free.Multi.fill (x_f3 s c comp cc N K M dv i) comp cc K M dv K).setCell s.heap.size _).heap[_]? = _
        rw [State.heap_setCell_other (hne _), Jvm.Free.Multi.fill_old _ _ _ _ _ _ b1]
        exact h1
      · show ((Jvm.Free.Multi.fill (x_f3 s c comp cc N K M dv i) comp cc K M dv K).setCell s.heap.size _).heap[_]? = _
        rw [State.heap_setCell_other (hne2 _ _), Jvm.Free.Multi.fill_old _ _ _ _ _ _ (b2 q hq)]
        exact h2 q hq
    · have e : j = i := by omega
      subst e
      obtain ⟨-, g2, -, -⟩ := Jvm.Free.Multi.fill_facts (x_f3 s c comp cc N K M dv j) comp cc K M dv K
      refine ⟨?_, fun q hq => ?_⟩
      · show ((Jvm.Free.Multi.fill (x_f3 s c comp cc N K M dv j) comp cc K M dv K).setCell s.heap.size _).heap[_]? = _
        rw [State.heap_setCell_other (hne _), ← f1]
        exact g2
      · show ((Jvm.Free.Multi.fill (x_f3 s c comp cc N K M dv j) comp cc K M dv K).setCell s.heap.size _).heap[_]? = _
        rw [State.heap_setCell_other (hne2 _ _), ← f1]
        exact Jvm.Free.Multi.fill_inner _ _ _ _ _ _ _ _ hq
theorem x_o3_slot (c : ClassId) (N h0 K : Nat) : ∀ i j, j < N → (x_o3 c N h0 K i).slots[j]? = some (if j < i then .ref (h0 + 1 + j * (1 + K)) else .null)
  | 0, j, h => by simp [x_o3, h]
  | i + 1, j, h => by
    have ih := x_o3_slot c N h0 K i j h
    have hs := (x_o3_facts c N h0 K i).2.2
    show ((x_o3 c N h0 K i).setSlot i (.ref (h0 + 1 + i * (1 + K)))).slots[j]? = _
    simp only [Cell.setSlot, Array.getElem?_setIfInBounds]
    by_cases e : i = j
    · subst e; simp [hs, h]
    · rw [if_neg e, ih]
      by_cases hj : j < i
      · rw [if_pos hj, if_pos (by omega)]
      · rw [if_neg hj, if_neg (by omega)]
theorem x_o3E (c : ClassId) (N h0 K : Nat) : ∀ i, x_o3 c N h0 K i = { cls := c, slots := (x_o3 c N h0 K i).slots, vm := .none }
  | 0 => rfl
  | i + 1 => by
    show (x_o3 c N h0 K i).setSlot i _ = _
    rw [x_o3E c N h0 K i]
    rfl
theorem x_o3o (c : ClassId) (N h0 K : Nat) : x_o3 c N h0 K N = { cls := c, slots := ((List.range N).map (fun j => Value.ref (h0 + 1 + j * (1 + K)))).toArray, vm := .none } := by
  rw [x_o3E]
  congr 1
  refine Array.ext_getElem? fun j => ?_
  by_cases hj : j < N
  · rw [x_o3_slot c N h0 K N j hj, if_pos hj]
    simp [hj]
  · rw [Array.getElem?_eq_none (by rw [(x_o3_facts c N h0 K N).2.2]; omega)]
    simp [hj]
section
variable {E : CtlPost} {e : Env} {d : Bool} {acts : List Action} {s : State}
theorem x_make3 {c comp cc cd : ClassId} {k kc kd : Class} {t0 t1 type : FieldType} {n m r : Int32} (hk : s.vm.classes[c]? = some k) (hkind : k.kind = .array comp t0) (href : t0.isReference = true)
    (hkc : s.vm.classes[comp]? = some kc) (hkindc : kc.kind = .array cc t1) (href1 : t1.isReference = true) (hkd : s.vm.classes[cc]? = some kd) (hkindd : kd.kind = .array cd type) (hn : ¬ n < 0) (hm : ¬ m < 0) (hr : ¬ r < 0)
    (hl1 : ¬ n.toNatClampNeg > e.platform.arrayLengthLimit) (hh1 : ¬ n.toNatClampNeg * componentBytes t0 > e.platform.maxHeapBytes)
    (hl2 : ¬ m.toNatClampNeg > e.platform.arrayLengthLimit) (hh2 : ¬ m.toNatClampNeg * componentBytes t1 > e.platform.maxHeapBytes)
    (hl3 : ¬ r.toNatClampNeg > e.platform.arrayLengthLimit) (hh3 : ¬ r.toNatClampNeg * componentBytes type > e.platform.maxHeapBytes)
    (hdf : fits type (defaultValue type) = true) (hdd : (defaultValue type).isDefault = true)
    (hc : s.heap.size + 1 + n.toNatClampNeg * (1 + m.toNatClampNeg) ≤ e.platform.maxCells) (hs : s.slotsUsed + n.toNatClampNeg + n.toNatClampNeg * (m.toNatClampNeg + m.toNatClampNeg * r.toNatClampNeg) ≤ e.platform.maxSlots)
    {Q : Addr → Pre} (hq : ∀ d' acts', Q s.heap.size d' acts' (x_f3 s c comp cc n.toNatClampNeg m.toNatClampNeg r.toNatClampNeg (defaultValue type) n.toNatClampNeg)) :
    wp (multianewarray.make c [n, m, r]) Q E e d acts s := by
  have hfind : ([m, r].find? (· < 0)) = none := by simp [hm, hr]
  rw [multianewarray.make]
  simp only [wp_bind', W.ite, hn, if_false, wp_pure', W.theClass, hk, hkind, Option.some.injEq, exists_eq_left']
  refine Jvm.Free.Multi.wp_newArray hk hkind hl1 hh1 (Jvm.Free.Multi.refFits href _ (Or.inl rfl)) rfl (by have := Nat.zero_le (n.toNatClampNeg * (1 + m.toNatClampNeg)); omega) (by have := Nat.zero_le (n.toNatClampNeg * (m.toNatClampNeg + m.toNatClampNeg * r.toNatClampNeg)); omega) ?_
  simp only [hfind]
  rw [ite_self, wp_bind', Std.Legacy.Range.forIn_eq_forIn_range']
  have hsz : ([:n.toNatClampNeg] : Std.Legacy.Range).size = n.toNatClampNeg := by simp [Std.Legacy.Range.size]
  rw [hsz]
  show wp (forIn (List.range' 0 n.toNatClampNeg 1) PUnit.unit _) _ E e d acts _
  refine wp_forIn_inv (fun rest s' => ∃ i, i ≤ n.toNatClampNeg ∧ rest = List.range' i (n.toNatClampNeg - i) ∧ s' = x_f3 s c comp cc n.toNatClampNeg m.toNatClampNeg r.toNatClampNeg (defaultValue type) i) _ _ ⟨0, Nat.zero_le _, rfl, rfl⟩ ?_ ?_
  · rintro x rest s' d' acts' Q' ⟨i, hi, hl, rfl⟩ hnext
    have hlt : i < n.toNatClampNeg := by
      rcases Nat.lt_or_ge i n.toNatClampNeg with h | h
      · exact h
      · rw [show n.toNatClampNeg - i = 0 from by omega] at hl; simp at hl
    obtain ⟨rfl, hrest⟩ : x = i ∧ rest = List.range' (i + 1) (n.toNatClampNeg - (i + 1)) := by
      rw [show n.toNatClampNeg - i = (n.toNatClampNeg - (i + 1)) + 1 from by omega, List.range'_succ] at hl
      exact ⟨(List.cons.inj hl).1, (List.cons.inj hl).2⟩
    obtain ⟨f1, f2, f3, f4⟩ := x_f3_facts s c comp cc n.toNatClampNeg m.toNatClampNeg r.toNatClampNeg (defaultValue type) x
    obtain ⟨o1, o2, o3⟩ := x_o3_facts c n.toNatClampNeg s.heap.size m.toNatClampNeg x
    have hmul : x * (1 + m.toNatClampNeg) + (1 + m.toNatClampNeg) ≤ n.toNatClampNeg * (1 + m.toNatClampNeg) := by
      have := Nat.mul_le_mul_right (1 + m.toNatClampNeg) (show x + 1 ≤ n.toNatClampNeg from hlt)
      rw [Nat.succ_mul] at this; exact this
    have hmul2 : x * (m.toNatClampNeg + m.toNatClampNeg * r.toNatClampNeg) + (m.toNatClampNeg + m.toNatClampNeg * r.toNatClampNeg) ≤ n.toNatClampNeg * (m.toNatClampNeg + m.toNatClampNeg * r.toNatClampNeg) := by
      have := Nat.mul_le_mul_right (m.toNatClampNeg + m.toNatClampNeg * r.toNatClampNeg) (show x + 1 ≤ n.toNatClampNeg from hlt)
      rw [Nat.succ_mul] at this; exact this
    simp only [wp_bind']
    refine Jvm.Free.Multi.wp_make2 (k := kc) (kc := kd) (comp := cc) (cc := cd) (t0 := t1) (type := type) (by rw [f3]; exact hkc) hkindc href1 (by rw [f3]; exact hkd) hkindd hm hr hl2 hh2 hl3 hh3 hdf hdd (by rw [f1]; omega) (by rw [f4]; omega) (fun d9 acts9 => ?_)
    have hlt0 : s.heap.size < (x_f3 s c comp cc n.toNatClampNeg m.toNatClampNeg r.toNatClampNeg (defaultValue type) x).heap.size := by rw [f1]; omega
    have g3 := (Jvm.Free.Multi.fill_facts (x_f3 s c comp cc n.toNatClampNeg m.toNatClampNeg r.toNatClampNeg (defaultValue type) x) comp cc m.toNatClampNeg r.toNatClampNeg (defaultValue type) m.toNatClampNeg).2.2.1
    simp only [wp_bind', W.writeLoc, wp_pure']
    refine ⟨x_o3 c n.toNatClampNeg s.heap.size m.toNatClampNeg x, by rw [Jvm.Free.Multi.fill_old _ _ _ _ _ _ hlt0]; exact f2, by rw [o2]; simp, by rw [o3]; exact hlt, ?_, hnext _ _ _ ⟨x + 1, hlt, hrest, ?_⟩⟩
    · rw [o1, o2]
      simp [State.fitsSlot, State.slotType?, g3, f3, hk, hkind, Jvm.Free.Multi.refFits href _ (Or.inr ⟨_, rfl⟩)]
    · rw [f1]; rfl
  · rintro s' d' acts' ⟨i, hi, hl, rfl⟩
    have hiN : i = n.toNatClampNeg := by
      rcases Nat.lt_or_ge i n.toNatClampNeg with h | h
      · rw [show n.toNatClampNeg - i = (n.toNatClampNeg - (i + 1)) + 1 from by omega, List.range'_succ] at hl; cases hl
      · omega
    subst hiN
    simp only [wp_pure']
    exact hq _ _
end
end XMA
end
section
section XMB
variable {p : Program} {l : Launch} {e : Env} {R : Room} {s : State} {m : MethodId} {args : Array Value} {below : List Frame} {meth : Method} {c : Code} {T : State} {locs : List Loc} {cells slots : Nat} {H : Heap} {Q : State → Prop}
theorem x_filled3 (X : Stand p l e R s m args below meth c T locs cells slots) (cA comp cc : ClassId) (N K M : Nat) (dv : Value) :
    ∀ i, ∃ L : List Loc, (∀ q ∈ L, T.heap.size ≤ q.base) ∧ Stand p l e R s m args below meth c (x_f3 T cA comp cc N K M dv i) (locs ++ L) (cells + 1 + i * (1 + K)) (slots + N + i * (K + K * M))
  | 0 => by
    have h := X.pushed (x_o3 cA N T.heap.size K 0)
    rw [(x_o3_facts cA N T.heap.size K 0).2.2] at h
    refine ⟨[], fun q hq => (nomatch hq), ?_⟩
    simpa [x_f3] using h
  | i + 1 => by
    obtain ⟨L, hL, Xi⟩ := x_filled3 X cA comp cc N K M dv i
    obtain ⟨f1, f2, f3, f4⟩ := x_f3_facts T cA comp cc N K M dv i
    have hlt0 : T.heap.size < (x_f3 T cA comp cc N K M dv i).heap.size := by rw [f1, Nat.add_assoc]; exact Nat.lt_of_lt_of_le (Nat.lt_succ_self _) (by rw [← Nat.add_assoc]; exact Nat.le_add_right _ _)
    have hcell : (Jvm.Free.Multi.fill (x_f3 T cA comp cc N K M dv i) comp cc K M dv K).heap[T.heap.size]? = some (x_o3 cA N T.heap.size K i) := by rw [Jvm.Free.Multi.fill_old _ _ _ _ _ _ hlt0]; exact f2
    have h := (Xi.filled comp cc K M dv K).stored hcell i (.ref (T.heap.size + 1 + i * (1 + K)))
    refine ⟨L ++ (List.range K).map (fun j => ⟨(x_f3 T cA comp cc N K M dv i).heap.size, j⟩) ++ [⟨T.heap.size, i⟩], fun q hq => ?_, ?_⟩
    · rcases List.mem_append.mp hq with hq | hq
      · rcases List.mem_append.mp hq with hq | hq
        · exact hL q hq
        · obtain ⟨j, -, rfl⟩ := List.mem_map.mp hq
          exact Nat.le_of_lt hlt0
      · rw [List.mem_singleton.mp hq]
        exact Nat.le_refl _
    · have e3 : slots + N + (i + 1) * (K + K * M) = slots + N + i * (K + K * M) + K + K * M := by rw [Nat.succ_mul]; omega
      have e4 : cells + 1 + (i + 1) * (1 + K) = cells + 1 + i * (1 + K) + 1 + K := by rw [Nat.succ_mul]; omega
      rw [e3, e4]
      simpa only [x_f3, x_o3, List.append_assoc] using h
/-- new T[n][k], at W -/
theorem x_mna2 {cc : ByteArray} {pc : Nat} {ls : Array Slot} {rest : List Value} (hexec : p.tables.exec = Jvm.exec) (hb : c.code = cc) {own : String} {index : Nat} {ty : FieldType} (hown : s.vm.findClass own = some m.cls) (hclink : (Jvm.Cond.classLink own index ("[" ++ (FieldType.array ty).toString)).before args s = true)
    (hover : (Jvm.Cond.arrayOver (.array ty)).before args s = true) (harr : (Jvm.Cond.arrayClass ty).before args s = true) {n k : Int32} (hn : ¬ n < 0) (hk : ¬ k < 0)
    (hb1 : n.toNatClampNeg * 4 ≤ 536870912) (hb2 : k.toNatClampNeg * componentBytes ty ≤ 536870912) (hb3 : k.toNatClampNeg ≤ 536870912) (hdf : fits ty (defaultValue ty) = true) (hdd : (defaultValue ty).isDefault = true)
    (hcells : cells + (1 + n.toNatClampNeg) ≤ R.cells) (hslots : slots + (n.toNatClampNeg + n.toNatClampNeg * k.toNatClampNeg) ≤ R.slots) (hdg : decode cc pc = .ok (.multianewarray index 2, 4))
    (kk : ∀ (H1 : Heap) (cA comp : ClassId), s.vm.findClass ("[" ++ (FieldType.array ty).toString) = some cA → s.vm.findClass (FieldType.array ty).toString = some comp → H1.size = H.size + 1 + n.toNatClampNeg → (∀ q, q < H.size → H1[q]? = H[q]?) →
      H1[H.size]? = some { cls := cA, slots := ((List.range n.toNatClampNeg).map (fun j => Value.ref (H.size + 1 + j))).toArray, vm := .none } → (∀ j, j < n.toNatClampNeg → H1[H.size + 1 + j]? = some { cls := comp, slots := Array.replicate k.toNatClampNeg (defaultValue ty), vm := .none }) →
      W p l e R s m args below meth c H1 locs (cells + 1 + n.toNatClampNeg) (slots + n.toNatClampNeg + n.toNatClampNeg * k.toNatClampNeg) Q (F0 m (pc + 4) ls (.ref H.size :: rest))) : W p l e R s m args below meth c H locs cells slots Q (F0 m pc ls (.int k :: .int n :: rest)) := by
  intro T hT X
  obtain ⟨vm₁, cA, comp, -, fA, fC, -, -, X', step⟩ := X.multianewarray2F hexec hown hclink hover harr (g := F0 m pc ls (.int k :: .int n :: rest)) rfl (by rw [hb]; exact hdg) rfl hn hk hb1 hb2 hb3 hdf hdd hcells hslots
  have hTh : (T.setVm vm₁).heap = H := hT
  obtain ⟨f1, f2, -, -⟩ := Jvm.Free.Multi.fill_facts (T.setVm vm₁) cA comp n.toNatClampNeg k.toNatClampNeg (defaultValue ty) n.toNatClampNeg
  rw [hTh] at f1 f2
  rw [x_out] at f2
  obtain ⟨t, a1, b1⟩ := kk _ cA comp fA fC f1 (fun q hq => by
    have := Jvm.Free.Multi.fill_old (T.setVm vm₁) cA comp n.toNatClampNeg k.toNatClampNeg (defaultValue ty) (a := q) (by rw [hTh]; exact hq) n.toNatClampNeg
    rw [hTh] at this
    exact this) f2 (fun j hj => by
    have := Jvm.Free.Multi.fill_inner (T.setVm vm₁) cA comp n.toNatClampNeg k.toNatClampNeg (defaultValue ty) n.toNatClampNeg j hj
    rw [hTh] at this
    exact this) _ rfl X'
  refine ⟨t, step t ?_, b1⟩
  have e : T.heap.size = H.size := by rw [hT]
  rw [e]
  exact a1
/-- new T[n][k][r], at W -/
theorem x_mna3 {cc : ByteArray} {pc : Nat} {ls : Array Slot} {rest : List Value} (hexec : p.tables.exec = Jvm.exec) (hb : c.code = cc) {own : String} {index : Nat} {ty : FieldType} (hown : s.vm.findClass own = some m.cls) (hclink : (Jvm.Cond.classLink own index ("[" ++ (FieldType.array (.array ty)).toString)).before args s = true)
    (hover1 : (Jvm.Cond.arrayOver (.array (.array ty))).before args s = true) (hover2 : (Jvm.Cond.arrayOver (.array ty)).before args s = true) (harr : (Jvm.Cond.arrayClass ty).before args s = true) {n k r : Int32} (hn : ¬ n < 0) (hk : ¬ k < 0) (hr : ¬ r < 0)
    (hb1 : n.toNatClampNeg * 4 ≤ 536870912) (hb2 : k.toNatClampNeg * 4 ≤ 536870912) (hb3 : r.toNatClampNeg * componentBytes ty ≤ 536870912) (hb4 : r.toNatClampNeg ≤ 536870912) (hdf : fits ty (defaultValue ty) = true) (hdd : (defaultValue ty).isDefault = true)
    (hcells : cells + (1 + n.toNatClampNeg * (1 + k.toNatClampNeg)) ≤ R.cells) (hslots : slots + (n.toNatClampNeg + n.toNatClampNeg * (k.toNatClampNeg + k.toNatClampNeg * r.toNatClampNeg)) ≤ R.slots) (hdg : decode cc pc = .ok (.multianewarray index 3, 4))
    (kk : ∀ (H1 : Heap) (cA comp cd : ClassId), s.vm.findClass ("[" ++ (FieldType.array (.array ty)).toString) = some cA → s.vm.findClass ("[" ++ (FieldType.array ty).toString) = some comp → s.vm.findClass (FieldType.array ty).toString = some cd → H1.size = H.size + 1 + n.toNatClampNeg * (1 + k.toNatClampNeg) → (∀ q, q < H.size → H1[q]? = H[q]?) →
      H1[H.size]? = some { cls := cA, slots := ((List.range n.toNatClampNeg).map (fun j => Value.ref (H.size + 1 + j * (1 + k.toNatClampNeg)))).toArray, vm := .none } →
      (∀ j, j < n.toNatClampNeg → H1[H.size + 1 + j * (1 + k.toNatClampNeg)]? = some { cls := comp, slots := ((List.range k.toNatClampNeg).map (fun q => Value.ref (H.size + 1 + j * (1 + k.toNatClampNeg) + 1 + q))).toArray, vm := .none } ∧
        ∀ q, q < k.toNatClampNeg → H1[H.size + 1 + j * (1 + k.toNatClampNeg) + 1 + q]? = some { cls := cd, slots := Array.replicate r.toNatClampNeg (defaultValue ty), vm := .none }) →
      W p l e R s m args below meth c H1 locs (cells + 1 + n.toNatClampNeg * (1 + k.toNatClampNeg)) (slots + n.toNatClampNeg + n.toNatClampNeg * (k.toNatClampNeg + k.toNatClampNeg * r.toNatClampNeg)) Q (F0 m (pc + 4) ls (.ref H.size :: rest))) : W p l e R s m args below meth c H locs cells slots Q (F0 m pc ls (.int r :: .int k :: .int n :: rest)) := by
  intro T hT X
  have hpl : e.platform.magicAccessors = ({} : Platform).magicAccessors := by rw [X.admits.platform]
  obtain ⟨comp, cA, kA, hcomp, hkA, hkindA, hnameA⟩ := Cond.arrayOver_specA hover1
  obtain ⟨cd, c2, kB, hcd, hkB, hkindB, hnameB⟩ := Cond.arrayOver_specA hover2
  obtain ⟨cd', kC, ce, hcd', hkC, hkindC⟩ := Cond.arrayClass_spec harr
  have ecd : cd' = cd := Option.some.inj (hcd'.symm.trans hcd)
  subst ecd
  have ecomp : c2 = comp := Option.some.inj (hnameB.symm.trans hcomp)
  subst ecomp
  obtain ⟨c0, hfc0, hcl⟩ := Cond.classLink_spec hown hclink e.platform hpl
  cases hnameA.symm.trans hfc0
  obtain ⟨hg₁, hwarm₁, hready₁⟩ := State.classEntry (e := e) X.warmed hcl
  generalize T.vm.noted m.cls index (.cls cA) = vm₁ at hg₁ hwarm₁ hready₁
  have hal : s.vm.Alike vm₁ := hwarm₁.alike
  obtain ⟨kA₁, hkA₁, heA⟩ := hal.2.2 _ _ hkA
  obtain ⟨kB₁, hkB₁, heB⟩ := hal.2.2 _ _ hkB
  obtain ⟨kC₁, hkC₁, heC⟩ := hal.2.2 _ _ hkC
  have hkindA₁ : kA₁.kind = .array c2 (.array (.array ty)) := by rw [heA]; exact hkindA
  have hkindB₁ : kB₁.kind = .array cd' (.array ty) := by rw [heB]; exact hkindB
  have hkindC₁ : kC₁.kind = .array ce ty := by rw [heC]; exact hkindC
  have X₁ := X.noted hwarm₁
  obtain ⟨hr1, hr2⟩ := X.roomAbove hcells hslots
  obtain ⟨L, hL, XF0⟩ := x_filled3 X₁ cA c2 cd' n.toNatClampNeg k.toNatClampNeg r.toNatClampNeg (defaultValue ty) n.toNatClampNeg
  have XF := XF0.dropFresh (fun x hx => Nat.le_trans X.heapGrown (hL x hx))
  have hTh : (T.setVm vm₁).heap = H := hT
  obtain ⟨f1, f2, -, -⟩ := x_f3_facts (T.setVm vm₁) cA c2 cd' n.toNatClampNeg k.toNatClampNeg r.toNatClampNeg (defaultValue ty) n.toNatClampNeg
  rw [hTh] at f1 f2
  rw [x_o3o] at f2
  obtain ⟨t, a1, b1⟩ := kk _ cA c2 cd' hnameA hnameB hcd f1 (fun q hq => by
    have := x_f3_old (T.setVm vm₁) cA c2 cd' n.toNatClampNeg k.toNatClampNeg r.toNatClampNeg (defaultValue ty) (a := q) (by rw [hTh]; exact hq) n.toNatClampNeg
    rw [hTh] at this
    exact this) f2 (fun j hj => by
    obtain ⟨g1, g2⟩ := x_f3_mid (T.setVm vm₁) cA c2 cd' n.toNatClampNeg k.toNatClampNeg r.toNatClampNeg (defaultValue ty) n.toNatClampNeg j hj
    rw [hTh] at g1 g2
    rw [x_out] at g1
    exact ⟨g1, g2⟩) _ rfl XF
  refine ⟨t, ?_, b1⟩
  have hl1 : ¬ n.toNatClampNeg > e.platform.arrayLengthLimit := by rw [Launch.admits_arrayLengthLimit X.admits]; omega
  have hh1 : ¬ n.toNatClampNeg * componentBytes (.array (.array ty)) > e.platform.maxHeapBytes := by
    rw [Launch.admits_maxHeapBytes X.admits]; show ¬ n.toNatClampNeg * 4 > 536870912; omega
  have hl2 : ¬ k.toNatClampNeg > e.platform.arrayLengthLimit := by rw [Launch.admits_arrayLengthLimit X.admits]; omega
  have hh2 : ¬ k.toNatClampNeg * componentBytes (.array ty) > e.platform.maxHeapBytes := by
    rw [Launch.admits_maxHeapBytes X.admits]; show ¬ k.toNatClampNeg * 4 > 536870912; omega
  have hl3 : ¬ r.toNatClampNeg > e.platform.arrayLengthLimit := by rw [Launch.admits_arrayLengthLimit X.admits]; omega
  have hh3 : ¬ r.toNatClampNeg * componentBytes ty > e.platform.maxHeapBytes := by rw [Launch.admits_maxHeapBytes X.admits]; omega
  have hdg' : decode c.code pc = .ok (.multianewarray index 3, 4) := by rw [hb]; exact hdg
  jvm_step X.here [hexec, hdg']
  simp only [multianewarray.sem, wp_bind', W.resolveClassAt_links (State.method?_setTop (F0 m pc ls (.int r :: .int k :: .int n :: rest)) X.here.top) hg₁]
  rw [W.popN, if_neg (by decide)]
  refine ⟨F0 m pc ls (.int r :: .int k :: .int n :: rest), State.topJava?_setTop' (s := T.setVm vm₁) _ X.here.top, [.int n, .int k, .int r], rest, rfl, rfl, ?_⟩
  simp only [List.mapM_cons, List.mapM_nil, wp_bind', wp_pure']
  refine x_make3 (k := kA₁) (kc := kB₁) (kd := kC₁) (comp := c2) (cc := cd') (cd := ce) (t0 := .array (.array ty)) (t1 := .array ty) (type := ty) hkA₁ hkindA₁ rfl hkB₁ hkindB₁ rfl hkC₁ hkindC₁ hn hk hr hl1 hh1 hl2 hh2 hl3 hh3 hdf hdd (by show T.heap.size + 1 + _ ≤ _; omega) (by show T.slotsUsed + _ + _ ≤ _; omega) (fun d' acts' => ?_)
  have eS : ((T.setTop (F0 m pc ls (.int r :: .int k :: .int n :: rest))).setVm vm₁).setTop { F0 m pc ls (.int r :: .int k :: .int n :: rest) with stack := rest } = (T.setVm vm₁).setTop { F0 m pc ls (.int r :: .int k :: .int n :: rest) with stack := rest } := by
    show ((T.setVm vm₁).setTop _).setTop _ = _
    rw [State.setTop_setTop]
  rw [eS, x_f3_setTop]
  simp only [wp_bind', W.mark, W.pushRef, State.topJava?_setTop' _ XF.here.top, Option.some.injEq, exists_eq_left', State.setTop_setTop, State.heap_setTop]
  intro acts
  simp [jvm, XF.here.top]
  have e9 : T.heap.size = H.size := by rw [hT]
  rw [e9]
  exact a1
end XMB
end
section
section XMC
def xmulC (o : Nat) (q : Nat × Nat × Nat) : Bool := xig (.classLink (xown o) q.1 ("[" ++ (xtT q.2.1).toString)) q.2.2
set_option maxRecDepth 100000 in
theorem xmul_all : ∀ o, o < xNO → (xmulT o).all (xmulC o) = true := by decide +kernel
theorem xmul_w {o x t p : Nat} (h : xfnd (xmulT o) x = some (t, p)) : Jvm.Cond.classLink (xown o) x ("[" ++ (xtT t).toString) ∈ xgw := by
  have hm := xfnd_mem h
  by_cases ho : o < xNO
  · exact xig_mem (List.all_eq_true.mp (xmul_all o ho) _ hm)
  · have : xmulT o = [] := by
      unfold xNO at ho
      unfold xmulT
      split <;> first | omega | rfl
    rw [this] at hm
    cases hm
set_option maxRecDepth 100000 in
theorem xover_all : [3, 4, 5].all (fun t => lw_tbl.any (fun w => decide (w = Jvm.Cond.arrayOver (xtT t)))) = true := by decide +kernel
theorem xover_ok {t : Nat} (ht : t = 3 ∨ t = 4 ∨ t = 5) : Jvm.Cond.arrayOver (xtT t) ∈ xnw := by
  obtain ⟨w, hw, he⟩ := List.any_eq_true.mp (List.all_eq_true.mp xover_all t (by rcases ht with rfl | rfl | rfl <;> simp))
  have := of_decide_eq_true he
  subst this
  exact List.mem_filter.mpr ⟨hw, rfl⟩
theorem xP_app {D : va_G} {tA : Nat → ClassId} {old : Nat → Nat} {n0 : Nat} {h es : xH} {H H1 : Heap} (hP : xP D tA (xad old n0) h H) (hz : H.size = n0 + h.length) (hq : ∀ q, q < H.size → H1[q]? = H[q]?) (h1 : ∀ (j : Nat) (e : xE), es[j]? = some e → xcell D tA (xad old n0) (H.size + j) e H1) : xP D tA (xad old n0) (h ++ es) H1 := by
  intro j e hj
  by_cases hlt : j < h.length
  · rw [List.getElem?_append_left hlt] at hj
    exact xcell_kept (hP j e hj) (hq _ (by rw [xad_new]; omega))
  · rw [List.getElem?_append_right (by omega)] at hj
    have := h1 _ _ hj
    rw [xad_new, show n0 + j = H.size + (j - h.length) by omega]
    exact this
theorem xmk2_len (t n k lab : Nat) : (xmk2 t n k lab).length = 1 + n := by
  simp [xmk2]; omega
theorem xmk2_ok {D : va_G} {tA : Nat → ClassId} {old : Nat → Nat} {n0 L0 t N K : Nat} {H1 : Heap} (ht : t = 0 ∨ t = 2) (h0 : H1[n0 + L0]? = some { cls := tA (if t = 0 then 3 else 5), slots := ((List.range N).map (fun j => Value.ref (n0 + L0 + 1 + j))).toArray, vm := .none })
    (h1 : ∀ j, j < N → H1[n0 + L0 + 1 + j]? = some { cls := tA t, slots := Array.replicate K (defaultValue (xtT t)), vm := .none }) : ∀ (j : Nat) (e : xE), (xmk2 t N K (L0 + 4))[j]? = some e → xcell D tA (xad old n0) (n0 + L0 + j) e H1 := by
  intro j e he
  unfold xmk2 at he
  cases j with
  | zero =>
    simp only [List.getElem?_cons_zero, Option.some.injEq] at he
    subst he
    unfold xcell
    rw [if_neg (by show ¬ 100 + _ < 100; omega)]
    show H1[n0 + L0 + 0]? = _
    rw [Nat.add_zero, h0]
    have e1 : ∀ i : Nat, xv (xad old n0) (Value.ref (L0 + 4 + 1 + i)) = Value.ref (n0 + L0 + 1 + i) := fun i => by
      show Value.ref (xad old n0 (L0 + 4 + 1 + i)) = _
      rw [show L0 + 4 + 1 + i = (L0 + 1 + i) + 4 by omega, xad_new, show n0 + (L0 + 1 + i) = n0 + L0 + 1 + i by omega]
    simp only [Nat.add_sub_cancel_left, List.map_map, Function.comp_def, e1]
  | succ j =>
    rw [List.getElem?_cons_succ, List.getElem?_replicate] at he
    split at he
    · rename_i hj
      cases he
      unfold xcell
      rw [if_neg (by show ¬ 100 + _ < 100; omega)]
      rw [show n0 + L0 + (j + 1) = n0 + L0 + 1 + j by omega, h1 j hj]
      have hd : defaultValue (xtT t) = xdv t := xdv_ok (by omega)
      simp only [Nat.add_sub_cancel_left, List.map_replicate, xdv_map, List.toArray_replicate, hd]
    · cases he
theorem xflat_len {f : Nat → xH} {c : Nat} (hf : ∀ i, (f i).length = c) : ∀ n, ((List.range n).flatMap f).length = n * c
  | 0 => by simp
  | n + 1 => by
    rw [List.range_succ, List.flatMap_append, List.length_append, xflat_len hf n, Nat.succ_mul]
    simp [hf]
theorem xflat {f : Nat → xH} {c : Nat} (hf : ∀ i, (f i).length = c) : ∀ (n idx : Nat) (e : xE), ((List.range n).flatMap f)[idx]? = some e → ∃ i q, i < n ∧ q < c ∧ idx = i * c + q ∧ (f i)[q]? = some e
  | 0, idx, e, h => by simp at h
  | n + 1, idx, e, h => by
    rw [List.range_succ, List.flatMap_append] at h
    by_cases hlt : idx < n * c
    · rw [List.getElem?_append_left (by rw [xflat_len hf]; exact hlt)] at h
      obtain ⟨i, q, h1, h2, h3, h4⟩ := xflat hf n idx e h
      exact ⟨i, q, by omega, h2, h3, h4⟩
    · rw [List.getElem?_append_right (by rw [xflat_len hf]; omega), xflat_len hf] at h
      simp only [List.flatMap_cons, List.flatMap_nil, List.append_nil] at h
      have hq := (List.getElem?_eq_some_iff.mp h).1
      rw [hf] at hq
      exact ⟨n, idx - n * c, by omega, hq, by omega, h⟩
theorem xmk3_len (n k r lab : Nat) : (xmk3 n k r lab).length = 1 + n * (1 + k) := by
  unfold xmk3
  rw [List.length_cons, xflat_len (fun i => xmk2_len _ _ _ _)]
  omega
theorem xmk3_ok {D : va_G} {tA : Nat → ClassId} {old : Nat → Nat} {n0 L0 N K M : Nat} {H1 : Heap} (h0 : H1[n0 + L0]? = some { cls := tA 4, slots := ((List.range N).map (fun j => Value.ref (n0 + L0 + 1 + j * (1 + K)))).toArray, vm := .none })
    (h1 : ∀ j, j < N → H1[n0 + L0 + 1 + j * (1 + K)]? = some { cls := tA 3, slots := ((List.range K).map (fun q => Value.ref (n0 + L0 + 1 + j * (1 + K) + 1 + q))).toArray, vm := .none } ∧ ∀ q, q < K → H1[n0 + L0 + 1 + j * (1 + K) + 1 + q]? = some { cls := tA 0, slots := Array.replicate M (defaultValue (xtT 0)), vm := .none }) :
    ∀ (j : Nat) (e : xE), (xmk3 N K M (L0 + 4))[j]? = some e → xcell D tA (xad old n0) (n0 + L0 + j) e H1 := by
  intro j e he
  unfold xmk3 at he
  cases j with
  | zero =>
    simp only [List.getElem?_cons_zero, Option.some.injEq] at he
    subst he
    unfold xcell
    rw [if_neg (by show ¬ (104 : Nat) < 100; omega)]
    show H1[n0 + L0 + 0]? = _
    rw [Nat.add_zero, h0]
    have e1 : ∀ i : Nat, xv (xad old n0) (Value.ref (L0 + 4 + 1 + i * (1 + K))) = Value.ref (n0 + L0 + 1 + i * (1 + K)) := fun i => by
      show Value.ref (xad old n0 (L0 + 4 + 1 + i * (1 + K))) = _
      rw [show L0 + 4 + 1 + i * (1 + K) = (L0 + 1 + i * (1 + K)) + 4 by omega, xad_new, show n0 + (L0 + 1 + i * (1 + K)) = n0 + L0 + 1 + i * (1 + K) by omega]
    simp only [List.map_map, Function.comp_def, e1]
  | succ j =>
    rw [List.getElem?_cons_succ] at he
    obtain ⟨i, q, hi, hq, rfl, hf⟩ := xflat (fun i => xmk2_len _ _ _ _) _ _ _ he
    obtain ⟨g1, g2⟩ := h1 i hi
    have e2 : L0 + 4 + 1 + i * (1 + K) = (L0 + 1 + i * (1 + K)) + 4 := by omega
    rw [e2] at hf
    have := xmk2_ok (D := D) (tA := tA) (old := old) (n0 := n0) (L0 := L0 + 1 + i * (1 + K)) (t := 0) (N := K) (K := M) (H1 := H1) (Or.inl rfl) (by rw [if_pos rfl, show n0 + (L0 + 1 + i * (1 + K)) = n0 + L0 + 1 + i * (1 + K) by omega]; exact g1)
      (fun q hq => by rw [show n0 + (L0 + 1 + i * (1 + K)) + 1 + q = n0 + L0 + 1 + i * (1 + K) + 1 + q by omega]; exact g2 q hq) q e hf
    rw [show n0 + (L0 + 1 + i * (1 + K)) + q = n0 + L0 + (i * (1 + K) + q + 1) by omega] at this
    exact this
theorem xclamp {n : Int32} (h0 : ¬ n < 0) (h1 : ¬ 1000 < n) : n.toNatClampNeg ≤ 1000 := by
  have h0 := Int32.not_lt.mp h0
  have h1 := Int32.not_lt.mp h1
  rw [Int32.le_iff_toInt_le] at h0 h1
  have e0 : (0 : Int32).toInt = 0 := by decide
  have e1 : (1000 : Int32).toInt = 1000 := by decide
  rw [e0] at h0
  rw [e1] at h1
  show n.toInt.toNat ≤ 1000
  omega
variable {p : Program} {l : Launch} {e : Env} {R : Room} {s : State} {m : MethodId} {args : Array Value} {below : List Frame} {meth : Method} {c : Code} {Q : State → Prop}
theorem x_mul {D : va_G} {tA : Nat → ClassId} {old : Nat → Nat} {n0 hb kb nL μ x dm sl pc : Nat} {lv : xL} {st rest : List Value} {h es : xH} {ks : Nat}
    (hx : p.tables.exec = Jvm.exec) (hb9 : c.code = xmb μ) (hown : s.vm.findClass (xown (xmo μ)) = some m.cls) (hts : ∀ w ∈ xgw, w.before args s = true) (hnw : ∀ w ∈ xnw, w.before args s = true) (hK : xK D tA s)
    (hac : ∀ t, t < 3 → (Jvm.Cond.arrayClass (xtT t)).before args s = true) (hlb : hb ≤ h.length) (hkb : kb ≤ ks) (hdg : decode (xmb μ) pc = .ok (.multianewarray x dm, 4)) (hm : xmul (xmo μ) x dm st (h.length + 4) = some (rest, es, sl))
    (hRc : (h ++ es).length - hb ≤ R.cells) (hRs : ks + sl - kb ≤ R.slots)
    (kk : xG p l e R s m args below meth c Q D tA old n0 hb kb nL (pc + 4) lv (.ref (h.length + 4) :: rest) (h ++ es) (ks + sl)) : xG p l e R s m args below meth c Q D tA old n0 hb kb nL pc lv st h ks := by
  intro H locs ls hz hP hS hl
  unfold xmul at hm
  split at hm
  · rename_i t pw hf
    have hw := hts _ (xmul_w hf)
    split at hm
    · rename_i ht
      obtain ⟨rfl, ht⟩ := ht
      split at hm
      · rename_i k n rest9
        split at hm
        · cases hm
        · rename_i hc
          cases hm
          have hn : ¬ n < 0 := fun q => hc (Or.inl q)
          have hk : ¬ k < 0 := fun q => hc (Or.inr (Or.inl q))
          have bn := xclamp hn (fun q => hc (Or.inr (Or.inr (Or.inl q))))
          have bk := xclamp hk (fun q => hc (Or.inr (Or.inr (Or.inr q))))
          rw [List.length_append, xmk2_len] at hRc
          have hty : xtT t = .array (xtT (xcomp t)) := by rcases ht with rfl | rfl <;> rfl
          have hc3 : xcomp t = 0 ∨ xcomp t = 2 := by rcases ht with rfl | rfl <;> simp [xcomp]
          have hif : (if xcomp t = 0 then 3 else 5) = t := by rcases ht with rfl | rfl <;> rfl
          have hcb : k.toNatClampNeg * componentBytes (xtT (xcomp t)) ≤ 536870912 := by
            rcases hc3 with q | q <;> rw [q]
            · show k.toNatClampNeg * 4 ≤ 536870912
              omega
            · show k.toNatClampNeg * 1 ≤ 536870912
              omega
          rw [hty] at hw
          refine x_mna2 hx hb9 hown hw (by rw [← hty]; exact hnw _ (xover_ok (by rcases ht with q | q <;> simp [q]))) (hac _ (by rcases hc3 with q | q <;> omega)) hn hk (by omega) hcb (by omega) (by rcases hc3 with q | q <;> rw [q] <;> rfl) (by rcases hc3 with q | q <;> rw [q] <;> rfl) (by omega) (by omega) hdg (fun H1 cA comp f1 f2 z1 o1 g1 g2 => ?_)
          have ecA : cA = tA t := by
            have := (hK.2 t (by rcases ht with rfl | rfl <;> omega)).1
            rw [hty] at this
            exact Option.some.inj (f1.symm.trans this)
          have ecC : comp = tA (xcomp t) := Option.some.inj (f2.symm.trans (hK.2 (xcomp t) (by rcases hc3 with q | q <;> omega)).1)
          subst ecA
          subst ecC
          have hk9 := kk H1 locs ls (by rw [z1, hz, List.length_append, xmk2_len]; omega) (xP_app hP hz o1 (by
            have := xmk2_ok (D := D) (old := old) (n0 := n0) (L0 := h.length) (t := xcomp t) (N := n.toNatClampNeg) (K := k.toNatClampNeg) (H1 := H1) hc3 (by rw [hif, ← hz]; exact g1) (fun j hj => by rw [← hz]; exact g2 j hj)
            rw [← hz] at this
            exact this)) ⟨by have := hS.1; omega, fun q h1 h2 => (o1 q (Nat.lt_of_lt_of_le h1 hS.1)).trans (hS.2.1 q h1 h2), hS.2.2⟩ hl
          rw [List.length_append, xmk2_len, show h.length + (1 + n.toNatClampNeg) - hb = h.length - hb + 1 + n.toNatClampNeg by omega, show ks + (n.toNatClampNeg + n.toNatClampNeg * k.toNatClampNeg) - kb = ks - kb + n.toNatClampNeg + n.toNatClampNeg * k.toNatClampNeg by omega] at hk9
          simp only [List.map_cons, xv] at hk9
          rw [xad_new, ← hz] at hk9
          exact hk9
      · cases hm
    · split at hm
      · rename_i ht
        obtain ⟨rfl, rfl⟩ := ht
        split at hm
        · rename_i r k n rest9
          split at hm
          · cases hm
          · rename_i hc
            cases hm
            have hn : ¬ n < 0 := fun q => hc (Or.inl q)
            have hk : ¬ k < 0 := fun q => hc (Or.inr (Or.inl q))
            have hr : ¬ r < 0 := fun q => hc (Or.inr (Or.inr (Or.inl q)))
            have bn := xclamp hn (fun q => hc (Or.inr (Or.inr (Or.inr (Or.inl q)))))
            have bk := xclamp hk (fun q => hc (Or.inr (Or.inr (Or.inr (Or.inr (Or.inl q))))))
            have br := xclamp hr (fun q => hc (Or.inr (Or.inr (Or.inr (Or.inr (Or.inr q))))))
            rw [List.length_append, xmk3_len] at hRc
            refine x_mna3 (ty := .int) hx hb9 hown hw (hnw _ (xover_ok (t := 4) (by simp))) (hnw _ (xover_ok (t := 3) (by simp))) (hac 0 (by omega)) hn hk hr (by omega) (by omega) (by show r.toNatClampNeg * 4 ≤ 536870912; omega) (by omega) rfl rfl (by omega) (by omega) hdg (fun H1 cA comp cd f1 f2 f3 z1 o1 g1 g2 => ?_)
            have ecA : cA = tA 4 := Option.some.inj (f1.symm.trans (hK.2 4 (by omega)).1)
            have ecB : comp = tA 3 := Option.some.inj (f2.symm.trans (hK.2 3 (by omega)).1)
            have ecC : cd = tA 0 := Option.some.inj (f3.symm.trans (hK.2 0 (by omega)).1)
            subst ecA
            subst ecB
            subst ecC
            have hk9 := kk H1 locs ls (by rw [z1, hz, List.length_append, xmk3_len]; omega) (xP_app hP hz o1 (by
              have := xmk3_ok (D := D) (tA := tA) (old := old) (n0 := n0) (L0 := h.length) (N := n.toNatClampNeg) (K := k.toNatClampNeg) (M := r.toNatClampNeg) (H1 := H1) (by rw [← hz]; exact g1) (fun j hj => by rw [← hz]; exact g2 j hj)
              rw [← hz] at this
              exact this)) ⟨by have := hS.1; omega, fun q h1 h2 => (o1 q (Nat.lt_of_lt_of_le h1 hS.1)).trans (hS.2.1 q h1 h2), hS.2.2⟩ hl
            rw [List.length_append, xmk3_len, show h.length + (1 + n.toNatClampNeg * (1 + k.toNatClampNeg)) - hb = h.length - hb + 1 + n.toNatClampNeg * (1 + k.toNatClampNeg) by omega, show ks + (n.toNatClampNeg + n.toNatClampNeg * (k.toNatClampNeg + k.toNatClampNeg * r.toNatClampNeg)) - kb = ks - kb + n.toNatClampNeg + n.toNatClampNeg * (k.toNatClampNeg + k.toNatClampNeg * r.toNatClampNeg) by omega] at hk9
            simp only [List.map_cons, xv] at hk9
            rw [xad_new, ← hz] at hk9
            exact hk9
        · cases hm
      · cases hm
  · cases hm
end XMC
end
section
/-! System.arraycopy of ints; a row of rows, of none -/
section XCP
variable {p : Program} {l : Launch} {e : Env} {R : Room} {s : State} {m : MethodId} {args : Array Value} {below : List Frame} {meth : Method} {c : Code} {Q : State → Prop}
theorem xarrV (cI : ClassId) (vs : List Value) : ({ cls := cI, slots := vs.toArray, vm := .none } : Cell) = arrV cI vs.length (fun j => id (vs.getD j .null)) := by
  unfold arrV
  congr 1
  refine Array.ext_getElem? fun j => ?_
  by_cases hj : j < vs.length
  · simp [hj]
  · simp [hj]
theorem xnn {z : Int32} (hz : ¬ z < 0) : z.toInt = (z.toNatClampNeg : Int) := by
  have hz0 : (0 : Int) ≤ z.toInt := by
    have := Int32.not_lt.mp hz
    simpa using Int32.le_iff_toInt_le.mp this
  show z.toInt = ((z.toInt.toNat : Nat) : Int)
  omega
theorem xisI_m {us : List Value} (h : us.all xisI = true) (ad : Nat → Nat) : us.map (xv ad) = us := by
  induction us with
  | nil => rfl
  | cons u r ih =>
    rw [List.all_cons, Bool.and_eq_true] at h
    rw [List.map_cons, ih h.2]
    cases u <;> first | rfl | cases h.1
theorem xisI_fit {us : List Value} (h : us.all xisI = true) {i : Nat} (hi : i < us.length) : fits .int (us.getD i .null) = true := by
  have h1 : us.getD i .null ∈ us := by
    rw [List.getD_eq_getElem?_getD, List.getElem?_eq_getElem hi]
    exact List.getElem_mem hi
  have h2 := List.all_eq_true.mp h _ h1
  cases hq : us.getD i .null <;> rw [hq] at h2 <;> first | rfl | cases h2
theorem xisI_tk {us : List Value} (h : us.all xisI = true) (vm' : Vm) (T : State) (cI : ClassId) {i : Nat} (hi : i < us.length) : (T.setVm vm').takes cI (us.getD i .null) := by
  have h1 : us.getD i .null ∈ us := by
    rw [List.getD_eq_getElem?_getD, List.getElem?_eq_getElem hi]
    exact List.getElem_mem hi
  have h2 := List.all_eq_true.mp h _ h1
  cases hq : us.getD i .null <;> rw [hq] at h2 <;> first | exact trivial | cases h2
set_option maxHeartbeats 1000000 in
theorem x_cpy {D : va_G} {tA : Nat → ClassId} {old : Nat → Nat} {n0 hb kb nL μ x pc : Nat} {lv : xL} {st rest : List Value} {h h' : xH} {ks : Nat}
    (hx : p.tables.exec = Jvm.exec) (hb9 : c.code = xmb μ) (hml : c.maxLocals = nL) (hown : s.vm.findClass (xown (xmo μ)) = some m.cls) (hts : ∀ w ∈ xgw, w.before args s = true) (hK : xK D tA s) (hRf : xmf μ ≤ R.frames) (hRl : xmlo μ ≤ R.locals) (hn0 : n0 ≤ s.heap.size)
    (hdg : decode (xmb μ) pc = .ok (.invokestatic x, 3)) (hm : xcpy (xmo μ) μ x st h = some (rest, h'))
    (kk : xG p l e R s m args below meth c Q D tA old n0 hb kb nL (pc + 3) lv rest h' ks) : xG p l e R s m args below meth c Q D tA old n0 hb kb nL pc lv st h ks := by
  intro H locs ls hz hP hS hl
  unfold xcpy at hm
  split at hm
  · rename_i r9 hf9
    have hw := xcal_ok hf9
    simp only [xcalC, Bool.and_eq_true] at hw
    split at hm
    · rename_i n z1 b z0 a rest9
      split at hm
      · rename_i t0 us t1 vs hg0 hg1
        split at hm
        · rename_i hc
          obtain ⟨rfl, rfl, rfl, rfl, h3, h4, h5, hall, hlo, hfr⟩ := hc
          cases hm
          have hc0 : H[xad old n0 a]? = some (arrV (tA 0) us.length (fun j => id (us.getD j .null))) := by
            have := xP_arr hP hg0 (Nat.le_refl _)
            rw [xisI_m hall, xarrV] at this
            exact this
          have hc1 : H[xad old n0 b]? = some (arrV (tA 0) (vs.map (xv (xad old n0))).length (fun j => id ((vs.map (xv (xad old n0))).getD j .null))) := by
            have := xP_arr hP hg1 (Nat.le_refl _)
            rw [xarrV] at this
            exact this
          obtain ⟨-, k0, comp0, hk0, hkk0, -⟩ := hK.2 0 (by decide)
          intro T hT X
          obtain ⟨vm', X', step⟩ := X.arraycopy hx hown (hts _ (xig_mem hw.1.1.1)) (hts _ (xig_mem hw.1.1.2)) (hts _ (xig_mem hw.1.2)) (hts _ (xig_mem hw.2)) (src := xad old n0 a) (dst := xad old n0 b) (srcPos := 0) (destPos := 0) (n := n) (by rw [hT]; exact hc0) (by rw [hT]; exact hc1)
            (fun _ h => by cases h) (fun _ h => by cases h) (fun h => by cases h) (fun h => by cases h) hk0 hk0 hkk0 hkk0 rfl (by decide) (by decide) h3
            (by rw [xnn h3, arrV_size]; show ¬ (0 : Int) + _ > _; omega)
            (by rw [xnn h3, arrV_size, List.length_map]; show ¬ (0 : Int) + _ > _; omega)
            (fun vm₁ _ i hi => by
              have e : (arrV (tA 0) us.length (fun j => id (us.getD j .null))).slots.getD ((0 : Int32).toNatClampNeg + i) .null = us.getD i .null := by
                rw [show (0 : Int32).toNatClampNeg + i = i from Nat.zero_add i, Array.getD_eq_getD_getElem?, arrV_read _ _ (by omega)]
                rfl
              rw [e]
              exact ⟨xisI_fit hall (by omega), xisI_tk hall _ _ _ (by omega)⟩)
            (g := F0 m pc ls (.int n :: .int 0 :: .ref (xad old n0 b) :: .int 0 :: .ref (xad old n0 a) :: rest.map (xv (xad old n0)))) rfl (by show ls.size = _; rw [hml]; exact hl.1) (rest := rest.map (xv (xad old n0))) rfl (by rw [hb9]; exact hdg) (Nat.le_trans hfr hRf) (by rw [xcat_m]; show 2 * 0 + _ + 18 ≤ _; omega)
          have e1 := va_copied (sp := (0 : Int32).toNatClampNeg) (dp := (0 : Int32).toNatClampNeg) (n := n.toNatClampNeg) (id : Value → Value) (tA 0) (tA 0) (n0 := us.length) (n1 := (vs.map (xv (xad old n0))).length) (fun j => us.getD j .null) (fun j => (vs.map (xv (xad old n0))).getD j .null) (by show 0 + _ ≤ _; omega)
          have e2 : copied (arrV (tA 0) us.length (fun j => id (us.getD j .null))) (arrV (tA 0) (vs.map (xv (xad old n0))).length (fun j => id ((vs.map (xv (xad old n0))).getD j .null))) 0 0 n = ({ cls := tA 0, slots := ((us.take n.toNatClampNeg ++ vs.drop n.toNatClampNeg).map (xv (xad old n0))).toArray, vm := .none } : Cell) := by
            refine Eq.trans e1 ?_
            rw [xarrV]
            have hlen : ((us.take n.toNatClampNeg ++ vs.drop n.toNatClampNeg).map (xv (xad old n0))).length = (vs.map (xv (xad old n0))).length := by
              simp only [List.length_map, List.length_append, List.length_take, List.length_drop]
              omega
            rw [hlen]
            unfold arrV
            congr 1
            refine Array.ext_getElem? fun j => ?_
            by_cases hj : j < (vs.map (xv (xad old n0))).length
            · simp only [Array.getElem?_ofFn, hj, dif_pos, id_eq]
              congr 1
              unfold va_cpy
              rw [show (0 : Int32).toNatClampNeg = 0 from rfl]
              simp only [Nat.zero_le, true_and, Nat.zero_add, Nat.sub_zero]
              rw [List.length_map] at hj
              by_cases hjn : j < n.toNatClampNeg
              · rw [if_pos hjn, List.map_append, List.getD_eq_getElem?_getD, List.getD_eq_getElem?_getD, List.getElem?_append_left (by simp only [List.length_map, List.length_take]; omega), List.map_take, xisI_m hall, List.getElem?_take_of_lt hjn]
              · rw [if_neg hjn, List.map_append, List.getD_eq_getElem?_getD, List.getD_eq_getElem?_getD, List.getElem?_append_right (by simp only [List.length_map, List.length_take]; omega), List.map_drop, List.getElem?_drop]
                congr 2
                simp only [List.length_map, List.length_take]
                omega
            · rw [Array.getElem?_eq_none (by simp only [Array.size_ofFn]; omega), Array.getElem?_eq_none (by simp only [Array.size_ofFn]; omega)]
          rw [e2] at X' step
          have hbl : xad old n0 b < H.size := (Array.getElem?_eq_some_iff.mp hc1).1
          have hA : n0 ≤ xad old n0 b := by
            obtain ⟨kb9, rfl, -⟩ := xget_ok hg1
            rw [xad_new]
            omega
          have oq : ∀ (z : Cell) (q : Nat), q ≠ xad old n0 b → (H.setIfInBounds (xad old n0 b) z)[q]? = H[q]? := fun z q hq => by simp [Array.getElem?_setIfInBounds, Ne.symm hq]
          have hbase : ∀ (L : List (Value × Nat)), ∀ q ∈ locs ++ L.map (fun q => (⟨xad old n0 b, (0 : Int32).toNatClampNeg + q.2⟩ : Loc)), n0 ≤ q.base := fun L q hq => by
            rcases List.mem_append.mp hq with h | h
            · exact hS.2.2 q h
            · obtain ⟨z, -, hz⟩ := List.mem_map.mp h
              rw [← hz]
              exact hA
          have hk9 := fun (L : List (Value × Nat)) => kk (H.setIfInBounds (xad old n0 b) ({ cls := tA 0, slots := ((us.take n.toNatClampNeg ++ vs.drop n.toNatClampNeg).map (xv (xad old n0))).toArray, vm := .none } : Cell)) (locs ++ L.map (fun q => (⟨xad old n0 b, (0 : Int32).toNatClampNeg + q.2⟩ : Loc))) ls (by rw [Array.size_setIfInBounds, hz]; simp [xset])
            (xP_set hP hg1 (by
              unfold xcell
              rw [if_neg (by show ¬ 100 < 100; omega)]
              simp [Array.getElem?_setIfInBounds, hbl]) (oq _))
            ⟨by rw [Array.size_setIfInBounds]; exact hS.1, fun q g1 g2 => by
              rw [oq _ q (fun e => g2 (by rw [e]; exact hA))]
              exact hS.2.1 q g1 g2, hbase L⟩ hl
          have hlx : (xset h b (100, us.take n.toNatClampNeg ++ vs.drop n.toNatClampNeg)).length = h.length := by simp [xset]
          rw [hlx] at hk9
          obtain ⟨t, a1, b1⟩ := hk9 _ _ (by rw [← hT]; rfl) X'
          exact ⟨t, step t a1, b1⟩
        · cases hm
      · cases hm
    · cases hm
  · cases hm
theorem x_anw {D : va_G} {tA : Nat → ClassId} {old : Nat → Nat} {n0 hb kb nL μ x pc : Nat} {lv : xL} {st rest : List Value} {h : xH} {ks : Nat}
    (hx : p.tables.exec = Jvm.exec) (hb9 : c.code = xmb μ) (hown : s.vm.findClass (xown (xmo μ)) = some m.cls) (hts : ∀ w ∈ xgw, w.before args s = true) (hnw : ∀ w ∈ xnw, w.before args s = true) (hK : xK D tA s) (hlb : hb ≤ h.length) (hdg : decode (xmb μ) pc = .ok (.anewarray x, 3)) (hm : xanw (xmo μ) x st = some rest)
    (hRc : (h ++ [(103, ([] : List Value))]).length - hb ≤ R.cells) (hRs : ks - kb ≤ R.slots)
    (kk : xG p l e R s m args below meth c Q D tA old n0 hb kb nL (pc + 3) lv (.ref (h.length + 4) :: rest) (h ++ [(103, [])]) ks) : xG p l e R s m args below meth c Q D tA old n0 hb kb nL pc lv st h ks := by
  intro H locs ls hz hP hS hl
  unfold xanw at hm
  split at hm
  · rename_i pw hf
    have hw := hts _ (xmul_w hf)
    split at hm
    · rename_i n rest9
      split at hm
      · rename_i hn0
        subst hn0
        cases hm
        rw [List.length_append, List.length_singleton] at hRc
        refine W.anewA (t := .int) hx hb9 hown hw (hnw _ (xover_ok (Or.inl rfl))) rfl hdg rfl (by decide) (by decide) (by omega) (by show ks - kb + 0 ≤ _; omega) fun cA kA comp f1 f2 f3 f4 => ?_
        have ecA : cA = tA 3 := Option.some.inj (f1.symm.trans (hK.2 3 (by decide)).1)
        subst ecA
        have hk := kk (H.push { cls := tA 3, slots := Array.replicate (0 : Int32).toNatClampNeg .null, vm := .none }) locs ls (by rw [Array.size_push, hz, List.length_append, List.length_singleton]; omega) (xP_push hP hz (by
            unfold xcell
            rw [if_neg (by show ¬ 103 < 100; omega), Array.getElem?_push_size]
            rfl) (fun q hq => by rw [Array.getElem?_push, if_neg (Nat.ne_of_lt hq)])) ⟨Nat.le_trans hS.1 (by rw [Array.size_push]; omega), fun q h1 h2 => by rw [Array.getElem?_push, if_neg (by have := hS.1; omega)]; exact hS.2.1 q h1 h2, hS.2.2⟩ hl
        rw [List.length_append, List.length_singleton, show h.length + 1 - hb = h.length - hb + 1 by omega] at hk
        simp only [List.map_cons, xv] at hk
        rw [xad_new, ← hz] at hk
        exact hk
      · cases hm
    · cases hm
  · cases hm
end XCP
end
section
section XTH
variable {p : Program} {l : Launch} {e : Env} {R : Room} {s : State} {m : MethodId} {args : Array Value} {below : List Frame} {meth : Method} {c : Code} {H : Heap} {locs : List Loc} {cells slots : Nat} {Q : State → Prop}
variable {free : Addr → Prop} {ls : Array Slot} {rest : List Value} {Qc : Array Value → State → Outcome → State → Prop} {XC : String → State → State → Prop}
theorem x_throwS {cc : ByteArray} {pc : Nat} (hexec : p.tables.exec = Jvm.exec) (hb : c.code = cc) (hl : l.stackTraces = false) {own cls text : String} {names : List String} {ik is ic mc ms sa : Nat} {A : Nat → Prop}
    (hown : s.vm.findClass own = some m.cls) (hcls : Bundle.fit cls = true) (hnames : ∀ n ∈ names, Bundle.fit n = true)
    (hk : (Cond.classLink own ik cls).before args s = true) (hini : (Cond.initialized cls).before args s = true) (hstr : vk_R own is text sa s) (hat : ∀ w ∈ vx_atS own ic cls names, w.before args s = true)
    (hgood : ∀ w ∈ Cond.classLink own ik cls :: Cond.initialized cls :: vx_atS own ic cls names, vx_ot w = true)
    (hU : vx_Zq Bundle.tN "UNASSIGNED_STACK" Bundle.steD A s s.heap) (hN : vx_Zq Bundle.tN "SUPPRESSED_SENTINEL" Bundle.listD A s s.heap) (hS : va_S A s.heap H locs) (hsize : ls.size = c.maxLocals)
    (d0 : decode cc pc = .ok (.new ik, 3)) (d3 : decode cc (pc + 3) = .ok (.dup, 1)) (d4 : decode cc (pc + 4) = .ok (.ldc is, 2)) (d6 : decode cc (pc + 6) = .ok (.invokespecial ic, 3)) (d9 : decode cc (pc + 9) = .ok (.athrow, 1))
    (hout : ∀ x ∈ c.exceptionTable.toList, covers x (pc + 9) = false)
    (hRframes : names.length + 3 < R.frames) (hRlocals : (rest.map fun v => v.category).sum + (13 * (names.length + 1) + 43) ≤ R.locals) (hRcells : cells + 1 ≤ R.cells) (hRslots : slots + 6 ≤ R.slots) (hlocks : meth.locks = false)
    (hx : ∀ (t : State) (ce : Cell), s.vm.Alike t.vm → t.heap.size = H.size + 1 → t.heap[H.size]? = some ce → ce.vm = .none → s.vm.findClass cls = some ce.cls → (∀ q : Nat, q < H.size → t.heap[q]? = H[q]?) → XC cls s t)
    (hf : ∀ z ∈ locs, free z.base) (hc : cells + 1 ≤ mc) (hs : slots + 6 ≤ ms) :
    W p l e R s m args below meth c H locs cells slots (vx_MQ below Qc XC args s mc ms free) (F0 m pc ls rest) := by
  intro T hT X
  have htr : e.platform.stackTraces = false := (show e.platform.stackTraces = l.stackTraces by rw [X.admits.platform]).trans hl
  have Y := vx_rebase X (R' := { frames := R.frames, locals := R.locals, cells := 1, slots := 6 }) (Nat.le_refl _) (Nat.le_refl _) hRcells hRslots
  obtain ⟨s', hA⟩ : ∃ z, z = (T.setVm s.vm).setFrames (.invoking m args :: below) := ⟨_, rfl⟩
  rw [← hA] at Y
  have hvm : s'.vm = s.vm := by rw [hA]; rfl
  have hhp : s'.heap = H := by rw [hA]; exact hT
  have hW0 : s.WarmedH s'.vm := by rw [hvm]; exact State.WarmedH.refl s
  have hat' : ∀ w ∈ vx_atS own ic cls names, w.before args s' = true := fun w hw => vx_ot_at hW0 hvm.symm (hgood w (List.mem_cons_of_mem _ (List.mem_cons_of_mem _ hw))) (hat w hw)
  have hk' : (Cond.classLink own ik cls).before args s' = true := vx_ot_at hW0 hvm.symm (hgood _ List.mem_cons_self) hk
  have hini' : (Cond.initialized cls).before args s' = true := vx_ot_at hW0 hvm.symm (hgood _ (List.mem_cons_of_mem _ List.mem_cons_self)) hini
  have hU' : vx_Zq Bundle.tN "UNASSIGNED_STACK" Bundle.steD A s' s'.heap := by rw [hhp]; exact vx_Zq.moved hW0.alike (hU.kept hS.2.1)
  have hN' : vx_Zq Bundle.tN "SUPPRESSED_SENTINEL" Bundle.listD A s' s'.heap := by rw [hhp]; exact vx_Zq.moved hW0.alike (hN.kept hS.2.1)
  have h : ∀ w ∈ Bundle.ownAtoms own ic cls names, w.before args s' = true := vx_own hat' (vx_isRefq hU'.1) (vx_isRefq hN'.1) hU'.2.word hN'.2.word
  have hown' : s'.vm.findClass own = some m.cls := by rw [hvm]; exact hown
  have hins : (Cond.instantiable cls 6).before args s' = true := h _ (by simp [Bundle.ownAtoms])
  obtain ⟨vm₁, cX, kX, hfX, hkX, -, -, X₁, st1⟩ := Y.newCold hexec (own := own) (C := cls) (index := ik) (n := 6) hown' hk' hins hini'
    (g := F0 m pc ls rest) rfl (by rw [hb]; exact d0) (Nat.le_refl _) (Nat.le_refl _)
  generalize hT1 : (T.setVm vm₁).pushCell { cls := cX, slots := kX.instanceTypes.map defaultValue, vm := .none } = T1 at X₁ st1
  have hcat : (Value.ref T.heap.size).category = 1 := rfl
  have hcellA : T1.heap[T.heap.size]? = some (freshCell cX kX) := by rw [← hT1]; exact State.heap_pushCell_size _ _
  have d3' : decode c.code (pc + 3) = .ok (.dup, 1) := by rw [hb]; exact d3
  have d4' : decode c.code (pc + 4) = .ok (.ldc is, 2) := by rw [hb]; exact d4
  have hstr' : vk_R own is text sa s' := vk_R.warm hW0 hstr
  obtain ⟨U, hsteps, hrun, hend, hW, hsame, ce, hce, hO⟩ := X₁.ctorThrowS hexec htr (own := own) (cls := cls) (names := names) (ic := ic) hown' hcls hnames h (fun x hx => nomatch hx) hfX hkX hcellA (by rw [hhp, hT]; exact Nat.le_refl _) (msg := .ref sa) rfl
    (g := { method := m, pc := pc + 6, locals := ls, stack := .ref sa :: .ref T.heap.size :: .ref T.heap.size :: rest, locked := none }) rfl hsize rfl rfl (rest := rest) rfl
    (by rw [hb]; exact d6) (by rw [hb]; exact d9) hout hRframes (by simp only [List.map_cons, List.sum_cons, hcat]; omega) hlocks
  obtain ⟨f1, f2⟩ := vx_frame hsame
  rw [hhp] at f1 f2
  have hz1 : U.heap.size = H.size + 1 := by
    have a1 : U.heap.size ≤ s'.heap.size + 1 := hsame.2.2.1
    rw [hhp] at a1
    have b1 : T.heap.size < U.heap.size := (Array.getElem?_eq_some_iff.mp hce).1
    rw [hT] at b1
    omega
  have hWs : s.WarmedH U.vm := State.WarmedH.trans hW0 hW
  have hcl : s.vm.findClass cls = some ce.cls := by
    have h9 := hO.cls
    rw [hvm] at h9
    exact h9
  have hall : s.sameButNew ({ U with vm := s.vm } : State) locs mc ms := by
    subst hA
    obtain ⟨e1, e2⟩ := hsame
    rw [State.setFrames_setFrames] at e1
    have h2 : (T.setVm s.vm).sameButNew ({ U with vm := s.vm } : State) [] (0 + 1) (0 + 6) := ⟨e1, e2⟩
    have h3 := X.same.trans h2
    rw [List.append_nil] at h3
    exact h3.mono hc hs
  refine ⟨U, ?_, .threw T.heap.size, hrun, hend, Or.inr ⟨T.heap.size, rfl, cls, ce, locs, hx U ce hWs.alike hz1 (by rw [← hT]; exact hce) hO.vm hcl (fun q hq => f2 q hq (fun z hz => nomatch hz)), hce, hO.vm, hcl, hWs, hall, hf⟩⟩
  refine st1 _ ?_
  show Steps p.tables e below (T1.setTop { method := m, pc := pc + 3, locals := ls, stack := .ref T.heap.size :: rest, locked := none }) _
  jvm_step X₁.here [X₁.here.top, hexec, d3', Value.category]
  exact X₁.ldcString hexec (own := own) (text := text) (index := is) (a := sa) hown' hstr'.1 hstr'.2
    (g := { method := m, pc := pc + 4, locals := ls, stack := .ref T.heap.size :: .ref T.heap.size :: rest, locked := none }) rfl d4' _ hsteps
theorem x_throwSW {cc : ByteArray} {pc : Nat} (hexec : p.tables.exec = Jvm.exec) (hb : c.code = cc) (hl : l.stackTraces = false) {own cls text : String} {names : List String} {ik is ic mc ms sa : Nat} {A : Nat → Prop}
    (hown : s.vm.findClass own = some m.cls) (hcls : Bundle.fit cls = true) (hnames : ∀ n ∈ names, Bundle.fit n = true)
    (hk : (Cond.classLink own ik cls).before args s = true) (hini : (Cond.initialized cls).before args s = true) (hstr : vk_R own is text sa s) (hat : ∀ w ∈ vx_atS own ic cls names, w.before args s = true)
    (hgood : ∀ w ∈ Cond.classLink own ik cls :: Cond.initialized cls :: vx_atS own ic cls names, vx_ot w = true)
    (hU : vx_Zq Bundle.tN "UNASSIGNED_STACK" Bundle.steD A s s.heap) (hN : vx_Zq Bundle.tN "SUPPRESSED_SENTINEL" Bundle.listD A s s.heap) (hS : va_S A s.heap H locs) (hsize : ls.size = c.maxLocals)
    (d0 : decode cc pc = .ok (.new ik, 3)) (d3 : decode cc (pc + 3) = .ok (.dup, 1)) (d4 : decode cc (pc + 4) = .ok (.ldc_w is, 3)) (d7 : decode cc (pc + 7) = .ok (.invokespecial ic, 3)) (d10 : decode cc (pc + 10) = .ok (.athrow, 1))
    (hout : ∀ x ∈ c.exceptionTable.toList, covers x (pc + 10) = false)
    (hRframes : names.length + 3 < R.frames) (hRlocals : (rest.map fun v => v.category).sum + (13 * (names.length + 1) + 43) ≤ R.locals) (hRcells : cells + 1 ≤ R.cells) (hRslots : slots + 6 ≤ R.slots) (hlocks : meth.locks = false)
    (hx : ∀ (t : State) (ce : Cell), s.vm.Alike t.vm → t.heap.size = H.size + 1 → t.heap[H.size]? = some ce → ce.vm = .none → s.vm.findClass cls = some ce.cls → (∀ q : Nat, q < H.size → t.heap[q]? = H[q]?) → XC cls s t)
    (hf : ∀ z ∈ locs, free z.base) (hc : cells + 1 ≤ mc) (hs : slots + 6 ≤ ms) :
    W p l e R s m args below meth c H locs cells slots (vx_MQ below Qc XC args s mc ms free) (F0 m pc ls rest) := by
  intro T hT X
  have htr : e.platform.stackTraces = false := (show e.platform.stackTraces = l.stackTraces by rw [X.admits.platform]).trans hl
  have Y := vx_rebase X (R' := { frames := R.frames, locals := R.locals, cells := 1, slots := 6 }) (Nat.le_refl _) (Nat.le_refl _) hRcells hRslots
  obtain ⟨s', hA⟩ : ∃ z, z = (T.setVm s.vm).setFrames (.invoking m args :: below) := ⟨_, rfl⟩
  rw [← hA] at Y
  have hvm : s'.vm = s.vm := by rw [hA]; rfl
  have hhp : s'.heap = H := by rw [hA]; exact hT
  have hW0 : s.WarmedH s'.vm := by rw [hvm]; exact State.WarmedH.refl s
  have hat' : ∀ w ∈ vx_atS own ic cls names, w.before args s' = true := fun w hw => vx_ot_at hW0 hvm.symm (hgood w (List.mem_cons_of_mem _ (List.mem_cons_of_mem _ hw))) (hat w hw)
  have hk' : (Cond.classLink own ik cls).before args s' = true := vx_ot_at hW0 hvm.symm (hgood _ List.mem_cons_self) hk
  have hini' : (Cond.initialized cls).before args s' = true := vx_ot_at hW0 hvm.symm (hgood _ (List.mem_cons_of_mem _ List.mem_cons_self)) hini
  have hU' : vx_Zq Bundle.tN "UNASSIGNED_STACK" Bundle.steD A s' s'.heap := by rw [hhp]; exact vx_Zq.moved hW0.alike (hU.kept hS.2.1)
  have hN' : vx_Zq Bundle.tN "SUPPRESSED_SENTINEL" Bundle.listD A s' s'.heap := by rw [hhp]; exact vx_Zq.moved hW0.alike (hN.kept hS.2.1)
  have h : ∀ w ∈ Bundle.ownAtoms own ic cls names, w.before args s' = true := vx_own hat' (vx_isRefq hU'.1) (vx_isRefq hN'.1) hU'.2.word hN'.2.word
  have hown' : s'.vm.findClass own = some m.cls := by rw [hvm]; exact hown
  have hins : (Cond.instantiable cls 6).before args s' = true := h _ (by simp [Bundle.ownAtoms])
  obtain ⟨vm₁, cX, kX, hfX, hkX, -, -, X₁, st1⟩ := Y.newCold hexec (own := own) (C := cls) (index := ik) (n := 6) hown' hk' hins hini'
    (g := F0 m pc ls rest) rfl (by rw [hb]; exact d0) (Nat.le_refl _) (Nat.le_refl _)
  generalize hT1 : (T.setVm vm₁).pushCell { cls := cX, slots := kX.instanceTypes.map defaultValue, vm := .none } = T1 at X₁ st1
  have hcat : (Value.ref T.heap.size).category = 1 := rfl
  have hcellA : T1.heap[T.heap.size]? = some (freshCell cX kX) := by rw [← hT1]; exact State.heap_pushCell_size _ _
  have d3' : decode c.code (pc + 3) = .ok (.dup, 1) := by rw [hb]; exact d3
  have d4' : decode c.code (pc + 4) = .ok (.ldc_w is, 3) := by rw [hb]; exact d4
  have hstr' : vk_R own is text sa s' := vk_R.warm hW0 hstr
  obtain ⟨U, hsteps, hrun, hend, hW, hsame, ce, hce, hO⟩ := X₁.ctorThrowS hexec htr (own := own) (cls := cls) (names := names) (ic := ic) hown' hcls hnames h (fun x hx => nomatch hx) hfX hkX hcellA (by rw [hhp, hT]; exact Nat.le_refl _) (msg := .ref sa) rfl
    (g := { method := m, pc := pc + 7, locals := ls, stack := .ref sa :: .ref T.heap.size :: .ref T.heap.size :: rest, locked := none }) rfl hsize rfl rfl (rest := rest) rfl
    (by rw [hb]; exact d7) (by rw [hb]; exact d10) hout hRframes (by simp only [List.map_cons, List.sum_cons, hcat]; omega) hlocks
  obtain ⟨f1, f2⟩ := vx_frame hsame
  rw [hhp] at f1 f2
  have hz1 : U.heap.size = H.size + 1 := by
    have a1 : U.heap.size ≤ s'.heap.size + 1 := hsame.2.2.1
    rw [hhp] at a1
    have b1 : T.heap.size < U.heap.size := (Array.getElem?_eq_some_iff.mp hce).1
    rw [hT] at b1
    omega
  have hWs : s.WarmedH U.vm := State.WarmedH.trans hW0 hW
  have hcl : s.vm.findClass cls = some ce.cls := by
    have h9 := hO.cls
    rw [hvm] at h9
    exact h9
  have hall : s.sameButNew ({ U with vm := s.vm } : State) locs mc ms := by
    subst hA
    obtain ⟨e1, e2⟩ := hsame
    rw [State.setFrames_setFrames] at e1
    have h2 : (T.setVm s.vm).sameButNew ({ U with vm := s.vm } : State) [] (0 + 1) (0 + 6) := ⟨e1, e2⟩
    have h3 := X.same.trans h2
    rw [List.append_nil] at h3
    exact h3.mono hc hs
  refine ⟨U, ?_, .threw T.heap.size, hrun, hend, Or.inr ⟨T.heap.size, rfl, cls, ce, locs, hx U ce hWs.alike hz1 (by rw [← hT]; exact hce) hO.vm hcl (fun q hq => f2 q hq (fun z hz => nomatch hz)), hce, hO.vm, hcl, hWs, hall, hf⟩⟩
  refine st1 _ ?_
  show Steps p.tables e below (T1.setTop { method := m, pc := pc + 3, locals := ls, stack := .ref T.heap.size :: rest, locked := none }) _
  jvm_step X₁.here [X₁.here.top, hexec, d3', Value.category]
  exact X₁.ldcStringW hexec (own := own) (text := text) (index := is) (a := sa) hown' hstr'.1 hstr'.2
    (g := { method := m, pc := pc + 4, locals := ls, stack := .ref T.heap.size :: .ref T.heap.size :: rest, locked := none }) rfl d4' _ hsteps
end XTH
end
section
section XTC
abbrev xsup : List String := ["java/lang/RuntimeException", "java/lang/Exception"]
def xthrK : List (Nat × Nat × Nat) := ((List.range xNM).flatMap (fun μ => (xthrT μ).map (fun q => (xmo μ, q.2.2.2.2.1, q.2.1)))).eraseDups
def xthkC (q : Nat × Nat × Nat) : Bool := match xcl[q.2.2]? with
  | some (C, _, N) => decide (N = 0) && decide (q.2.2 < 100) && Bundle.fit C && xsup.all (fun n => Bundle.fit n) && (vx_atS (xown q.1) q.2.1 C xsup).all (fun w => vx_ot w && (goodWord w || xnwB w) && decide (w ∈ lw_tbl))
  | none => false
set_option maxRecDepth 100000 in
theorem xthk_all : xthrK.all xthkC = true := by decide +kernel
def xthrC (μ : Nat) (q : Nat × Nat × Nat × Nat × Nat × Nat × Nat × Nat) : Bool := match xcl[q.2.1]? with
  | some (C, _, _) => decide ((xmo μ, q.2.2.2.2.1, q.2.1) ∈ xthrK) && xig (.classLink (xown (xmo μ)) q.2.2.1 C) q.2.2.2.2.2.2.1 && xig (.initialized C) q.2.2.2.2.2.2.2 && vx_ot (.classLink (xown (xmo μ)) q.2.2.1 C) && vx_ot (.initialized C) &&
      xstrT.any (fun z => decide (z.1 = xmo μ) && decide (z.2.1 = q.2.2.2.1)) && decide ((xmc μ)[q.1]? = some (some (.new q.2.2.1))) && decide ((xmc μ)[q.1 + 3]? = some (some .dup)) &&
      (if q.2.2.2.2.2.1 = 0 then decide ((xmc μ)[q.1 + 4]? = some (some (.ldc q.2.2.2.1))) && decide ((xmc μ)[q.1 + 6]? = some (some (.invokespecial q.2.2.2.2.1))) && decide ((xmc μ)[q.1 + 9]? = some (some .athrow))
       else decide ((xmc μ)[q.1 + 4]? = some (some (.ldc_w q.2.2.2.1))) && decide ((xmc μ)[q.1 + 7]? = some (some (.invokespecial q.2.2.2.2.1))) && decide ((xmc μ)[q.1 + 10]? = some (some .athrow))) && decide (5 < xmf μ) && decide (82 ≤ xmlo μ)
  | none => false
set_option maxRecDepth 100000 in
theorem xthr_all : (List.range xNM).all (fun μ => (xthrT μ).all (xthrC μ)) = true := by decide +kernel
theorem xthr_out {μ : Nat} (h : ¬ μ < xNM) : xthrT μ = [] := by
  unfold xNM at h
  unfold xthrT
  split <;> first | omega | rfl
end XTC
end
section
section XLC
theorem xlg_m (ad : Nat → Nat) : ∀ as : List Value, (lg_sl (as.map (xv ad))).length = (lg_sl as).length
  | [] => rfl
  | v :: r => by
    unfold lg_sl
    rw [List.map_cons, List.flatMap_cons, List.flatMap_cons, List.length_append, List.length_append, xv_cat]
    have := xlg_m ad r
    unfold lg_sl at this
    rw [this]
    split <;> rfl
theorem xlv_m (ad : Nat → Nat) : ∀ (as : List Value) (k : Nat), lv_args k (as.map (xv ad)) = xm ad (lv_args k as)
  | [], _ => rfl
  | v :: r, k => by
    unfold lv_args
    rw [List.map_cons]
    dsimp only
    rw [xv_cat, xlv_m ad r]
    rfl
variable {p : Program} {l : Launch} {e : Env} {R : Room} {s : State} {m : MethodId} {args : Array Value} {below : List Frame} {meth : Method} {c : Code} {Q : State → Prop}
theorem x_thr {D : va_G} {tA : Nat → ClassId} {old : Nat → Nat} {n0 hb kb μ pc ci : Nat} {lv : xL} {h : xH} {ks : Nat} {r : Nat × Nat × Nat × Nat × Nat × Nat}
    (hx : p.tables.exec = Jvm.exec) (hb9 : c.code = xmb μ) (hml : c.maxLocals = xml μ) (hown : s.vm.findClass (xown (xmo μ)) = some m.cls) (hts : ∀ w ∈ xgw, w.before args s = true) (hnw : ∀ w ∈ xnw, w.before args s = true) (hK : xK D tA s) (hZ : xZ old n0 s) (hnoh : ∀ x ∈ c.exceptionTable.toList, False) (hlocks : meth.locks = false) (hst : l.stackTraces = false)
    (hRf : xmf μ ≤ R.frames) (hRl : xmlo μ ≤ R.locals) (hlb : hb ≤ h.length) (hkb : kb ≤ ks) (ht : xfnd (xthrT μ) pc = some (ci, r)) (hRc : (h ++ [(ci, [])]).length - hb ≤ R.cells) (hRs : ks + 6 - kb ≤ R.slots) :
    xG p l e R s m args below meth c (vx_MQ below (xQc D tA old n0 (some ci, none, h ++ [(ci, [])], ks + 6)) (xXc D tA old n0 (some ci, none, h ++ [(ci, [])], ks + 6)) args s ((h ++ [(ci, [])]).length - hb) (ks + 6 - kb) (fun q => n0 ≤ q)) D tA old n0 hb kb (xml μ) pc lv [] h ks := by
  obtain ⟨ik, is, ic, wd, p1, p2⟩ := r
  have hm := xfnd_mem ht
  have hμ : μ < xNM := by
    rcases Nat.lt_or_ge μ xNM with q | q
    · exact q
    · rw [xthr_out (by omega)] at hm
      cases hm
  have h1 := List.all_eq_true.mp (List.all_eq_true.mp xthr_all μ (List.mem_range.mpr hμ)) _ hm
  unfold xthrC at h1
  dsimp only at h1
  split at h1
  · rename_i C T N hc
    simp only [Bool.and_eq_true, decide_eq_true_eq] at h1
    obtain ⟨⟨⟨⟨⟨⟨⟨⟨⟨⟨hk, w1⟩, w2⟩, o1⟩, o2⟩, hs⟩, c0⟩, c3⟩, hcc⟩, hf5⟩, hl82⟩ := h1
    have h2 := List.all_eq_true.mp xthk_all _ hk
    unfold xthkC at h2
    dsimp only at h2
    rw [hc] at h2
    simp only [Bool.and_eq_true, decide_eq_true_eq] at h2
    obtain ⟨⟨⟨⟨hN, hlt⟩, hfit⟩, hsup⟩, hat⟩ := h2
    subst hN
    obtain ⟨z, hz1, hz2⟩ := List.any_eq_true.mp hs
    simp only [Bool.and_eq_true, decide_eq_true_eq] at hz2
    obtain ⟨sa, hsa⟩ := hZ.2.2.1 z hz1
    rw [hz2.1, hz2.2] at hsa
    have hdec : ∀ (k : Nat) (i : Instr) (n : Nat), (xmc μ)[k]? = some (some i) → xlen i = n + 1 → decode (xmb μ) k = .ok (i, n + 1) := fun k i n h9 hn => by
      have := xchk_ok (xdec μ) h9
      rw [Nat.zero_add] at this
      exact xdl this hn
    have hats : ∀ w ∈ vx_atS (xown (xmo μ)) ic C xsup, vx_ot w = true ∧ w.before args s = true := fun w hw => by
      have h9 := List.all_eq_true.mp hat w hw
      simp only [Bool.and_eq_true, Bool.or_eq_true, decide_eq_true_eq] at h9
      refine ⟨h9.1.1, ?_⟩
      rcases h9.1.2 with h8 | h8
      · exact hts _ (List.mem_filter.mpr ⟨h9.2, h8⟩)
      · exact hnw _ (List.mem_filter.mpr ⟨h9.2, h8⟩)
    intro H locs ls hz hP hS hl
    have hgood : ∀ w ∈ Jvm.Cond.classLink (xown (xmo μ)) ik C :: Jvm.Cond.initialized C :: vx_atS (xown (xmo μ)) ic C xsup, vx_ot w = true := fun w hw => by
      rcases List.mem_cons.mp hw with rfl | hw
      · exact o1
      · rcases List.mem_cons.mp hw with rfl | hw
        · exact o2
        · exact (hats w hw).1
    have hXC : ∀ (t : State) (ce : Cell), s.vm.Alike t.vm → t.heap.size = H.size + 1 → t.heap[H.size]? = some ce → ce.vm = .none → s.vm.findClass C = some ce.cls → (∀ q : Nat, q < H.size → t.heap[q]? = H[q]?) → xXc D tA old n0 (some ci, none, h ++ [(ci, [])], ks + 6) C s t := fun t ce hal hz9 hce hcv hcl hq => by
      refine ⟨⟨⟨ci, C, T, 0, rfl, hc, rfl⟩, by rw [hz9, hz]; simp only [List.length_append, List.length_singleton]; omega, xP_push hP hz ?_ hq⟩, by have := hS.1; omega, fun q h7 h8 => (hq q (Nat.lt_of_lt_of_le h7 hS.1)).trans (hS.2.1 q h7 h8)⟩
      unfold xcell
      rw [if_pos hlt]
      obtain ⟨-, hfc, -⟩ := hK.1.1 _ _ hc
      exact ⟨_, hc, ce, hce, Option.some.inj (hcl.symm.trans hfc), hcv, fun k hk => absurd hk (Nat.not_lt_zero k)⟩
    rw [List.length_append, List.length_singleton] at hRc ⊢
    by_cases hw : wd = 0
    · rw [if_pos hw] at hcc
      simp only [Bool.and_eq_true, decide_eq_true_eq] at hcc
      exact x_throwS (own := xown (xmo μ)) (cls := C) (names := xsup) (ik := ik) (is := is) (ic := ic) (A := fun q => n0 ≤ q) hx hb9 hst hown hfit (fun n hn => List.all_eq_true.mp hsup n hn) (hts _ (xig_mem w1)) (hts _ (xig_mem w2)) hsa (fun w hw => (hats w hw).2) hgood hZ.1 hZ.2.1 hS (hl.1.trans hml.symm)
        (hdec _ _ 2 c0 rfl) (hdec _ _ 0 c3 rfl) (hdec _ _ 1 hcc.1.1 rfl) (hdec _ _ 2 hcc.1.2 rfl) (hdec _ _ 0 hcc.2 rfl) (fun x hx => (hnoh x hx).elim) (Nat.lt_of_lt_of_le hf5 hRf) (Nat.le_trans hl82 hRl) (by omega) (by omega) hlocks hXC hS.2.2 (by omega) (by omega)
    · rw [if_neg hw] at hcc
      simp only [Bool.and_eq_true, decide_eq_true_eq] at hcc
      exact x_throwSW (own := xown (xmo μ)) (cls := C) (names := xsup) (ik := ik) (is := is) (ic := ic) (A := fun q => n0 ≤ q) hx hb9 hst hown hfit (fun n hn => List.all_eq_true.mp hsup n hn) (hts _ (xig_mem w1)) (hts _ (xig_mem w2)) hsa (fun w hw => (hats w hw).2) hgood hZ.1 hZ.2.1 hS (hl.1.trans hml.symm)
        (hdec _ _ 2 c0 rfl) (hdec _ _ 0 c3 rfl) (hdec _ _ 2 hcc.1.1 rfl) (hdec _ _ 2 hcc.1.2 rfl) (hdec _ _ 0 hcc.2 rfl) (fun x hx => (hnoh x hx).elim) (Nat.lt_of_lt_of_le hf5 hRf) (Nat.le_trans hl82 hRl) (by omega) (by omega) hlocks hXC hS.2.2 (by omega) (by omega)
  · cases h1
end XLC
end
section
/-! a throw that is caught in the method -/
section XCA
def xcatC (μ : Nat) (q : Nat × Nat × Nat × Nat) : Bool := decide (q.2.2.2 ≠ 0) && (match xfnd (xnewT (xmo μ)) q.2.2.2 with
  | some (ci, w1, _) => (match xcl[ci]? with
    | some (C, _, _) => xig (.classLink (xown (xmo μ)) q.2.2.2 C) w1 && xnwB (.castable C C) && decide (Jvm.Cond.castable C C ∈ lw_tbl)
    | none => false)
  | none => true)
set_option maxRecDepth 100000 in
theorem xcat_all : (List.range xNM).all (fun μ => (xmh μ).all (xcatC μ)) = true := by decide +kernel
set_option maxRecDepth 100000 in
theorem xmh_out {μ : Nat} (h : ¬ μ < xNM) : xmh μ = [] := by
  unfold xNM at h
  unfold xmh
  split <;> first | omega | rfl
theorem xcat_ok {μ : Nat} {q : Nat × Nat × Nat × Nat} (hm : q ∈ xmh μ) : xcatC μ q = true := by
  by_cases hμ : μ < xNM
  · exact List.all_eq_true.mp (List.all_eq_true.mp xcat_all μ (List.mem_range.mpr hμ)) _ hm
  · rw [xmh_out hμ] at hm
    cases hm
theorem xhnd_ok {o pc ci hp : Nat} : ∀ {rows : List (Nat × Nat × Nat × Nat)}, xhnd o pc ci rows = some hp → ∃ pre x suf r', rows = pre ++ x :: suf ∧ x.2.2.1 = hp ∧ (x.1 ≤ pc ∧ pc < x.2.1) ∧ xfnd (xnewT o) x.2.2.2 = some (ci, r') ∧
    ∀ z ∈ pre, ¬ (z.1 ≤ pc ∧ pc < z.2.1) ∨ ∃ ci' r'', xfnd (xnewT o) z.2.2.2 = some (ci', r'') ∧ xnc ci ci' = true := by
  intro rows
  induction rows with
  | nil => intro h; cases h
  | cons q rows ih =>
    intro h
    obtain ⟨qs, qe, qh, qc⟩ := q
    unfold xhnd at h
    split at h
    · rename_i hcov
      split at h
      · rename_i ci' r' hf
        split at h
        · rename_i he
          subst he
          exact ⟨[], _, rows, r', rfl, Option.some.inj h, hcov, hf, fun z hz => by cases hz⟩
        · split at h
          · rename_i hnc
            obtain ⟨pre, x, suf, r9, e1, e2, e3, e4, e5⟩ := ih h
            exact ⟨(qs, qe, qh, qc) :: pre, x, suf, r9, by rw [e1]; rfl, e2, e3, e4, fun z hz => (List.mem_cons.mp hz).elim (fun e => by subst e; exact Or.inr ⟨_, _, hf, hnc⟩) (e5 z)⟩
          · cases h
      · cases h
    · rename_i hcov
      obtain ⟨pre, x, suf, r9, e1, e2, e3, e4, e5⟩ := ih h
      exact ⟨(qs, qe, qh, qc) :: pre, x, suf, r9, by rw [e1]; rfl, e2, e3, e4, fun z hz => (List.mem_cons.mp hz).elim (fun e => by subst e; exact Or.inl hcov) (e5 z)⟩
theorem xnc_ok {ci ci' : Nat} {C C' : String} {T T' : u_T} {N N' : Nat} (h : xnc ci ci' = true) (hc : xcl[ci]? = some (C, T, N)) (hc' : xcl[ci']? = some (C', T', N')) : (C, C') ∈ xncT := by
  unfold xnc at h
  rw [hc, hc'] at h
  dsimp only at h
  obtain ⟨z, h1, h2⟩ := List.any_eq_true.mp h
  simp only [Bool.and_eq_true, decide_eq_true_eq] at h2
  obtain ⟨rfl, rfl⟩ := h2
  exact h1
theorem xdel_has {ls : Array Slot} {nL j : Nat} {q : Nat} {lv : xL} {ad : Nat → Nat} (h : lv_has ls nL ((j, Value.ref q) :: (xm ad lv).filter (fun q => !(q.1 == j) && !(q.1 + 1 == j && q.2.category == 2)))) : lv_has ls nL (xm ad (xdel j lv)) := by
  have e : (xm ad lv).filter (fun q => !(q.1 == j) && !(q.1 + 1 == j && q.2.category == 2)) = xm ad (xdel j lv) := by
    have := xs1_m j (.int 0) lv ad
    exact (List.cons.inj this).2
  rw [e] at h
  exact ⟨h.1, h.2.1, fun z hz => h.2.2 z (List.mem_cons_of_mem _ hz)⟩
variable {p : Program} {l : Launch} {e : Env} {R : Room} {s : State} {m : MethodId} {args : Array Value} {below : List Frame} {meth : Method} {c : Code} {H : Heap} {locs : List Loc} {cells slots : Nat} {Q : State → Prop}
theorem x_ccat {D : va_G} {tA : Nat → ClassId} {old : Nat → Nat} {n0 hb kb μ mc ms pc pc' hp j ci : Nat} {lv : xL} {ls : Array Slot} {st0 rest : List Value} {a : Array Value} {out : xO} {h' : xH} {ks' : Nat} {r : Option Value}
    (hx : p.tables.exec = Jvm.exec) (hb9 : c.code = xmb μ) (hown : s.vm.findClass (xown (xmo μ)) = some m.cls) (hts : ∀ w ∈ xgw, w.before args s = true) (hnw : ∀ w ∈ xnw, w.before args s = true) (hZ : xZ old n0 s)
    (hr : vx_Run p l e R s m args below meth c H locs cells slots mc ms (F0 m pc ls st0) rest (xQc D tA old n0 out a) (xXc D tA old n0 out) (fun q => n0 ≤ q)) (ho : out = (some ci, r, h', ks')) (hS : va_S (fun q => n0 ≤ q) s.heap H locs)
    (htab : c.exceptionTable.toList = tableOf (xmh μ)) (hct : xctch (xmo μ) μ pc ci (xmc μ) = some (hp, pc', j)) (hj : j < xml μ) (hl : lv_has ls (xml μ) (xm (xad old n0) lv)) (hcc : cells + mc = h'.length - hb) (hss : slots + ms = ks' - kb)
    (kk : xG p l e R s m args below meth c Q D tA old n0 hb kb (xml μ) pc' (xdel j lv) [] h' ks') :
    W p l e R s m args below meth c H locs cells slots Q (F0 m pc ls st0) := by
  subst ho
  intro T hT X
  rcases hr T hT X with ⟨v, st₀, t, T', L, h0, X', hL, e1, e2, ⟨⟨hv, -⟩, -⟩, -⟩ | ⟨q, st₀, t, T', L, E, ce, h0, X', hL, e1, e2, ⟨⟨⟨ci2, C, T9, N, hx1, hx2, hx3⟩, hsz, hp9⟩, hF⟩, hce, hcv, hcl, st⟩
  · cases hv
  · cases hx1
    subst hx3
    obtain ⟨k1, k2, k3⟩ := vx_keep h0 e1 hS (fun _ _ h => h) (fun _ h => h) hL hF
    have hh : ∃ hp9, xhnd (xmo μ) pc ci (xmh μ) = some hp9 ∧ ((∃ k : Fin 4, (xmc μ)[hp9]? = some (some (.astore_n k)) ∧ hp = hp9 ∧ pc' = hp9 + 1 ∧ j = k) ∨ ((xmc μ)[hp9]? = some (some (.astore j)) ∧ hp = hp9 ∧ pc' = hp9 + 2)) := by
      unfold xctch at hct
      split at hct
      · rename_i hp9 hh9
        refine ⟨hp9, hh9, ?_⟩
        split at hct
        · rename_i k hk
          cases hct
          exact Or.inl ⟨k, hk, rfl, rfl, rfl⟩
        · rename_i k hk
          cases hct
          exact Or.inr ⟨hk, rfl, rfl⟩
        · cases hct
      · cases hct
    obtain ⟨hp9, hh9, hi9⟩ := hh
    obtain ⟨pre, x, suf, r', f1, f2, f3, f4, f5⟩ := xhnd_ok hh9
    have hxm : x ∈ xmh μ := by rw [f1]; exact List.mem_append_right _ List.mem_cons_self
    have hxc := xcat_ok hxm
    unfold xcatC at hxc
    rw [f4] at hxc
    dsimp only at hxc
    rw [hx2] at hxc
    simp only [Bool.and_eq_true, decide_eq_true_eq] at hxc
    obtain ⟨g1, ⟨g2, g3⟩, g4⟩ := hxc
    have hpass : ∀ z ∈ tableOf pre, covers z pc = false ∨ (z.catchType ≠ 0 ∧ ∃ nm : String, (Cond.classLink (xown (xmo μ)) z.catchType nm).before args s = true ∧ va_Nc E nm s) := by
      intro z hz
      obtain ⟨y, hy, rfl⟩ := List.mem_map.mp hz
      rcases f5 y hy with f5 | ⟨ci', r'', f5, f6⟩
      · refine Or.inl ?_
        unfold covers
        dsimp only
        simp only [Bool.and_eq_false_iff, decide_eq_false_iff_not]
        omega
      · refine Or.inr ?_
        have hyc := xcat_ok (μ := μ) (q := y) (by rw [f1]; exact List.mem_append_left _ hy)
        unfold xcatC at hyc
        rw [f5] at hyc
        dsimp only at hyc
        split at hyc
        · rename_i C' T' N' hc'
          simp only [Bool.and_eq_true, decide_eq_true_eq] at hyc
          exact ⟨hyc.1, C', hts _ (xig_mem hyc.2.1.1), hZ.2.2.2.1 _ (xnc_ok f6 hx2 hc')⟩
        · simp at hyc
    have hw := vx_catch (p := p) (l := l) (e := e) (R := R) (s := s) (m := m) (args := args) (below := below) (meth := meth) (c := c) (H := T'.heap) (locs := locs ++ L) (cells := cells + mc) (slots := slots + ms) (Q := Q) (pc := pc) (ls := ls) (rest := rest) (E := E) (ce := ce) (q := q) (name := E) hown (tableOf pre) ⟨x.1, x.2.1, x.2.2.1, x.2.2.2⟩ (tableOf suf)
      (by rw [htab, f1]; unfold tableOf; rw [List.map_append, List.map_cons]) hpass (by unfold covers; dsimp only; simp only [Bool.and_eq_true, decide_eq_true_eq]; exact f3) g1 (hts _ (xig_mem g2)) (hnw _ (List.mem_filter.mpr ⟨g4, g3⟩)) (by rw [e1]; exact hce) hcv hcl
      (by
        dsimp only
        rw [f2, hcc, hss]
        rcases hi9 with ⟨k, hk, rfl, rfl, rfl⟩ | ⟨hk, rfl, rfl⟩
        · have hd := xchk_ok (xdec μ) hk
          rw [Nat.zero_add] at hd
          exact lv_astore_n hx hb9 (xdl hd rfl) rfl hl hj rfl (fun ls' hl' => kk T'.heap (locs ++ L) ls' (by rw [e1]; exact hsz) (by rw [e1]; exact hp9) k3 (xdel_has hl'))
        · have hd := xchk_ok (xdec μ) hk
          rw [Nat.zero_add] at hd
          exact lv_astore hx hb9 (xdl hd rfl) hl hj rfl (fun ls' hl' => kk T'.heap (locs ++ L) ls' (by rw [e1]; exact hsz) (by rw [e1]; exact hp9) k3 (xdel_has hl')))
    obtain ⟨t2, a1, b1⟩ := hw T' rfl X'
    exact ⟨t2, st.trans a1, b1⟩
end XCA
end
section
section XLO
variable {p : Program} {l : Launch} {e : Env} {R : Room} {s : State} {m : MethodId} {args : Array Value} {below : List Frame} {meth : Method} {c : Code}
set_option maxHeartbeats 4000000 in
theorem x_end {D : va_G} {tA : Nat → ClassId} {old : Nat → Nat} {n0 hb kb μ : Nat} {out : xO} (hx : p.tables.exec = Jvm.exec) (hb9 : c.code = xmb μ) (hlocks : meth.locks = false) (hret : meth.sig.returnType = xmr μ) :
    ∀ (i : Instr) (r : Option Value) (pc : Nat) (st : List Value) (h : xH) (ks : Nat) (H : Heap) (locs : List Loc) (ls : Array Slot), xexit μ i st = some r → out = (none, r, h, ks) → decode (xmb μ) pc = .ok (i, 1) → hb ≤ h.length → kb ≤ ks → H.size = n0 + h.length → xP D tA (xad old n0) h H → va_S (fun q => n0 ≤ q) s.heap H locs →
      W p l e R s m args below meth c H locs (h.length - hb) (ks - kb) (vx_MQ below (xQc D tA old n0 out) (xXc D tA old n0 out) args s (out.2.2.1.length - hb) (out.2.2.2 - kb) (fun q => n0 ≤ q)) (F0 m pc ls (st.map (xv (xad old n0)))) := by
  intro i r pc st h ks H locs ls hr9 ho hd _ _ hz hP hS
  subst ho
  cases i <;> first | (simp [xexit] at hr9; done) | skip
  case ireturn =>
    obtain ⟨v, t, rfl, ht, hn, rfl⟩ := xexit_i hr9
    exact vx_ret (W.zret hx hb9 (hret.trans ht) hn (fun t9 ht9 hW => ⟨⟨rfl, rfl, by rw [ht9]; exact hz, by rw [ht9]; exact hP⟩, va_S.F hS ht9⟩) hS.2.2 hd hlocks)
  case lreturn =>
    obtain ⟨v, rfl, ht, rfl⟩ := xexit_l hr9
    exact vx_ret (W.lret hx hb9 (hret.trans ht) (fun t9 ht9 hW => ⟨⟨rfl, rfl, by rw [ht9]; exact hz, by rw [ht9]; exact hP⟩, va_S.F hS ht9⟩) hS.2.2 hd hlocks)
  case dreturn =>
    obtain ⟨v, rfl, ht, rfl⟩ := xexit_d hr9
    exact vx_ret (W.dret hx hb9 (hret.trans ht) (fun t9 ht9 hW => ⟨⟨rfl, rfl, by rw [ht9]; exact hz, by rw [ht9]; exact hP⟩, va_S.F hS ht9⟩) hS.2.2 hd hlocks)
  case areturn =>
    obtain ⟨v, t, rfl, ht, hrt, rfl⟩ := xexit_a hr9
    exact vx_ret (W.aret hx hb9 (hret.trans ht) hrt (Or.inr ⟨_, rfl⟩) (fun t9 ht9 hW => ⟨⟨rfl, rfl, by rw [ht9]; exact hz, by rw [ht9]; exact hP⟩, va_S.F hS ht9⟩) hS.2.2 hd hlocks)
  case return_ =>
    obtain ⟨rfl, ht, rfl⟩ := xexit_v hr9
    exact vx_ret (W.vret hx hb9 (hret.trans ht) (fun t9 ht9 hW => ⟨⟨rfl, rfl, by rw [ht9]; exact hz, by rw [ht9]; exact hP⟩, va_S.F hS ht9⟩) hS.2.2 hd hlocks)
set_option maxHeartbeats 4000000 in
theorem x_loop {call : Nat → List Value → xH → Nat → Option xO} {D : va_G} {tA : Nat → ClassId} {old : Nat → Nat} {n0 hb kb μ : Nat} {sc sc' : Option (List Int32)} {out : xO} {Q : State → Prop}
    (hE : ∀ (i : Instr) (r : Option Value) (pc : Nat) (st : List Value) (h : xH) (ks : Nat) (H : Heap) (locs : List Loc) (ls : Array Slot), xexit μ i st = some r → out = (none, r, h, ks) → decode (xmb μ) pc = .ok (i, 1) → hb ≤ h.length → kb ≤ ks → H.size = n0 + h.length → xP D tA (xad old n0) h H → va_S (fun q => n0 ≤ q) s.heap H locs → W p l e R s m args below meth c H locs (h.length - hb) (ks - kb) Q (F0 m pc ls (st.map (xv (xad old n0)))))
    (hT : out.1 = none ∨ (Q = vx_MQ below (xQc D tA old n0 out) (xXc D tA old n0 out) args s (out.2.2.1.length - hb) (out.2.2.2 - kb) (fun q => n0 ≤ q) ∧ (xmh μ = [] → ∀ x ∈ c.exceptionTable.toList, False))) (htab : xmh μ ≠ [] → c.exceptionTable.toList = tableOf (xmh μ))
    (hcall : ∀ μ' as h ks out, call μ' as h ks = some out → (xcod μ' = true ∨ xcow μ' = true) ∧ xMet l D tA old n0 sc' μ' as h ks out) (hmono : ∀ μ' as h ks out, call μ' as h ks = some out → h.length ≤ out.2.2.1.length ∧ ks ≤ out.2.2.2)
    (hx : p.tables.exec = Jvm.exec) (hb9 : c.code = xmb μ) (hml : c.maxLocals = xml μ) (hown : s.vm.findClass (xown (xmo μ)) = some m.cls) (hts : ∀ w ∈ xgw, w.before args s = true) (hnw : ∀ w ∈ xnw, w.before args s = true) (hK : xK D tA s) (hX : xX sc old n0 s) (hX' : xX sc' old n0 s)
    (hini : xini μ = true → meth.name = "<init>") (hn0 : n0 ≤ s.heap.size) (hlocks : meth.locks = false) (hret : meth.sig.returnType = xmr μ) (hZ : xZ old n0 s) (hRf : xmf μ ≤ R.frames) (hRl : xmlo μ ≤ R.locals) (hRc : out.2.2.1.length - hb ≤ R.cells) (hRs : out.2.2.2 - kb ≤ R.slots) (hst : l.stackTraces = false) :
    ∀ (n pc : Nat) (lv : xL) (st : List Value) (h : xH) (ks : Nat), xloop call sc μ (xmo μ) (xml μ) (xini μ) (xmc μ) n pc lv st h ks = some out → hb ≤ h.length → kb ≤ ks →
      xG p l e R s m args below meth c Q D tA old n0 hb kb (xml μ) pc lv st h ks := by
  have hac : ∀ t, t < 3 → (Jvm.Cond.arrayClass (xtT t)).before args s = true := fun t ht => hts _ (xarr_ok ht)
  have hfix : CallFix p m c (xmb μ) (xml μ) s args xgw (xown (xmo μ)) := ⟨hx, hb9, hml, hown, hts⟩
  intro n
  induction n with
  | zero => intro pc lv st h ks he; cases he
  | succ n ih =>
    intro pc lv st h ks he hlb hkb
    have hmn := xloop_mono hmono _ _ _ _ _ _ _ he
    unfold xloop at he
    split at he
    · rename_i i hi
      have hd : ∃ len, decode (xmb μ) pc = .ok (i, len) ∧ (xlen i = 0 ∨ len = xlen i) := by
        have := xchk_ok (xdec μ) hi
        rwa [Nat.zero_add] at this
      have hstep : ∀ (pc' : Nat) (lv' : xL) (st' : List Value) (h' : xH) (ks' : Nat), xstep (xmo μ) (xml μ) (xini μ) sc i pc lv st h ks = some (pc', lv', st', h', ks') → xloop call sc μ (xmo μ) (xml μ) (xini μ) (xmc μ) n pc' lv' st' h' ks' = some out →
          xG p l e R s m args below meth c Q D tA old n0 hb kb (xml μ) pc lv st h ks := fun pc' lv' st' h' ks' hs hl9 => by
        have m1 := xstep_mono hs
        have m2 := xloop_mono hmono _ _ _ _ _ _ _ hl9
        exact x_step hx hb9 hown hts hnw hK hX hini hac hlb hkb hn0 hd hs (by omega) (by omega) (ih pc' lv' st' h' ks' hl9 (by omega) (by omega))
      -- a call that comes back, and the run behind it
      have hback : ∀ (k μ' : Nat) (as rest : List Value) (x : Nat) (r : Option Value) (h' : xH) (ks' : Nat), xinv (xmo μ) μ x st = some (k, μ', as, rest) → call μ' as h ks = some (none, r, h', ks') → ((k = 1 ∧ i = .invokevirtual x ∧ xrecv μ' as h = true ∧ xcod μ' = true) ∨ ((k = 2 ∨ (k = 3 ∧ xcod μ' = true)) ∧ i = .invokestatic x) ∨ ((k = 0 ∨ k = 4) ∧ i = .invokespecial x ∧ xmr μ' = none ∧ xini μ' = true ∧ xcod μ' = true)) →
          xloop call sc μ (xmo μ) (xml μ) (xini μ) (xmc μ) n (pc + 3) lv (r.toList ++ rest) h' ks' = some out →
          xG p l e R s m args below meth c Q D tA old n0 hb kb (xml μ) pc lv st h ks := fun k μ' as rest x r h' ks' hi9 hc9 hk hl9 => by
        have m1 := hmono _ _ _ _ _ hc9
        have m2 := xloop_mono hmono _ _ _ _ _ _ _ hl9
        dsimp only at m1
        obtain ⟨hcd, hM⟩ := hcall _ _ _ _ _ hc9
        obtain ⟨r', hf, hn, hcat, hfr, hlo, hsp⟩ := xinv_ok hi9
        intro H locs ls hz hP hS hl
        have hdg : decode (xmb μ) pc = .ok (i, 3) := by
          rcases hk with ⟨-, rfl, -⟩ | ⟨-, rfl⟩ | ⟨-, rfl, -⟩ <;> exact xdl hd rfl
        have hcd' : xcod μ' = true ∨ (xcow μ' = true ∧ k = 2 ∧ ((none, r, h', ks') : xO).1 = none) := by
          rcases hk with ⟨-, -, -, hk⟩ | ⟨hk | ⟨-, hk⟩, -⟩ | ⟨-, -, -, -, hk⟩
          · exact Or.inl hk
          · exact hcd.imp id (fun q => ⟨q, hk, rfl⟩)
          · exact Or.inl hk
          · exact Or.inl hk
        have hk' : (k = 1 ∧ i = .invokevirtual x ∧ xrecv μ' as h = true) ∨ ((k = 2 ∨ (k = 3 ∧ ((none, r, h', ks') : xO).1 = none)) ∧ i = .invokestatic x) ∨ ((k = 0 ∨ k = 4) ∧ i = .invokespecial x ∧ xmr μ' = none ∧ xini μ' = true ∧ ((none, r, h', ks') : xO).1 = none) := by
          rcases hk with ⟨hk, hi9, hk2, -⟩ | ⟨hk, hi9⟩ | ⟨hk, hi9, hk2, hk3, -⟩
          · exact Or.inl ⟨hk, hi9, hk2⟩
          · exact Or.inr (Or.inl ⟨hk.imp id (fun q => ⟨q.1, rfl⟩), hi9⟩)
          · exact Or.inr (Or.inr ⟨hk, hi9, hk2, hk3, rfl⟩)
        have hrun := x_run (e := e) (below := below) (meth := meth) (R := R) (cells := h.length - hb) (slots := ks - kb) hM hcd' hfix hnw hK hX' hZ hn0 hRf hRl hz hP hS hl hf hn hcat hfr hlo hsp hk' hdg (by dsimp only; omega) (by dsimp only; omega)
        refine x_cret hrun rfl hS (fun H1 locs1 hz1 hP1 hS1 => ?_)
        have := ih (pc + 3) lv (r.toList ++ rest) h' ks' hl9 (by omega) (by omega) H1 locs1 ls hz1 hP1 hS1 hl
        dsimp only
        rw [show h.length - hb + (h'.length - h.length) = h'.length - hb by omega, show ks - kb + (ks' - ks) = ks' - kb by omega, ← List.map_append, List.append_nil]
        exact this
      -- a call that throws
      have hthr : ∀ (k μ' : Nat) (as rest : List Value) (x ci : Nat) (r : Option Value) (h' : xH) (ks' : Nat), xinv (xmo μ) μ x st = some (k, μ', as, rest) → call μ' as h ks = some (some ci, r, h', ks') → ((k = 1 ∧ i = .invokevirtual x ∧ xrecv μ' as h = true) ∨ (k = 2 ∧ i = .invokestatic x)) → xcod μ' = true → xmh μ = [] →
          out = (some ci, none, h', ks') →
          xG p l e R s m args below meth c Q D tA old n0 hb kb (xml μ) pc lv st h ks := fun k μ' as rest x ci r h' ks' hi9 hc9 hk hcd hmh ho => by
        rcases hT with hT | ⟨hT, hnoh⟩
        · rw [ho] at hT
          cases hT
        subst ho
        subst hT
        have m1 := hmono _ _ _ _ _ hc9
        dsimp only at m1 hRc hRs
        obtain ⟨-, hM⟩ := hcall _ _ _ _ _ hc9
        obtain ⟨r', hf, hn, hcat, hfr, hlo, hsp⟩ := xinv_ok hi9
        intro H locs ls hz hP hS hl
        have hdg : decode (xmb μ) pc = .ok (i, 3) := by
          rcases hk with ⟨-, rfl, -⟩ | ⟨-, rfl⟩ <;> exact xdl hd rfl
        have hrun := x_run (e := e) (below := below) (meth := meth) (R := R) (cells := h.length - hb) (slots := ks - kb) hM (Or.inl hcd) hfix hnw hK hX' hZ hn0 hRf hRl hz hP hS hl hf hn hcat hfr hlo hsp (hk.imp id (fun q => Or.inl ⟨Or.inl q.1, q.2⟩)) hdg (by dsimp only; omega) (by dsimp only; omega)
        exact x_cthr hrun rfl hS (hnoh hmh) hlocks (by dsimp only; omega) (by dsimp only; omega)
      -- a call that throws, and is caught here
      have hcat9 : ∀ (k μ' : Nat) (as rest : List Value) (x ci : Nat) (r : Option Value) (h' : xH) (ks' hp pc' j : Nat), xinv (xmo μ) μ x st = some (k, μ', as, rest) → call μ' as h ks = some (some ci, r, h', ks') → ((k = 1 ∧ i = .invokevirtual x ∧ xrecv μ' as h = true) ∨ (k = 2 ∧ i = .invokestatic x)) → xcod μ' = true → xmh μ ≠ [] →
          xctch (xmo μ) μ pc ci (xmc μ) = some (hp, pc', j) → j < xml μ → xloop call sc μ (xmo μ) (xml μ) (xini μ) (xmc μ) n pc' (xdel j lv) [] h' ks' = some out →
          xG p l e R s m args below meth c Q D tA old n0 hb kb (xml μ) pc lv st h ks := fun k μ' as rest x ci r h' ks' hp pc' j hi9 hc9 hk hcd hmh hct hj hl9 => by
        have m1 := hmono _ _ _ _ _ hc9
        have m2 := xloop_mono hmono _ _ _ _ _ _ _ hl9
        dsimp only at m1
        obtain ⟨-, hM⟩ := hcall _ _ _ _ _ hc9
        obtain ⟨r', hf, hn, hcat, hfr, hlo, hsp⟩ := xinv_ok hi9
        intro H locs ls hz hP hS hl
        have hdg : decode (xmb μ) pc = .ok (i, 3) := by
          rcases hk with ⟨-, rfl, -⟩ | ⟨-, rfl⟩ <;> exact xdl hd rfl
        have hrun := x_run (e := e) (below := below) (meth := meth) (R := R) (cells := h.length - hb) (slots := ks - kb) hM (Or.inl hcd) hfix hnw hK hX' hZ hn0 hRf hRl hz hP hS hl hf hn hcat hfr hlo hsp (hk.imp id (fun q => Or.inl ⟨Or.inl q.1, q.2⟩)) hdg (by dsimp only; omega) (by dsimp only; omega)
        exact x_ccat hx hb9 hown hts hnw hZ hrun rfl hS (htab hmh) hct hj hl (by dsimp only; omega) (by dsimp only; omega) (ih pc' (xdel j lv) [] h' ks' hl9 (by omega) (by omega))
      split at he
      -- the five returns
      · split at he
        · rename_i hr9
          intro H locs ls hz hP hS hl
          exact hE _ _ pc st h ks H locs ls hr9 (Option.some.inj he).symm (xdl hd rfl) hlb hkb hz hP hS
        · cases he
      · split at he
        · rename_i hr9
          intro H locs ls hz hP hS hl
          exact hE _ _ pc st h ks H locs ls hr9 (Option.some.inj he).symm (xdl hd rfl) hlb hkb hz hP hS
        · cases he
      · split at he
        · rename_i hr9
          intro H locs ls hz hP hS hl
          exact hE _ _ pc st h ks H locs ls hr9 (Option.some.inj he).symm (xdl hd rfl) hlb hkb hz hP hS
        · cases he
      · split at he
        · rename_i hr9
          intro H locs ls hz hP hS hl
          exact hE _ _ pc st h ks H locs ls hr9 (Option.some.inj he).symm (xdl hd rfl) hlb hkb hz hP hS
        · cases he
      · split at he
        · rename_i hr9
          intro H locs ls hz hP hS hl
          exact hE _ _ pc st h ks H locs ls hr9 (Option.some.inj he).symm (xdl hd rfl) hlb hkb hz hP hS
        · cases he
      -- invokestatic
      · split at he
        · rename_i v rest hm9
          have hk9 := ih (pc + 3) lv (.int v :: rest) h ks he hlb hkb
          intro H locs ls hz hP hS hl
          have hcr : h.length - hb ≤ R.cells ∧ ks - kb ≤ R.slots := ⟨by omega, by omega⟩
          have hml' : c.maxLocals = ls.size := hml.trans hl.1.symm
          unfold xmath at hm9
          split at hm9
          · rename_i r9 hf9
            split at hm9
            · split at hm9
              · rename_i hc9
                cases hm9
                have hw := xcal_ok hf9
                simp only [xcalC, Bool.and_eq_true] at hw
                exact va_mmax hx hb9 hml' hown (hts _ (xig_mem hw.1.1.1)) (hts _ (xig_mem hw.1.1.2)) (hts _ (xig_mem hw.1.2)) (hts _ (xig_mem hw.2)) (Nat.le_trans hc9.2 hRf) (by rw [xcat_m]; exact Nat.le_trans hc9.1 hRl) hcr.1 hcr.2 (xdl hd rfl) (hk9 H locs ls hz hP hS hl)
              · cases hm9
            · cases hm9
          · rename_i r9 hf9
            split at hm9
            · split at hm9
              · rename_i hc9
                cases hm9
                have hw := xcal_ok hf9
                simp only [xcalC, Bool.and_eq_true] at hw
                exact va_mmin hx hb9 hml' hown (hts _ (xig_mem hw.1.1.1)) (hts _ (xig_mem hw.1.1.2)) (hts _ (xig_mem hw.1.2)) (hts _ (xig_mem hw.2)) (Nat.le_trans hc9.2 hRf) (by rw [xcat_m]; exact Nat.le_trans hc9.1 hRl) hcr.1 hcr.2 (xdl hd rfl) (hk9 H locs ls hz hP hS hl)
              · cases hm9
            · cases hm9
          · rename_i r9 hf9
            split at hm9
            · split at hm9
              · rename_i hc9
                cases hm9
                have hw := xcal_ok hf9
                simp only [xcalC, Bool.and_eq_true] at hw
                exact va_mabs hx hb9 hml' hown (hts _ (xig_mem hw.1.1.1)) (hts _ (xig_mem hw.1.1.2)) (hts _ (xig_mem hw.1.2)) (hts _ (xig_mem hw.2)) (Nat.le_trans hc9.2 hRf) (by rw [xcat_m]; exact Nat.le_trans hc9.1 hRl) hcr.1 hcr.2 (xdl hd rfl) (hk9 H locs ls hz hP hS hl)
              · cases hm9
            · cases hm9
          · cases hm9
        · split at he
          · rename_i hi9
            split at he
            · rename_i hk9
              split at he
              · rename_i hc9
                exact hback _ _ _ _ _ _ _ _ hi9 hc9 (Or.inr (Or.inl ⟨Or.inl hk9, rfl⟩)) he
              · rename_i hc9
                split at he
                · rename_i hcd
                  split at he
                  · rename_i hmh
                    exact hthr _ _ _ _ _ _ _ _ _ hi9 hc9 (Or.inr ⟨hk9, rfl⟩) hcd hmh (Option.some.inj he).symm
                  · rename_i hmh
                    split at he
                    · rename_i hct
                      split at he
                      · rename_i hj
                        exact hcat9 _ _ _ _ _ _ _ _ _ _ _ _ hi9 hc9 (Or.inr ⟨hk9, rfl⟩) hcd hmh hct hj he
                      · cases he
                    · cases he
                · cases he
              · cases he
            · split at he
              · rename_i hk9
                split at he
                · rename_i hc9
                  exact hback _ _ _ _ _ _ _ _ hi9 hc9 (Or.inr (Or.inl ⟨Or.inr hk9, rfl⟩)) he
                · cases he
              · cases he
          · split at he
            · rename_i hc9
              exact x_cpy hx hb9 hml hown hts hK hRf hRl hn0 (xdl hd rfl) hc9 (ih _ _ _ _ _ he (by rw [xcpy_len hc9]; exact hlb) hkb)
            · cases he
      -- invokevirtual
      · split at he
        · rename_i hi9
          split at he
          · rename_i hk9
            split at he
            · rename_i hc9
              exact hback _ _ _ _ _ _ _ _ hi9 hc9 (Or.inl ⟨hk9.1, rfl, hk9.2.1, hk9.2.2⟩) he
            · rename_i hc9
              split at he
              · rename_i hmh
                exact hthr _ _ _ _ _ _ _ _ _ hi9 hc9 (Or.inl ⟨hk9.1, rfl, hk9.2.1⟩) hk9.2.2 hmh (Option.some.inj he).symm
              · rename_i hmh
                split at he
                · rename_i hct
                  split at he
                  · rename_i hj
                    exact hcat9 _ _ _ _ _ _ _ _ _ _ _ _ hi9 hc9 (Or.inl ⟨hk9.1, rfl, hk9.2.1⟩) hk9.2.2 hmh hct hj he
                  · cases he
                · cases he
            · cases he
          · cases he
        · cases he
      -- invokespecial
      · split at he
        · rename_i hf9
          split at he
          · split at he
            · rename_i hc9
              have hk9 := ih (pc + 3) lv _ h ks he hlb hkb
              intro H locs ls hz hP hS hl
              have hw := xcal_ok hf9
              simp only [xcalC, Bool.and_eq_true] at hw
              exact W.objInit hx hb9 hown (hts _ (xig_mem hw.1.1)) (hts _ (xig_mem hw.1.2)) (hts _ (xig_mem hw.2)) rfl (by rw [hml]; exact hl.1) rfl (xdl hd rfl) (Nat.le_trans hc9.2 hRf) (by rw [xcat_m]; show 2 * 0 + _ + 12 ≤ _; omega) (hk9 H locs ls hz hP hS hl)
            · cases he
          · cases he
        · split at he
          · rename_i hi9
            split at he
            · rename_i hk9
              split at he
              · rename_i hc9
                exact hback _ _ _ _ _ _ _ _ hi9 hc9 (Or.inr (Or.inr ⟨hk9.1, rfl, hk9.2.1, hk9.2.2.1, hk9.2.2.2⟩)) he
              · cases he
            · cases he
          · cases he
      -- getstatic
      · split at he
        · rename_i hf9
          have hw := xgst_ok hf9
          unfold xgstC at hw
          simp only [Bool.and_eq_true] at hw
          have hk9 := ih (pc + 3) lv _ h ks he hlb hkb
          intro H locs ls hz hP hS hl
          exact va_gets hx hb9 (hZ.2.2.2.2 hw.1).1 hS hown (hts _ (xig_mem hw.2)) (fun _ h9 => h9) (xdl hd rfl) (hk9 H locs ls hz hP hS hl)
        · cases he
      -- invokeinterface
      · split at he
        · rename_i hf9
          split at he
          · split at he
            · rename_i hc8
              split at he
              · rename_i hc9
                have m1 := hmono _ _ _ _ _ hc9
                have m2 := xloop_mono hmono _ _ _ _ _ _ _ he
                dsimp only at m1
                intro H locs ls hz hP hS hl
                refine x_itf (hcall _ _ _ _ _ hc9).2 hc8.2.2.2.2 hfix hnw hK hX' hZ hn0 hRf hRl hz hP hS hl hf9 hc8.1 hc8.2.1 hc8.2.2.1 hc8.2.2.2.1 (xdl hd rfl) (by omega) (by omega) (fun H1 locs1 hz1 hP1 hS1 => ?_)
                have := ih _ _ _ _ _ he (by omega) (by omega) H1 locs1 ls hz1 hP1 hS1 hl
                have a1 : ∀ a b d : Nat, a ≤ b → b ≤ d → b - a + (d - b) = d - a := fun a b d _ _ => by omega
                rw [a1 _ _ _ hlb m1.1, a1 _ _ _ hkb m1.2]
                exact this
              · cases he
            · cases he
          · cases he
        · cases he
      · split at he
        · rename_i hm9
          have m2 := xloop_mono hmono _ _ _ _ _ _ _ he
          rw [List.length_append] at m2
          exact x_mul hx hb9 hown hts hnw hK hac hlb hkb (xdl hd rfl) hm9 (by rw [List.length_append]; omega) (by omega) (ih _ _ _ _ _ he (by rw [List.length_append]; omega) (by omega))
        · cases he
      · split at he
        · rename_i hm9
          have m2 := xloop_mono hmono _ _ _ _ _ _ _ he
          rw [List.length_append] at m2
          exact x_anw hx hb9 hown hts hnw hK hlb (xdl hd rfl) hm9 (by rw [List.length_append]; omega) (by omega) (ih _ _ _ _ _ he (by rw [List.length_append]; omega) hkb)
        · cases he
      · split at he
        · rename_i ci r9 ht9
          split at he
          · split at he
            · rename_i hmh
              rcases hT with hT | ⟨hT, hnoh⟩
              · have ho := (Option.some.inj he).symm
                rw [ho] at hT
                cases hT
              · have ho := (Option.some.inj he).symm
                subst ho
                subst hT
                exact x_thr hx hb9 hml hown hts hnw hK hZ (hnoh hmh) hlocks hst hRf hRl hlb hkb ht9 hRc hRs
            · cases he
          · cases he
        · split at he
          · rename_i hs
            exact hstep _ _ _ _ _ hs he
          · cases he
      · split at he
        · rename_i hs
          exact hstep _ _ _ _ _ hs he
        · cases he
    · cases he
theorem x_head {l : Launch} {D : va_G} {tA : Nat → ClassId} {old : Nat → Nat} {n0 : Nat} {sc : Option (List Int32)} {call : Nat → List Value → xH → Nat → Option xO} {F μ : Nat} {as : List Value} {h : xH} {ks : Nat} {out : xO} {S : Spec}
    (hst : l.stackTraces = false) (hc : xcod μ = true ∨ xcow μ = true) (hle : (lg_sl as).length ≤ xml μ) (he : xloop call sc μ (xmo μ) (xml μ) (xini μ) (xmc μ) F 0 (lv_args 0 as) [] h ks = some out)
    (ih : ∀ μ' as h ks out, call μ' as h ks = some out → (xcod μ' = true ∨ xcow μ' = true) ∧ xMet l D tA old n0 sc μ' as h ks out) (hmono : ∀ μ' as h ks out, call μ' as h ks = some out → h.length ≤ out.2.2.1.length ∧ ks ≤ out.2.2.2)
    (p : Program) (e : Env) (s : State) (m : MethodId) (args : Array Value) (below : List Frame) (meth : Method) (c : Code) (s₁ : State) (B : BodyLoose p l (xmy μ) S (xmb μ) (xml μ) (xmr μ) e s m args below meth c s₁)
    (hpre : ∀ w ∈ xgw, w.before args s = true) (hml : c.maxLocals = xml μ) (hnoh : xmh μ = [] → ∀ x ∈ c.exceptionTable.toList, False) (htab : xmh μ ≠ [] → c.exceptionTable.toList = tableOf (xmh μ)) (hv : va_Pc (as.map (xv (xad old n0))) (xPc D tA old n0 sc h) args s) :
    W p l e { frames := xmf μ, cells := out.2.2.1.length - h.length, slots := out.2.2.2 - ks, locals := xmlo μ } s m args below meth c s.heap [] 0 0 (vx_MQ below (xQc D tA old n0 out) (xXc D tA old n0 out) args s (out.2.2.1.length - h.length) (out.2.2.2 - ks) (fun q => n0 ≤ q)) (entryFrame m args (xml μ)) := by
  obtain ⟨m1, -, -, -, m5, m6⟩ := xmet_ok hc
  have hmn := xloop_mono hmono _ _ _ _ _ _ _ he
  obtain ⟨rfl, hz, hP, hK, hN, hX, hZ⟩ := hv
  have hl := lv_entry (as.map (xv (xad old n0))) (n := xml μ) (by rw [xlg_m]; exact hle)
  rw [lg_entry_eq]
  generalize (lg_sl (as.map (xv (xad old n0))) ++ List.replicate (xml μ - (lg_sl (as.map (xv (xad old n0)))).length) Slot.unset).toArray = ls at hl ⊢
  have hG := x_loop (p := p) (l := l) (e := e) (R := { frames := xmf μ, cells := out.2.2.1.length - h.length, slots := out.2.2.2 - ks, locals := xmlo μ }) (s := s) (m := m) (args := (as.map (xv (xad old n0))).toArray) (below := below) (meth := meth) (c := c) (D := D) (tA := tA) (old := old) (n0 := n0) (hb := h.length) (kb := ks) (μ := μ) (sc := sc) (sc' := sc) (out := out)
    (x_end B.exec B.bytes B.notSynchronized B.returns) (Or.inr ⟨rfl, hnoh⟩) htab ih hmono B.exec B.bytes hml (by rw [m5]; exact findClass_of_methodNamed B.named) hpre (fun w hw => xnw_use hw (hN w hw)) hK hX hX (fun hi => (name_of_methodNamed B.named B.method).1.trans (m6 hi)) (by omega) B.notSynchronized B.returns hZ (Nat.le_refl _) (Nat.le_refl _) (Nat.le_refl _) (Nat.le_refl _) hst
    _ _ _ _ _ _ he (Nat.le_refl _) (Nat.le_refl _) s.heap [] ls hz hP va_S.rf (by rw [← xlv_m]; exact hl)
  rw [Nat.sub_self, Nat.sub_self] at hG
  exact hG
set_option maxRecDepth 100000 in
theorem xmh_all : (List.range xNM).all (fun μ => xcow μ || (xmh μ).isEmpty) = true := by decide +kernel
theorem xmh_cod {μ : Nat} (h : xcod μ = true) : xmh μ = [] := by
  have h1 := List.all_eq_true.mp xmh_all μ (List.mem_range.mpr (xcod_lt h))
  rw [Bool.or_eq_true] at h1
  exact h1.elim (fun h2 => absurd h2 (xcodw h)) List.isEmpty_iff.mp
/-- THE LAW OF THE LISTS: what a call says on lists, the machine does -/
theorem x_meth {F : Nat} {sc : Option (List Int32)} {l : Launch} {D : va_G} {tA : Nat → ClassId} {old : Nat → Nat} {n0 : Nat} (hst : l.stackTraces = false) : ∀ (d μ : Nat) (as : List Value) (h : xH) (ks : Nat) (out : xO), xcall F sc d μ as h ks = some out → (xcod μ = true ∨ xcow μ = true) ∧ xMet l D tA old n0 sc μ as h ks out := by
  intro d
  induction d with
  | zero => intro μ as h ks out he; cases he
  | succ d ih =>
    intro μ as h ks out he
    unfold xcall at he
    split at he
    · rename_i hc
      obtain ⟨hcw, hle⟩ := hc
      refine ⟨hcw, ?_⟩
      have m1 := (xmet_ok hcw).1
      have hmono := fun μ as h ks out q => xcall_mono (F := F) (sc := sc) d μ as h ks out q
      rcases hcw with hcd | hcw
      · refine vx_ofW (cc := xmb μ) (maxL := xml μ) (ret := xmr μ) m1 (xws_c hcd) ?_
        intro p e s m args below meth c s₁ B hml hnoh hv
        exact x_head hst (Or.inl hcd) hle he ih hmono p e s m args below meth c s₁ B (fun w hw => atoms_spec (ws := xws μ) B.pre w (by rw [xws_c hcd]; exact List.mem_cons_of_mem _ hw)) hml (fun _ => hnoh) (fun hne => absurd (xmh_cod hcd) hne) hv
      · refine vx_ofWH (cc := xmb μ) (maxL := xml μ) (ret := xmr μ) (hh := xmh μ) m1 (xws_w hcw) ?_
        intro p e s m args below meth c s₁ B hml hv
        have ht := vx_table (x := xmy μ) B (atoms_spec (ws := xws μ) B.pre (.codeWith (xmy μ) (xmb μ) (xml μ) (xmr μ) (xmh μ)) (by rw [xws_w hcw]; exact List.mem_cons_self))
        exact x_head hst (Or.inr hcw) hle he ih hmono p e s m args below meth c s₁ B (fun w hw => atoms_spec (ws := xws μ) B.pre w (by rw [xws_w hcw]; exact List.mem_cons_of_mem _ hw)) hml (fun h0 x hx => by rw [ht, h0] at hx; cases hx) (fun _ => ht) hv
    · cases he
end XLO
end
section
/-! the law's start: what the Statement gives, in the lists' words -/
section XST
set_option maxRecDepth 100000 in
theorem xins_all : (List.range xcl.length).all (fun ci => match xcl[ci]? with | some (C, _, _) => xinsT.any (fun q => Nat.beq q.1 ci && xig (.instantiable C q.2.1) q.2.2) | none => false) = true := by decide +kernel
theorem xD_ok {args : Array Value} {s : State} (hts : ∀ w ∈ xgw, w.before args s = true) : ∃ D : va_G, va_K D xcl [] s := by
  have h1 : ∀ ci : Nat, ∃ (c : ClassId) (iS : Nat → Nat), ∀ q : vw_C, xcl[ci]? = some q → u_Kn s q.1 q.2.1 q.2.2 c iS := by
    intro ci
    cases hc : xcl[ci]? with
    | none => exact ⟨0, fun _ => 0, fun q hq => by cases hq⟩
    | some q =>
      obtain ⟨C, T, N⟩ := q
      obtain ⟨hin, -⟩ := xcls_ok hc
      have hlt : ci < xcl.length := (List.getElem?_eq_some_iff.mp hc).1
      have h2 := List.all_eq_true.mp xins_all ci (List.mem_range.mpr hlt)
      rw [hc] at h2
      obtain ⟨z, -, hz⟩ := List.any_eq_true.mp h2
      rw [Bool.and_eq_true] at hz
      obtain ⟨c, iS, hk⟩ := u_known (C := C) (T := T) (N := N) hts hin (hts _ (xig_mem hz.2))
      exact ⟨c, iS, fun q hq => by cases hq; exact hk⟩
  refine ⟨(fun ci => (h1 ci).choose, fun ci => (h1 ci).choose_spec.choose), fun ci q hq => (h1 ci).choose_spec.choose_spec q hq, fun k q h => by simp at h⟩
theorem xtA_ok {args : Array Value} {s : State} (hts : ∀ w ∈ xgw, w.before args s = true) (hnw : ∀ w ∈ xnw, w.before args s = true) : ∃ tA : Nat → ClassId, ∀ t, t < 6 → s.vm.findClass ("[" ++ (xtT t).toString) = some (tA t) ∧ ∃ (k : Class) (comp : ClassId), s.vm.classes[tA t]? = some k ∧ k.kind = .array comp (xtT t) ∧ (3 ≤ t → comp = tA (xcomp t)) := by
  have ha : ∀ t, t < 3 → ∃ (c : ClassId) (k : Class) (cc : ClassId), s.vm.findClass ("[" ++ (xtT t).toString) = some c ∧ s.vm.classes[c]? = some k ∧ k.kind = .array cc (xtT t) := fun t ht => Cond.arrayClass_spec (hts _ (xarr_ok ht))
  have hb : ∀ t, 3 ≤ t → t < 6 → ∃ (comp c : ClassId) (k : Class), s.vm.findClass ("[" ++ (xtT (xcomp t)).toString) = some comp ∧ s.vm.classes[c]? = some k ∧ k.kind = .array comp (xtT t) ∧ s.vm.findClass ("[" ++ (xtT t).toString) = some c := fun t h3 h6 => by
    rcases (show t = 3 ∨ t = 4 ∨ t = 5 by omega) with rfl | rfl | rfl
    · exact Cond.arrayOver_specA (hnw _ (xover_ok (t := 3) (by simp)))
    · exact Cond.arrayOver_specA (hnw _ (xover_ok (t := 4) (by simp)))
    · exact Cond.arrayOver_specA (hnw _ (xover_ok (t := 5) (by simp)))
  have hf : ∀ t, ∃ c : ClassId, t < 6 → s.vm.findClass ("[" ++ (xtT t).toString) = some c := fun t => by
    by_cases h3 : t < 3
    · obtain ⟨c, k, cc, h, -⟩ := ha t h3
      exact ⟨c, fun _ => h⟩
    · by_cases h6 : t < 6
      · obtain ⟨comp, c, k, -, -, -, h⟩ := hb t (by omega) h6
        exact ⟨c, fun _ => h⟩
      · exact ⟨0, fun q => absurd q h6⟩
  refine ⟨fun t => (hf t).choose, fun t ht => ⟨(hf t).choose_spec ht, ?_⟩⟩
  by_cases h3 : t < 3
  · obtain ⟨c, k, cc, h, h2, h4⟩ := ha t h3
    have e : c = (hf t).choose := Option.some.inj (h.symm.trans ((hf t).choose_spec ht))
    subst e
    exact ⟨k, cc, h2, h4, fun q => absurd q (by omega)⟩
  · obtain ⟨comp, c, k, g1, g2, g3, g4⟩ := hb t (by omega) ht
    have e : c = (hf t).choose := Option.some.inj (g4.symm.trans ((hf t).choose_spec ht))
    subst e
    refine ⟨k, comp, g2, g3, fun _ => ?_⟩
    have hx : xcomp t < 6 := by unfold xcomp; split <;> omega
    exact Option.some.inj (g1.symm.trans ((hf (xcomp t)).choose_spec hx))
set_option maxRecDepth 100000 in
theorem xstr_all : xstrT.all (fun q => lw_tbl.any (fun w => decide (w = Jvm.Cond.stringRef (xown q.1) q.2.1 q.2.2))) = true := by decide +kernel
set_option maxRecDepth 100000 in
theorem xown_cls : xstrT.all (fun q => decide (Jvm.Cond.initialized (xown q.1) ∈ lw_tbl)) = true := by decide +kernel
set_option maxRecDepth 100000 in
theorem xzw : Jvm.Cond.laysStatic Bundle.tN "UNASSIGNED_STACK" Bundle.steD ∈ lw_tbl ∧ Jvm.Cond.laysStatic Bundle.tN "SUPPRESSED_SENTINEL" Bundle.listD ∈ lw_tbl ∧ Jvm.Cond.initialized Bundle.tN ∈ lw_tbl := by decide +kernel
set_option maxRecDepth 100000 in
theorem xncw_all : xncT.all (fun q => (flatC (Jvm.Cond.and given_1 narrow_1)).any (fun w => decide (w = Jvm.Cond.not (.castable q.1 q.2)))) = true := by decide +kernel
abbrev xALn : String := "java/util/ArrayList"
abbrev xDEn : String := "DEFAULTCAPACITY_EMPTY_ELEMENTDATA"
abbrev xDEd : String := "[Ljava/lang/Object;"
set_option maxRecDepth 100000 in
theorem xalw : xal = true → (Jvm.Cond.laysStatic xALn xDEn xDEd ∈ lw_tbl ∧ Jvm.Cond.initialized xALn ∈ lw_tbl ∧ Jvm.Cond.exactly (.static xALn xDEn xDEd) xDEd ∈ flatC (Jvm.Cond.and given_1 narrow_1) ∧ Jvm.Cond.declares xLs ∈ lw_tbl ∧ Jvm.Cond.interfaceMethod xLs.cls xLs.cls xLs.name xLs.desc ∈ lw_tbl ∧ Jvm.Cond.publicMethod xAs ∈ lw_tbl ∧ Jvm.Cond.unhidden xALn xLs.name xLs.desc ∈ lw_tbl ∧ Jvm.Cond.castable xALn xLs.cls ∈ lw_tbl) := by decide +kernel
theorem xZ_ok {args : Array Value} {s : State} (htl : ∀ w ∈ lw_tbl, w.before args s = true) (hgv : (Jvm.Cond.and given_1 narrow_1).before args s = true) (hcl : ∀ q ∈ xstrT, ∃ c, s.vm.findClass (xown q.1) = some c) : ∃ a1 : Nat, ∀ old : Nat → Nat, old 1 = a1 → xZ old s.heap.size s := by
  have hs := flat_of_before _ hgv
  have hal : ∃ a1 : Nat, xal = true → va_Z "java/util/ArrayList" "DEFAULTCAPACITY_EMPTY_ELEMENTDATA" "[Ljava/lang/Object;" (.ref a1) (fun q => s.heap.size ≤ q) s s.heap ∧ va_Fw "java/util/ArrayList" xLs xAs s := by
    rcases hx : xal with _ | _
    · exact ⟨0, fun q => by cases q⟩
    · obtain ⟨w1, w2, w3, w4, w5, w6, w7, w8⟩ := xalw hx
      obtain ⟨a, c, cell, k, q1, -⟩ := Cond.exactly_spec (hs _ w3)
      exact ⟨a, fun _ => ⟨va_Zof (htl _ w1) (htl _ w2) q1 (fun a ha h => by omega), va_Fw.of (htl _ w4) (htl _ w5) (htl _ w6) (htl _ w7) (htl _ w8)⟩⟩
  obtain ⟨a1, hal⟩ := hal
  refine ⟨a1, fun old ho => ⟨vx_Zqof (htl _ xzw.1) (htl _ xzw.2.2) (hs _ (by decide +kernel)) (fun a ha h => by omega), vx_Zqof (htl _ xzw.2.1) (htl _ xzw.2.2) (hs _ (by decide +kernel)) (fun a ha h => by omega), fun q hq => ?_, fun q hq => ?_, by rw [ho]; exact hal⟩⟩
  · obtain ⟨w, hw, he⟩ := List.any_eq_true.mp (List.all_eq_true.mp xstr_all q hq)
    have := of_decide_eq_true he
    subst this
    have h1 := htl _ hw
    obtain ⟨cur, hcur⟩ := hcl q hq
    obtain ⟨-, -, -, a, -, -, -, -, -, hev⟩ := Cond.stringRef_spec hcur (show (Jvm.Cond.stringRef (xown q.1) q.2.1 q.2.2).holds args s none s [] = true from h1)
    exact ⟨a, vk_R.of h1 hev⟩
  · obtain ⟨w, hw, he⟩ := List.any_eq_true.mp (List.all_eq_true.mp xncw_all q hq)
    have := of_decide_eq_true he
    subst this
    exact va_Nc.of (hs _ hw)
end XST
end
section
-- ===== end of PART A; then your names; then what follows =====
/-! THE CLAIM OUT OF ONE WALK OF THE LAW'S BODY. Your part is whole_start (and what it stands on); all else here is the same for every law, but numbers. -/
def R_law : String := "SkateSheetLaw"
def lw_P (b : Addr) (xs : List Int32) (args : Array Value) (s : State) : Prop := args = #[.ref b] ∧ s.IntsAt b xs ∧ xs.length ≤ 260 ∧ (Jvm.Cond.and given_1 narrow_1).before args s = true
def lw_Q (_ : Array Value) (s : State) (o : Outcome) (t : State) : Prop := o = .returned (some (.int 1)) ∧ Framed s o t [] 600086 7301441
def lw_Z (below : List Frame) (a : Array Value) (s : State) : State → Prop := fun t => ∃ o, t.status = .running ∧ Ended t below o ∧ lw_Q a s o t
/-- the law's own end, with 1 on the stack, nothing written that was there before, its room as the claim has it -/
theorem lw_ret {p : Program} {l : Launch} {e : Env} {s : State} {m : MethodId} {below : List Frame} {meth : Method} {c : Code} {b : Nat} (hx : p.tables.exec = Jvm.exec) (hb : c.code = code) (hr : meth.sig.returnType = ret) (hlocks : meth.locks = false) {pc : Nat} {H : Heap} {ls : Array Slot} (hdg : decode code pc = .ok (.ireturn, 1)) : W p l e room_1 s m #[Value.ref b] below meth c H [] 600086 7301441 (lw_Z below #[Value.ref b] s) (F0 m pc ls [.int 1]) := by
  intro T hT X
  obtain ⟨fs, hret, hrun, hended, hW, hframe⟩ := X.leave (v := some (.int 1)) (hlocks := hlocks) (fun h => by rw [hr] at h; cases h)
  have hmeth' : T.vm.method? m = some meth := X.method'
  refine ⟨T.setFrames fs, ?_, .returned (some (.int 1)), hrun, hended, rfl, ⟨_, rfl⟩, hW, hframe⟩
  jvm_step X.here [X.here.top, hx, hb, hdg, hmeth', hr, ret, narrow_b1]
  (try refine ⟨rfl, ?_⟩); (try refine ⟨rfl, ?_⟩)
  first | (intro acts; rw [hret _ acts rfl rfl rfl]) | rw [hret _ _ rfl rfl rfl]
  exact Steps.refl _
/-- what holds at the law's entry: the machine, the code, the tables' words (any of lw_tbl by 'hts w (by decide +kernel)'), the script of L ints xs at the cell b, what the Statement gives of the start (any of its parts by flat_of_before) -/
def lw_At (p : Program) (s : State) (m : MethodId) (meth : Method) (c : Code) (b L : Nat) (xs : Nat → Int32) : Prop :=
  p.tables.exec = Jvm.exec ∧ c.code = code ∧ meth.sig.returnType = ret ∧ c.maxLocals = 20 ∧ s.vm.findClass R_law = some m.cls ∧ (∀ w ∈ lw_tbl, w.before #[Value.ref b] s = true) ∧ va_X b L xs s s.heap ∧ b < s.heap.size ∧ meth.locks = false ∧ (Jvm.Cond.and given_1 narrow_1).before #[Value.ref b] s = true
end
section
section XLW
set_option maxRecDepth 100000 in
theorem xstr_own : xstrT.all (fun q => match xcl[q.1]? with | some (C, _, _) => decide (C = xown q.1) | none => false) = true := by decide +kernel
theorem xcb {l : Launch} (hflags : l.flags = flags0) : l.stackTraces = false := by
  unfold Launch.stackTraces
  rw [hflags]
  decide
theorem xlaw_mh : xmh xlaw = [] := by decide
set_option maxHeartbeats 4000000 in
/-- the law's body, out of its run on lists -/
theorem x_law {p : Program} {e : Env} {s : State} {m : MethodId} {below : List Frame} {meth : Method} {c : Code} (l : Launch) (hflags : l.flags = flags0) {b L : Nat} {xs : Nat → Int32} (C0 : lw_At p s m meth c b L xs) {scl : List Int32} (hlen : scl.length = L) (hxs : ∀ j, j < L → xs j = scl.getD j 0) {F d n : Nat} {h' : xH} {ks' : Nat}
    (he : xloop (xcall F (some scl) d) (some scl) xlaw (xmo xlaw) (xml xlaw) (xini xlaw) (xmc xlaw) n 0 [(0, .ref 0)] [] [] 0 = some (none, some (.int 1), h', ks')) (hc : h'.length ≤ room_1.cells) (hs : ks' ≤ room_1.slots) :
    W p l e room_1 s m #[Value.ref b] below meth c s.heap [] 0 0 (lw_Z below #[Value.ref b] s) (entryFrame m ([Value.ref b] : List Value).toArray 20) := by
  obtain ⟨hx, hb, hr, hml, hown, hts, hX, hbl, hlocks, hgv⟩ := C0
  have hg : ∀ w ∈ xgw, w.before #[Value.ref b] s = true := fun w hw => hts w (List.mem_filter.mp hw).1
  have hn : ∀ w ∈ xnw, w.before #[Value.ref b] s = true := fun w hw => hts w (List.mem_filter.mp hw).1
  obtain ⟨D, hD⟩ := xD_ok hg
  obtain ⟨tA, htA⟩ := xtA_ok hg hn
  have hK : xK D tA s := ⟨hD, htA⟩
  obtain ⟨a1, hZ⟩ := xZ_ok hts hgv (fun q hq => by
    have h1 := List.all_eq_true.mp xstr_own q hq
    split at h1
    · rename_i C T N hc9
      obtain ⟨-, hfc, -⟩ := hD.1 _ _ hc9
      rw [← of_decide_eq_true h1]
      exact ⟨_, hfc⟩
    · cases h1)
  have hXX : xX (some scl) (fun k => if k = 0 then b else a1) s.heap.size s := by
    refine ⟨?_, hbl⟩
    obtain ⟨scr, g1, g2, g3, g4, g5⟩ := hX
    exact ⟨scr, g1, g2, g3, by rw [hlen]; exact g4, fun j hj => by rw [g5 j (by rw [← hlen]; exact hj), hxs j (by rw [← hlen]; exact hj)]⟩
  have hl := lv_entry ([.ref b]) (n := 20) (Nat.le_of_ble_eq_true rfl)
  rw [lg_entry_eq]
  generalize (lg_sl ([.ref b]) ++ List.replicate (20 - (lg_sl ([.ref b])).length) Slot.unset).toArray = ls at hl ⊢
  have hst := xcb hflags
  have hG := x_loop (p := p) (l := l) (e := e) (R := room_1) (s := s) (m := m) (args := #[Value.ref b]) (below := below) (meth := meth) (c := c) (D := D) (tA := tA) (old := fun k => if k = 0 then b else a1) (n0 := s.heap.size) (hb := 0) (kb := 0) (μ := xlaw) (sc := some scl) (sc' := some scl) (out := (none, some (.int 1), h', ks')) (Q := lw_Z below #[Value.ref b] s) (call := xcall F (some scl) d)
    (fun i r pc st h ks H locs ls hr9 ho hd9 _ _ hz hP hS => by
      cases ho
      have hi : i = .ireturn ∧ st = [.int 1] := by
        cases i <;> first | (simp [xexit] at hr9; done) | skip
        case ireturn =>
          obtain ⟨v, t, rfl, ht, hn9, hv⟩ := xexit_i hr9
          cases hv
          exact ⟨rfl, rfl⟩
        case lreturn => obtain ⟨v, rfl, ht, hv⟩ := xexit_l hr9; cases hv
        case dreturn => obtain ⟨v, rfl, ht, hv⟩ := xexit_d hr9; cases hv
        case areturn => obtain ⟨v, t, rfl, ht, hrt, hv⟩ := xexit_a hr9; cases hv
        case return_ => obtain ⟨rfl, ht, hv⟩ := xexit_v hr9; cases hv
      obtain ⟨rfl, rfl⟩ := hi
      refine va_forget (fun q hq => hS.2.2 q hq) ?_
      refine W.widen (k := room_1.cells) (n := room_1.slots) (by rw [Nat.sub_zero]; exact hc) (by rw [Nat.sub_zero]; exact hs) ?_
      exact lw_ret hx hb hr hlocks hd9)
    (Or.inl rfl) (fun hne => absurd xlaw_mh hne) (fun μ' as h ks out q => x_meth hst d μ' as h ks out q) (fun μ' as h ks out q => xcall_mono d μ' as h ks out q) hx hb hml hown hg hn hK hXX hXX (fun q => by cases q) (Nat.le_refl _) hlocks hr (hZ _ rfl) (by decide) (by decide) (by show h'.length - 0 ≤ _; rw [Nat.sub_zero]; exact hc) (by show ks' - 0 ≤ _; rw [Nat.sub_zero]; exact hs) hst
    n 0 [(0, .ref 0)] [] [] 0 he (Nat.le_refl _) (Nat.le_refl _) s.heap [] ls rfl (fun k e9 h9 => by simp at h9) va_S.rf hl
  exact hG
end XLW
end
section
/-! more fuel, the same answer -/
section XFU
set_option maxHeartbeats 4000000 in
theorem xloop_fuel {call call' : Nat → List Value → xH → Nat → Option xO} (hcall : ∀ μ as h ks out, call μ as h ks = some out → call' μ as h ks = some out) {sc : Option (List Int32)} {μ o nL : Nat} {ini : Bool} {cod : List (Option Instr)} :
    ∀ (n n' pc : Nat) (lv : xL) (st : List Value) (h : xH) (ks : Nat) (out : xO), n ≤ n' → xloop call sc μ o nL ini cod n pc lv st h ks = some out → xloop call' sc μ o nL ini cod n' pc lv st h ks = some out := by
  intro n
  induction n with
  | zero => intro n' pc lv st h ks out hn he; cases he
  | succ n ih =>
    intro n' pc lv st h ks out hn he
    obtain ⟨n', rfl⟩ : ∃ k, n' = k + 1 := ⟨n' - 1, by omega⟩
    have ih' := fun pc lv st h ks out => ih n' pc lv st h ks out (by omega)
    clear ih
    unfold xloop at he ⊢
    clear hn
    repeat' split at he
    all_goals first
      | (cases he; done)
      | (have ih9 := ih' _ _ _ _ _ _ he; clear he ih' hcall; simp only [*, ↓reduceIte, and_self, true_or, or_true]; done)
      | (have hc := hcall _ _ _ _ _ (by assumption); have ih9 := ih' _ _ _ _ _ _ he; clear he ih' hcall; simp only [*, ↓reduceIte, and_self]; done)
      | (have hc := hcall _ _ _ _ _ (by assumption); clear ih' hcall; simp only [*, ↓reduceIte, and_self]; done)
      | (clear ih' hcall; simp only [*, ↓reduceIte, and_self]; done)
      | (rename_i hk3 _ _ _ _ _; obtain ⟨hk3, hcd⟩ := hk3; subst hk3; have hc := hcall _ _ _ _ _ (by assumption); have ih9 := ih' _ _ _ _ _ _ he; clear he ih' hcall; simp only [*, ↓reduceIte, and_self, Nat.reduceEqDiff]; done)
theorem xcall_fuel {F F' : Nat} {sc : Option (List Int32)} (hF : F ≤ F') : ∀ (d d' μ : Nat) (as : List Value) (h : xH) (ks : Nat) (out : xO), d ≤ d' → xcall F sc d μ as h ks = some out → xcall F' sc d' μ as h ks = some out := by
  intro d
  induction d with
  | zero => intro d' μ as h ks out hd he; cases he
  | succ d ih =>
    intro d' μ as h ks out hd he
    obtain ⟨d', rfl⟩ : ∃ k, d' = k + 1 := ⟨d' - 1, by omega⟩
    unfold xcall at he ⊢
    split at he
    · rename_i hc
      rw [if_pos hc]
      exact xloop_fuel (fun μ as h ks out q => ih d' μ as h ks out (by omega) q) F F' _ _ _ _ _ _ hF he
    · cases he
/-- a method's run, whatever the fuel -/
def Cx (sc : Option (List Int32)) (μ : Nat) (as : List Value) (h : xH) (ks : Nat) (out : xO) : Prop := ∃ F d, xcall F sc d μ as h ks = some out
/-- a run from a point of a method -/
def Lx (sd sc : Option (List Int32)) (μ pc : Nat) (lv : xL) (st : List Value) (h : xH) (ks : Nat) (out : xO) : Prop := ∃ F d n, xloop (xcall F sd d) sc μ (xmo μ) (xml μ) (xini μ) (xmc μ) n pc lv st h ks = some out
theorem Cx.of {sc : Option (List Int32)} {μ : Nat} {as : List Value} {h : xH} {ks : Nat} {out : xO} (hc : xcod μ = true ∨ xcow μ = true) (hl : (lg_sl as).length ≤ xml μ) (k : Lx sc sc μ 0 (lv_args 0 as) [] h ks out) : Cx sc μ as h ks out := by
  obtain ⟨F, d, n, e⟩ := k
  refine ⟨max F n, d + 1, ?_⟩
  unfold xcall
  rw [if_pos ⟨hc, hl⟩]
  exact xloop_fuel (fun μ as h ks out q => xcall_fuel (Nat.le_max_left F n) d d μ as h ks out (Nat.le_refl _) q) n _ _ _ _ _ _ _ (Nat.le_max_right F n) e
theorem Cx.fun {sc : Option (List Int32)} {μ : Nat} {as : List Value} {h : xH} {ks : Nat} {o1 o2 : xO} (h1 : Cx sc μ as h ks o1) (h2 : Cx sc μ as h ks o2) : o1 = o2 := by
  obtain ⟨F1, d1, e1⟩ := h1
  obtain ⟨F2, d2, e2⟩ := h2
  have a1 := xcall_fuel (Nat.le_max_left F1 F2) d1 (max d1 d2) μ as h ks o1 (Nat.le_max_left _ _) e1
  have a2 := xcall_fuel (Nat.le_max_right F1 F2) d2 (max d1 d2) μ as h ks o2 (Nat.le_max_right _ _) e2
  exact Option.some.inj (a1.symm.trans a2)
section
variable {sd sc : Option (List Int32)} {μ pc : Nat} {lv : xL} {st : List Value} {h : xH} {ks : Nat} {out : xO}
def xpl : Instr → Bool
  | .ireturn => false | .lreturn => false | .dreturn => false | .areturn => false | .return_ => false
  | .invokestatic _ => false | .invokevirtual _ => false | .invokespecial _ => false | .invokeinterface _ _ => false
  | .getstatic _ => false | .multianewarray _ _ => false | .new _ => false | .anewarray _ => false
  | _ => true
set_option maxHeartbeats 4000000 in
theorem lx_step {i : Instr} {pc' : Nat} {lv' : xL} {st' : List Value} {h' : xH} {ks' : Nat} (hi : (xmc μ)[pc]? = some (some i)) (hp : xpl i = true) (hs : xstep (xmo μ) (xml μ) (xini μ) sc i pc lv st h ks = some (pc', lv', st', h', ks')) (k : Lx sd sc μ pc' lv' st' h' ks' out) : Lx sd sc μ pc lv st h ks out := by
  obtain ⟨F, d, n, e⟩ := k
  refine ⟨F, d, n + 1, ?_⟩
  unfold xloop
  rw [hi]
  dsimp only
  cases i <;> first | (cases hp; done) | (dsimp only; rw [hs]; exact e)
theorem lx_new {x pc' : Nat} {lv' : xL} {st' : List Value} {h' : xH} {ks' : Nat} (hi : (xmc μ)[pc]? = some (some (.new x))) (hp : xfnd (xthrT μ) pc = none) (hs : xstep (xmo μ) (xml μ) (xini μ) sc (.new x) pc lv st h ks = some (pc', lv', st', h', ks')) (k : Lx sd sc μ pc' lv' st' h' ks' out) : Lx sd sc μ pc lv st h ks out := by
  obtain ⟨F, d, n, e⟩ := k
  refine ⟨F, d, n + 1, ?_⟩
  unfold xloop
  rw [hi]
  dsimp only
  rw [hp]
  dsimp only
  rw [hs]
  exact e
theorem lx_thr {x ci : Nat} {r : Nat × Nat × Nat × Nat × Nat × Nat} (hi : (xmc μ)[pc]? = some (some (.new x))) (hp : xfnd (xthrT μ) pc = some (ci, r)) (hm : xmh μ = []) : Lx sd sc μ pc lv [] h ks (some ci, none, h ++ [(ci, [])], ks + 6) := by
  refine ⟨0, 0, 1, ?_⟩
  unfold xloop
  rw [hi]
  dsimp only
  rw [hp]
  dsimp only
  rw [if_pos hm]
def xrt : Instr → Bool
  | .ireturn => true | .lreturn => true | .dreturn => true | .areturn => true | .return_ => true
  | _ => false
theorem lx_ret {i : Instr} {r : Option Value} (hi : (xmc μ)[pc]? = some (some i)) (hp : xrt i = true) (hr : xexit μ i st = some r) : Lx sd sc μ pc lv st h ks (none, r, h, ks) := by
  refine ⟨0, 0, 1, ?_⟩
  unfold xloop
  rw [hi]
  dsimp only
  cases i <;> first | (cases hp; done) | (dsimp only; rw [hr])
theorem lx_up {μ' : Nat} {as : List Value} {h1 : xH} {ks1 : Nat} {o1 : xO} {pc' : Nat} {lv' : xL} {st' : List Value} {h' : xH} {ks' : Nat} (hc : Cx sd μ' as h1 ks1 o1) (k : Lx sd sc μ pc' lv' st' h' ks' out) :
    ∃ F d n, xcall F sd d μ' as h1 ks1 = some o1 ∧ xloop (xcall F sd d) sc μ (xmo μ) (xml μ) (xini μ) (xmc μ) n pc' lv' st' h' ks' = some out := by
  obtain ⟨F1, d1, e1⟩ := hc
  obtain ⟨F, d, n, e⟩ := k
  exact ⟨max F1 F, max d1 d, n, xcall_fuel (Nat.le_max_left _ _) _ _ _ _ _ _ _ (Nat.le_max_left _ _) e1, xloop_fuel (fun μ as h ks out q => xcall_fuel (Nat.le_max_right _ _) _ _ _ _ _ _ _ (Nat.le_max_right _ _) q) n n _ _ _ _ _ _ (Nat.le_refl _) e⟩
theorem lx_math {x : Nat} {v : Int32} {rest : List Value} (hi : (xmc μ)[pc]? = some (some (.invokestatic x))) (hm : xmath (xmo μ) μ x st = some (v, rest)) (k : Lx sd sc μ (pc + 3) lv (.int v :: rest) h ks out) : Lx sd sc μ pc lv st h ks out := by
  obtain ⟨F, d, n, e⟩ := k
  refine ⟨F, d, n + 1, ?_⟩
  unfold xloop
  rw [hi]
  dsimp only
  rw [hm]
  exact e
theorem lx_st {x μ' : Nat} {as rest : List Value} {r : Option Value} {h' : xH} {ks' : Nat} (hi : (xmc μ)[pc]? = some (some (.invokestatic x))) (hm : xmath (xmo μ) μ x st = none) (hv : xinv (xmo μ) μ x st = some (2, μ', as, rest)) (hc : Cx sd μ' as h ks (none, r, h', ks')) (k : Lx sd sc μ (pc + 3) lv (r.toList ++ rest) h' ks' out) : Lx sd sc μ pc lv st h ks out := by
  obtain ⟨F, d, n, e1, e⟩ := lx_up hc k
  refine ⟨F, d, n + 1, ?_⟩
  unfold xloop
  rw [hi]
  dsimp only
  rw [hm, hv]
  dsimp only
  rw [if_pos rfl, e1]
  exact e
theorem lx_sn {x μ' : Nat} {as rest : List Value} {r : Option Value} {h' : xH} {ks' : Nat} (hi : (xmc μ)[pc]? = some (some (.invokestatic x))) (hm : xmath (xmo μ) μ x st = none) (hv : xinv (xmo μ) μ x st = some (3, μ', as, rest)) (hd : xcod μ' = true) (hc : Cx sd μ' as h ks (none, r, h', ks')) (k : Lx sd sc μ (pc + 3) lv (r.toList ++ rest) h' ks' out) : Lx sd sc μ pc lv st h ks out := by
  obtain ⟨F, d, n, e1, e⟩ := lx_up hc k
  refine ⟨F, d, n + 1, ?_⟩
  unfold xloop
  rw [hi]
  dsimp only
  rw [hm, hv]
  dsimp only
  rw [if_neg (by decide), if_pos ⟨rfl, hd⟩, e1]
  exact e
theorem lx_sthr {x μ' t : Nat} {as rest : List Value} {r : Option Value} {h' : xH} {ks' : Nat} (hi : (xmc μ)[pc]? = some (some (.invokestatic x))) (hm : xmath (xmo μ) μ x st = none) (hv : xinv (xmo μ) μ x st = some (2, μ', as, rest)) (hd : xcod μ' = true) (hc : Cx sd μ' as h ks (some t, r, h', ks')) (hh : xmh μ = []) : Lx sd sc μ pc lv st h ks (some t, none, h', ks') := by
  obtain ⟨F, d, e1⟩ := hc
  refine ⟨F, d, 1, ?_⟩
  unfold xloop
  rw [hi]
  dsimp only
  rw [hm, hv]
  dsimp only
  rw [if_pos rfl, e1]
  dsimp only
  rw [if_pos hd, if_pos hh]
theorem lx_vi {x μ' : Nat} {as rest : List Value} {r : Option Value} {h' : xH} {ks' : Nat} (hi : (xmc μ)[pc]? = some (some (.invokevirtual x))) (hv : xinv (xmo μ) μ x st = some (1, μ', as, rest)) (hr : xrecv μ' as h = true) (hd : xcod μ' = true) (hc : Cx sd μ' as h ks (none, r, h', ks')) (k : Lx sd sc μ (pc + 3) lv (r.toList ++ rest) h' ks' out) : Lx sd sc μ pc lv st h ks out := by
  obtain ⟨F, d, n, e1, e⟩ := lx_up hc k
  refine ⟨F, d, n + 1, ?_⟩
  unfold xloop
  rw [hi]
  dsimp only
  rw [hv]
  dsimp only
  rw [if_pos ⟨rfl, hr, hd⟩, e1]
  exact e
theorem lx_vthr {x μ' t : Nat} {as rest : List Value} {r : Option Value} {h' : xH} {ks' : Nat} (hi : (xmc μ)[pc]? = some (some (.invokevirtual x))) (hv : xinv (xmo μ) μ x st = some (1, μ', as, rest)) (hr : xrecv μ' as h = true) (hd : xcod μ' = true) (hc : Cx sd μ' as h ks (some t, r, h', ks')) (hh : xmh μ = []) : Lx sd sc μ pc lv st h ks (some t, none, h', ks') := by
  obtain ⟨F, d, e1⟩ := hc
  refine ⟨F, d, 1, ?_⟩
  unfold xloop
  rw [hi]
  dsimp only
  rw [hv]
  dsimp only
  rw [if_pos ⟨rfl, hr, hd⟩, e1]
  dsimp only
  rw [if_pos hh]
theorem lx_vct {x μ' t hp pc' j : Nat} {as rest : List Value} {r : Option Value} {h' : xH} {ks' : Nat} (hi : (xmc μ)[pc]? = some (some (.invokevirtual x))) (hv : xinv (xmo μ) μ x st = some (1, μ', as, rest)) (hr : xrecv μ' as h = true) (hd : xcod μ' = true) (hc : Cx sd μ' as h ks (some t, r, h', ks')) (hh : ¬ xmh μ = []) (hct : xctch (xmo μ) μ pc t (xmc μ) = some (hp, pc', j)) (hj : j < xml μ) (k : Lx sd sc μ pc' (xdel j lv) [] h' ks' out) : Lx sd sc μ pc lv st h ks out := by
  obtain ⟨F, d, n, e1, e⟩ := lx_up hc k
  refine ⟨F, d, n + 1, ?_⟩
  unfold xloop
  rw [hi]
  dsimp only
  rw [hv]
  dsimp only
  rw [if_pos ⟨rfl, hr, hd⟩, e1]
  dsimp only
  rw [if_neg hh, hct]
  dsimp only
  rw [if_pos hj]
  exact e
theorem lx_obj {x b : Nat} {r : Nat × Nat × Nat × Nat × Nat} {rest : List Value} (hi : (xmc μ)[pc]? = some (some (.invokespecial x))) (hf : xfnd (xcalT (xmo μ)) x = some (6, r)) (hc : (rest.map fun v => v.category).sum + 12 ≤ xmlo μ ∧ 1 ≤ xmf μ) (k : Lx sd sc μ (pc + 3) lv rest h ks out) : Lx sd sc μ pc lv (.ref b :: rest) h ks out := by
  obtain ⟨F, d, n, e⟩ := k
  refine ⟨F, d, n + 1, ?_⟩
  unfold xloop
  rw [hi]
  dsimp only
  rw [hf]
  show (if _ then _ else _) = _
  rw [if_pos hc]
  exact e
theorem lx_sp {x k μ' : Nat} {as rest : List Value} {r : Option Value} {h' : xH} {ks' : Nat} (hi : (xmc μ)[pc]? = some (some (.invokespecial x))) (hf : ∀ r, xfnd (xcalT (xmo μ)) x ≠ some (6, r)) (hv : xinv (xmo μ) μ x st = some (k, μ', as, rest)) (hk : (k = 0 ∨ k = 4) ∧ xmr μ' = none ∧ xini μ' = true ∧ xcod μ' = true) (hc : Cx sd μ' as h ks (none, r, h', ks')) (kk : Lx sd sc μ (pc + 3) lv (r.toList ++ rest) h' ks' out) : Lx sd sc μ pc lv st h ks out := by
  obtain ⟨F, d, n, e1, e⟩ := lx_up hc kk
  refine ⟨F, d, n + 1, ?_⟩
  unfold xloop
  rw [hi]
  dsimp only
  split
  · rename_i r9 h9
    exact absurd h9 (hf r9)
  · rw [hv]
    show (if _ then _ else _) = _
    rw [if_pos hk, e1]
    exact e
theorem lx_gets {x r : Nat} (hi : (xmc μ)[pc]? = some (some (.getstatic x))) (hf : xfnd (xgstT (xmo μ)) x = some r) (k : Lx sd sc μ (pc + 3) lv (.ref 1 :: st) h ks out) : Lx sd sc μ pc lv st h ks out := by
  obtain ⟨F, d, n, e⟩ := k
  refine ⟨F, d, n + 1, ?_⟩
  unfold xloop
  rw [hi]
  dsimp only
  rw [hf]
  exact e
theorem lx_mul {x dm sl : Nat} {rest : List Value} {es : xH} (hi : (xmc μ)[pc]? = some (some (.multianewarray x dm))) (hf : xmul (xmo μ) x dm st (h.length + 4) = some (rest, es, sl)) (k : Lx sd sc μ (pc + 4) lv (.ref (h.length + 4) :: rest) (h ++ es) (ks + sl) out) : Lx sd sc μ pc lv st h ks out := by
  obtain ⟨F, d, n, e⟩ := k
  refine ⟨F, d, n + 1, ?_⟩
  unfold xloop
  rw [hi]
  dsimp only
  rw [hf]
  exact e
theorem lx_cpy {x : Nat} {rest : List Value} {h' : xH} (hi : (xmc μ)[pc]? = some (some (.invokestatic x))) (hm : xmath (xmo μ) μ x st = none) (hv : xinv (xmo μ) μ x st = none) (hc : xcpy (xmo μ) μ x st h = some (rest, h')) (k : Lx sd sc μ (pc + 3) lv rest h' ks out) : Lx sd sc μ pc lv st h ks out := by
  obtain ⟨F, d, n, e⟩ := k
  refine ⟨F, d, n + 1, ?_⟩
  unfold xloop
  rw [hi]
  dsimp only
  rw [hm, hv, hc]
  exact e
theorem lx_anw {x : Nat} {rest : List Value} (hi : (xmc μ)[pc]? = some (some (.anewarray x))) (hm : xanw (xmo μ) x st = some rest) (k : Lx sd sc μ (pc + 3) lv (.ref (h.length + 4) :: rest) (h ++ [(103, [])]) ks out) : Lx sd sc μ pc lv st h ks out := by
  obtain ⟨F, d, n, e⟩ := k
  refine ⟨F, d, n + 1, ?_⟩
  unfold xloop
  rw [hi]
  dsimp only
  rw [hm]
  exact e
end
end XFU
end
section
section XBR
variable {sd sc : Option (List Int32)} {μ pc : Nat} {lv : xL} {st : List Value} {h : xH} {ks : Nat} {out : xO}
theorem lx_if {c : Jvm.ClassFile.Cond} {off : Int} {x : Int32} {t : Nat} (hi : (xmc μ)[pc]? = some (some (.ifCond c off))) (ht : xj pc off = some t) (k1 : xcmp c x 0 = true → Lx sd sc μ t lv st h ks out) (k2 : xcmp c x 0 = false → Lx sd sc μ (pc + 3) lv st h ks out) : Lx sd sc μ pc lv (.int x :: st) h ks out := by
  cases hb : xcmp c x 0 with
  | true => exact lx_step hi rfl (by unfold xstep; dsimp only; rw [ht]; dsimp only; rw [hb]; rfl) (k1 hb)
  | false => exact lx_step hi rfl (by unfold xstep; dsimp only; rw [ht]; dsimp only; rw [hb]; rfl) (k2 hb)
theorem lx_icmp {c : Jvm.ClassFile.Cond} {off : Int} {x y : Int32} {t : Nat} (hi : (xmc μ)[pc]? = some (some (.if_icmp c off))) (ht : xj pc off = some t) (k1 : xcmp c x y = true → Lx sd sc μ t lv st h ks out) (k2 : xcmp c x y = false → Lx sd sc μ (pc + 3) lv st h ks out) : Lx sd sc μ pc lv (.int y :: .int x :: st) h ks out := by
  cases hb : xcmp c x y with
  | true => exact lx_step hi rfl (by unfold xstep; dsimp only; rw [ht]; dsimp only; rw [hb]; rfl) (k1 hb)
  | false => exact lx_step hi rfl (by unfold xstep; dsimp only; rw [ht]; dsimp only; rw [hb]; rfl) (k2 hb)
end XBR
/-! what holds behind a run -/
section XPX
def Px (sd sc : Option (List Int32)) (μ pc : Nat) (lv : xL) (st : List Value) (h : xH) (ks : Nat) (Φ : xO → Prop) : Prop := ∃ out, Lx sd sc μ pc lv st h ks out ∧ Φ out
def Qx (sd : Option (List Int32)) (μ : Nat) (as : List Value) (h : xH) (ks : Nat) (Φ : xO → Prop) : Prop := ∃ out, Cx sd μ as h ks out ∧ Φ out
theorem Qx.of {sc : Option (List Int32)} {μ : Nat} {as : List Value} {h : xH} {ks : Nat} {Φ : xO → Prop} (hc : xcod μ = true ∨ xcow μ = true) (hl : (lg_sl as).length ≤ xml μ) (k : Px sc sc μ 0 (lv_args 0 as) [] h ks Φ) : Qx sc μ as h ks Φ :=
  k.imp fun _ q => ⟨Cx.of hc hl q.1, q.2⟩
theorem Qx.at {sc : Option (List Int32)} {μ : Nat} {as : List Value} {h : xH} {ks : Nat} {Φ : xO → Prop} {out : xO} (k : Cx sc μ as h ks out) (hp : Φ out) : Qx sc μ as h ks Φ := ⟨out, k, hp⟩
variable {sd sc : Option (List Int32)} {μ pc : Nat} {lv : xL} {st : List Value} {h : xH} {ks : Nat} {Φ : xO → Prop}
theorem px_step {i : Instr} {pc' : Nat} {lv' : xL} {st' : List Value} {h' : xH} {ks' : Nat} (hi : (xmc μ)[pc]? = some (some i)) (hp : xpl i = true) (hs : xstep (xmo μ) (xml μ) (xini μ) sc i pc lv st h ks = some (pc', lv', st', h', ks')) (k : Px sd sc μ pc' lv' st' h' ks' Φ) : Px sd sc μ pc lv st h ks Φ :=
  k.imp fun _ q => ⟨lx_step hi hp hs q.1, q.2⟩
theorem px_new {x pc' : Nat} {lv' : xL} {st' : List Value} {h' : xH} {ks' : Nat} (hi : (xmc μ)[pc]? = some (some (.new x))) (hp : xfnd (xthrT μ) pc = none) (hs : xstep (xmo μ) (xml μ) (xini μ) sc (.new x) pc lv st h ks = some (pc', lv', st', h', ks')) (k : Px sd sc μ pc' lv' st' h' ks' Φ) : Px sd sc μ pc lv st h ks Φ :=
  k.imp fun _ q => ⟨lx_new hi hp hs q.1, q.2⟩
theorem px_thr {x ci : Nat} {r : Nat × Nat × Nat × Nat × Nat × Nat} (hi : (xmc μ)[pc]? = some (some (.new x))) (hp : xfnd (xthrT μ) pc = some (ci, r)) (hm : xmh μ = []) (k : Φ (some ci, none, h ++ [(ci, [])], ks + 6)) : Px sd sc μ pc lv [] h ks Φ := ⟨_, lx_thr hi hp hm, k⟩
theorem px_ret {i : Instr} {r : Option Value} (hi : (xmc μ)[pc]? = some (some i)) (hp : xrt i = true) (hr : xexit μ i st = some r) (k : Φ (none, r, h, ks)) : Px sd sc μ pc lv st h ks Φ := ⟨_, lx_ret hi hp hr, k⟩
theorem px_math {x : Nat} {v : Int32} {rest : List Value} (hi : (xmc μ)[pc]? = some (some (.invokestatic x))) (hm : xmath (xmo μ) μ x st = some (v, rest)) (k : Px sd sc μ (pc + 3) lv (.int v :: rest) h ks Φ) : Px sd sc μ pc lv st h ks Φ := k.imp fun _ q => ⟨lx_math hi hm q.1, q.2⟩
/-- behind a call: it came back, or threw (nothing catches it here) -/
def xbk (sd sc : Option (List Int32)) (μ pc : Nat) (lv : xL) (rest : List Value) (Φ : xO → Prop) (o : xO) : Prop := match o with
  | (none, r, h', ks') => Px sd sc μ pc lv (r.toList ++ rest) h' ks' Φ
  | (some t, _, h', ks') => Φ (some t, none, h', ks')
/-- behind a call whose throw is caught here -/
def xbc (sd sc : Option (List Int32)) (μ pc pc0 : Nat) (lv : xL) (rest : List Value) (Φ : xO → Prop) (o : xO) : Prop := match o with
  | (none, r, h', ks') => Px sd sc μ pc lv (r.toList ++ rest) h' ks' Φ
  | (some t, _, h', ks') => ∃ hp pc' j, xctch (xmo μ) μ pc0 t (xmc μ) = some (hp, pc', j) ∧ j < xml μ ∧ Px sd sc μ pc' (xdel j lv) [] h' ks' Φ
theorem px_st {x μ' : Nat} {as rest : List Value} (hi : (xmc μ)[pc]? = some (some (.invokestatic x))) (hm : xmath (xmo μ) μ x st = none) (hv : xinv (xmo μ) μ x st = some (2, μ', as, rest)) (hd : xcod μ' = true) (hh : xmh μ = []) (k : Qx sd μ' as h ks (xbk sd sc μ (pc + 3) lv rest Φ)) : Px sd sc μ pc lv st h ks Φ := by
  obtain ⟨⟨t, r, h', ks'⟩, k1, k2⟩ := k
  cases t with
  | none => exact k2.imp fun _ q => ⟨lx_st hi hm hv k1 q.1, q.2⟩
  | some t => exact ⟨_, lx_sthr hi hm hv hd k1 hh, k2⟩
/-- a call that doesn't throw -/
def xbn (sd sc : Option (List Int32)) (μ pc : Nat) (lv : xL) (rest : List Value) (Φ : xO → Prop) (o : xO) : Prop := match o with
  | (none, r, h', ks') => Px sd sc μ pc lv (r.toList ++ rest) h' ks' Φ
  | (some _, _, _, _) => False
theorem px_sn {x μ' : Nat} {as rest : List Value} (hi : (xmc μ)[pc]? = some (some (.invokestatic x))) (hm : xmath (xmo μ) μ x st = none) (hv : xinv (xmo μ) μ x st = some (3, μ', as, rest)) (hd : xcod μ' = true) (k : Qx sd μ' as h ks (xbn sd sc μ (pc + 3) lv rest Φ)) : Px sd sc μ pc lv st h ks Φ := by
  obtain ⟨⟨t, r, h', ks'⟩, k1, k2⟩ := k
  cases t with
  | none => exact k2.imp fun _ q => ⟨lx_sn hi hm hv hd k1 q.1, q.2⟩
  | some t => exact k2.elim
/-- a wrapper, with handlers of its own: it throws nothing -/
theorem px_sw {x μ' : Nat} {as rest : List Value} (hi : (xmc μ)[pc]? = some (some (.invokestatic x))) (hm : xmath (xmo μ) μ x st = none) (hv : xinv (xmo μ) μ x st = some (2, μ', as, rest)) (k : Qx sd μ' as h ks (xbn sd sc μ (pc + 3) lv rest Φ)) : Px sd sc μ pc lv st h ks Φ := by
  obtain ⟨⟨t, r, h', ks'⟩, k1, k2⟩ := k
  cases t with
  | none => exact k2.imp fun _ q => ⟨lx_st hi hm hv k1 q.1, q.2⟩
  | some t => exact k2.elim
theorem px_vi {x μ' : Nat} {as rest : List Value} (hi : (xmc μ)[pc]? = some (some (.invokevirtual x))) (hv : xinv (xmo μ) μ x st = some (1, μ', as, rest)) (hr : xrecv μ' as h = true) (hd : xcod μ' = true) (hh : xmh μ = []) (k : Qx sd μ' as h ks (xbk sd sc μ (pc + 3) lv rest Φ)) : Px sd sc μ pc lv st h ks Φ := by
  obtain ⟨⟨t, r, h', ks'⟩, k1, k2⟩ := k
  cases t with
  | none => exact k2.imp fun _ q => ⟨lx_vi hi hv hr hd k1 q.1, q.2⟩
  | some t => exact ⟨_, lx_vthr hi hv hr hd k1 hh, k2⟩
theorem px_vc {x μ' : Nat} {as rest : List Value} (hi : (xmc μ)[pc]? = some (some (.invokevirtual x))) (hv : xinv (xmo μ) μ x st = some (1, μ', as, rest)) (hr : xrecv μ' as h = true) (hd : xcod μ' = true) (hh : ¬ xmh μ = []) (k : Qx sd μ' as h ks (xbc sd sc μ (pc + 3) pc lv rest Φ)) : Px sd sc μ pc lv st h ks Φ := by
  obtain ⟨⟨t, r, h', ks'⟩, k1, k2⟩ := k
  cases t with
  | none => exact k2.imp fun _ q => ⟨lx_vi hi hv hr hd k1 q.1, q.2⟩
  | some t =>
    obtain ⟨hp, pc', j, c1, c2, k2⟩ := k2
    exact k2.imp fun _ q => ⟨lx_vct hi hv hr hd k1 hh c1 c2 q.1, q.2⟩
theorem px_obj {x b : Nat} {r : Nat × Nat × Nat × Nat × Nat} {rest : List Value} (hi : (xmc μ)[pc]? = some (some (.invokespecial x))) (hf : xfnd (xcalT (xmo μ)) x = some (6, r)) (hc : (rest.map fun v => v.category).sum + 12 ≤ xmlo μ ∧ 1 ≤ xmf μ) (k : Px sd sc μ (pc + 3) lv rest h ks Φ) : Px sd sc μ pc lv (.ref b :: rest) h ks Φ := k.imp fun _ q => ⟨lx_obj hi hf hc q.1, q.2⟩
theorem px_sp {x k μ' : Nat} {as rest : List Value} {r : Option Value} {h' : xH} {ks' : Nat} (hi : (xmc μ)[pc]? = some (some (.invokespecial x))) (hf : ∀ r, xfnd (xcalT (xmo μ)) x ≠ some (6, r)) (hv : xinv (xmo μ) μ x st = some (k, μ', as, rest)) (hk : (k = 0 ∨ k = 4) ∧ xmr μ' = none ∧ xini μ' = true ∧ xcod μ' = true) (hc : Cx sd μ' as h ks (none, r, h', ks')) (kk : Px sd sc μ (pc + 3) lv (r.toList ++ rest) h' ks' Φ) : Px sd sc μ pc lv st h ks Φ := kk.imp fun _ q => ⟨lx_sp hi hf hv hk hc q.1, q.2⟩
theorem px_if {c : Jvm.ClassFile.Cond} {off : Int} {x : Int32} {t : Nat} (hi : (xmc μ)[pc]? = some (some (.ifCond c off))) (ht : xj pc off = some t) (k1 : xcmp c x 0 = true → Px sd sc μ t lv st h ks Φ) (k2 : xcmp c x 0 = false → Px sd sc μ (pc + 3) lv st h ks Φ) : Px sd sc μ pc lv (.int x :: st) h ks Φ := by
  cases hb : xcmp c x 0 with
  | true => exact px_step hi rfl (by unfold xstep; dsimp only; rw [ht]; dsimp only; rw [hb]; rfl) (k1 hb)
  | false => exact px_step hi rfl (by unfold xstep; dsimp only; rw [ht]; dsimp only; rw [hb]; rfl) (k2 hb)
theorem px_icmp {c : Jvm.ClassFile.Cond} {off : Int} {x y : Int32} {t : Nat} (hi : (xmc μ)[pc]? = some (some (.if_icmp c off))) (ht : xj pc off = some t) (k1 : xcmp c x y = true → Px sd sc μ t lv st h ks Φ) (k2 : xcmp c x y = false → Px sd sc μ (pc + 3) lv st h ks Φ) : Px sd sc μ pc lv (.int y :: .int x :: st) h ks Φ := by
  cases hb : xcmp c x y with
  | true => exact px_step hi rfl (by unfold xstep; dsimp only; rw [ht]; dsimp only; rw [hb]; rfl) (k1 hb)
  | false => exact px_step hi rfl (by unfold xstep; dsimp only; rw [ht]; dsimp only; rw [hb]; rfl) (k2 hb)
theorem px_cpy {x : Nat} {rest : List Value} {h' : xH} (hi : (xmc μ)[pc]? = some (some (.invokestatic x))) (hm : xmath (xmo μ) μ x st = none) (hv : xinv (xmo μ) μ x st = none) (hc : xcpy (xmo μ) μ x st h = some (rest, h')) (k : Px sd sc μ (pc + 3) lv rest h' ks Φ) : Px sd sc μ pc lv st h ks Φ := k.imp fun _ q => ⟨lx_cpy hi hm hv hc q.1, q.2⟩
theorem px_anw {x : Nat} {rest : List Value} (hi : (xmc μ)[pc]? = some (some (.anewarray x))) (hm : xanw (xmo μ) x st = some rest) (k : Px sd sc μ (pc + 3) lv (.ref (h.length + 4) :: rest) (h ++ [(103, [])]) ks Φ) : Px sd sc μ pc lv st h ks Φ := k.imp fun _ q => ⟨lx_anw hi hm q.1, q.2⟩
theorem px_mul {x dm sl : Nat} {rest : List Value} {es : xH} (hi : (xmc μ)[pc]? = some (some (.multianewarray x dm))) (hf : xmul (xmo μ) x dm st (h.length + 4) = some (rest, es, sl)) (k : Px sd sc μ (pc + 4) lv (.ref (h.length + 4) :: rest) (h ++ es) (ks + sl) Φ) : Px sd sc μ pc lv st h ks Φ := k.imp fun _ q => ⟨lx_mul hi hf q.1, q.2⟩
end XPX
end
section
/-! one object's cells as numbers, by place -/
section YM
abbrev yS : Type := Nat → Nat → Int32
def ykn : List (Nat × Nat) := [(9, 9), (0, 5), (5, 1), (100, 10), (5, 1), (100, 10), (2, 2), (100, 100), (2, 2), (100, 50), (3, 3), (5, 1), (100, 7), (5, 1), (100, 7), (1, 7), (5, 1), (100, 10), (4, 7), (2, 2), (100, 35), (5, 1), (100, 10), (5, 1), (100, 5), (7, 4), (2, 2), (100, 280), (5, 1), (100, 5), (6, 11), (2, 2), (100, 40), (2, 2), (100, 40), (5, 1), (100, 8), (5, 1), (100, 8), (5, 1), (100, 8), (8, 3), (2, 2), (100, 360), (2, 2), (100, 360), (5, 1), (100, 5), (5, 1), (100, 8), (5, 1), (100, 8), (6, 11), (2, 2), (100, 40), (2, 2), (100, 40), (5, 1), (100, 8), (5, 1), (100, 8), (5, 1), (100, 8), (8, 3), (2, 2), (100, 360), (2, 2), (100, 360), (5, 1), (100, 5), (5, 1), (100, 8), (5, 1), (100, 8)]
def yfq : Nat → Nat → Nat
  | 0, 0 => 1
  | 0, 1 => 10
  | 0, 2 => 15
  | 0, 3 => 18
  | 0, 4 => 25
  | 0, 5 => 30
  | 0, 6 => 52
  | 1, 1 => 2
  | 1, 2 => 4
  | 1, 3 => 6
  | 1, 4 => 8
  | 2, 0 => 3
  | 4, 0 => 5
  | 6, 0 => 1010
  | 6, 1 => 7
  | 8, 0 => 1005
  | 8, 1 => 9
  | 10, 1 => 11
  | 10, 2 => 13
  | 11, 0 => 12
  | 13, 0 => 14
  | 15, 6 => 16
  | 16, 0 => 17
  | 18, 4 => 19
  | 18, 5 => 21
  | 18, 6 => 23
  | 19, 0 => 1005
  | 19, 1 => 20
  | 21, 0 => 22
  | 23, 0 => 24
  | 25, 2 => 26
  | 25, 3 => 28
  | 26, 0 => 1008
  | 26, 1 => 27
  | 28, 0 => 29
  | 30, 2 => 31
  | 30, 3 => 33
  | 30, 4 => 35
  | 30, 5 => 37
  | 30, 6 => 39
  | 30, 7 => 41
  | 30, 8 => 46
  | 30, 9 => 48
  | 30, 10 => 50
  | 31, 0 => 1008
  | 31, 1 => 32
  | 33, 0 => 1008
  | 33, 1 => 34
  | 35, 0 => 36
  | 37, 0 => 38
  | 39, 0 => 40
  | 41, 1 => 42
  | 41, 2 => 44
  | 42, 0 => 1009
  | 42, 1 => 43
  | 44, 0 => 1009
  | 44, 1 => 45
  | 46, 0 => 47
  | 48, 0 => 49
  | 50, 0 => 51
  | 52, 2 => 53
  | 52, 3 => 55
  | 52, 4 => 57
  | 52, 5 => 59
  | 52, 6 => 61
  | 52, 7 => 63
  | 52, 8 => 68
  | 52, 9 => 70
  | 52, 10 => 72
  | 53, 0 => 1008
  | 53, 1 => 54
  | 55, 0 => 1008
  | 55, 1 => 56
  | 57, 0 => 58
  | 59, 0 => 60
  | 61, 0 => 62
  | 63, 1 => 64
  | 63, 2 => 66
  | 64, 0 => 1009
  | 64, 1 => 65
  | 66, 0 => 1009
  | 66, 1 => 67
  | 68, 0 => 69
  | 70, 0 => 71
  | 72, 0 => 73
  | _, _ => 0
def ykd (k : Nat) : Nat := match ykn[k]? with
  | some q => q.1
  | none => 999
def yln (k : Nat) : Nat := match ykn[k]? with
  | some q => q.2
  | none => 0
/-- what a place holds: 0: a number; below 1000: the cell of that place; else a fixed number -/
def yfr (k j : Nat) : Nat := bif Nat.beq (ykd k) 100 then 0 else yfq k j
def ysl (s : yS) (k j : Nat) : Value := match yfr k j with
  | 0 => .int (s k j)
  | d + 1 => bif Nat.ble 1000 (d + 1) then .int (Int32.ofNat (d + 1 - 1000)) else .ref (d + 1)
def yad (b : Nat) : Nat → Nat := fun k => b + k
def yce (b : Nat) (s : yS) (k : Nat) : xE := (ykd k, (List.range (yln k)).map (fun j => xv (yad b) (ysl s k j)))
def yput (h : xH) (b : Nat) (s : yS) : xH := (List.range h.length).map (fun i => if b ≤ i + 4 ∧ i + 4 < b + 74 then yce b s (i + 4 - b) else h.getD i (0, []))
def yB (h : xH) (b : Nat) : Prop := 4 ≤ b ∧ b + 74 ≤ h.length + 4
def yup (s : yS) (k j : Nat) (v : Int32) : yS := fun k' j' => if k' = k ∧ j' = j then v else s k' j'
theorem yput_len (h : xH) (b : Nat) (s : yS) : (yput h b s).length = h.length := by simp [yput]
theorem yput_at {h : xH} {i : Nat} (b : Nat) (s : yS) (hi : i < h.length) : (yput h b s)[i]? = some (if b ≤ i + 4 ∧ i + 4 < b + 74 then yce b s (i + 4 - b) else h.getD i (0, [])) := by
  simp [yput, hi]
theorem xget_hi {h : xH} {a : Nat} (ha : 4 ≤ a) : xget h a = h[a - 4]? := by
  unfold xget
  rw [Nat.ble_eq_true_of_le ha]
  rfl
theorem xget_lo {h : xH} {a : Nat} (ha : ¬ 4 ≤ a) : xget h a = none := by
  unfold xget
  cases hb : Nat.ble 4 a with
  | true => exact absurd (Nat.le_of_ble_eq_true hb) ha
  | false => rfl
theorem yput_get {h : xH} {b k : Nat} {s : yS} (hB : yB h b) (hk : k < 74) : xget (yput h b s) (b + k) = some (yce b s k) := by
  obtain ⟨h1, h2⟩ := hB
  rw [xget_hi (by omega), yput_at b s (by omega), if_pos (by omega)]
  congr 2
  omega
theorem yput_out {h : xH} {b a : Nat} (s : yS) (ha : ¬ (b ≤ a ∧ a < b + 74)) : xget (yput h b s) a = xget h a := by
  by_cases h4 : 4 ≤ a
  · rw [xget_hi h4, xget_hi h4]
    by_cases hl : a - 4 < h.length
    · rw [yput_at b s hl, if_neg (by omega), List.getD_eq_getElem?_getD, List.getElem?_eq_getElem hl]
      rfl
    · rw [List.getElem?_eq_none (by rw [yput_len]; omega), List.getElem?_eq_none (by omega)]
  · rw [xget_lo h4, xget_lo h4]
theorem yce_up {b : Nat} {s : yS} {k j : Nat} {v : Int32} (hj : j < yln k) (hf : yfr k j = 0) : (ykd k, (yce b s k).2.set j (.int v)) = yce b (yup s k j v) k := by
  unfold yce
  congr 1
  refine List.ext_getElem? fun i => ?_
  rw [List.getElem?_set]
  by_cases hij : j = i
  · subst hij
    simp only [List.length_map, List.length_range, hj, if_true, List.getElem?_map, List.getElem?_range hj, Option.map_some]
    unfold ysl
    rw [hf]
    simp [yup, xv]
  · rw [if_neg hij]
    simp only [List.getElem?_map]
    by_cases hi : i < yln k
    · simp only [List.getElem?_range hi, Option.map_some]
      congr 2
      unfold ysl
      have e : yup s k j v k i = s k i := by
        unfold yup
        rw [if_neg (fun q => hij q.2.symm)]
      rw [e]
    · rw [List.getElem?_eq_none (by simpa using hi)]
      rfl
theorem yce_ne {b : Nat} {s : yS} {k k' j : Nat} {v : Int32} (hk : k' ≠ k) : yce b (yup s k j v) k' = yce b s k' := by
  unfold yce
  congr 1
  refine List.map_congr_left fun i _ => ?_
  unfold ysl
  have e : yup s k j v k' i = s k' i := by
    unfold yup
    rw [if_neg (fun q => hk q.1)]
  rw [e]
theorem yput_set {h : xH} {b k j : Nat} {s : yS} {v : Int32} (hB : yB h b) (hk : k < 74) (hj : j < yln k) (hf : yfr k j = 0) : xset (yput h b s) (b + k) (ykd k, (yce b s k).2.set j (.int v)) = yput h b (yup s k j v) := by
  obtain ⟨h1, h2⟩ := hB
  rw [yce_up hj hf]
  unfold xset
  refine List.ext_getElem? fun i => ?_
  rw [List.getElem?_set]
  by_cases hi : i < h.length
  · by_cases hik : b + k - 4 = i
    · rw [if_pos hik, if_pos (by rw [yput_len]; omega), yput_at b _ hi, if_pos (by omega)]
      congr 2
      omega
    · rw [if_neg hik, yput_at b _ hi, yput_at b _ hi]
      by_cases hr : b ≤ i + 4 ∧ i + 4 < b + 74
      · rw [if_pos hr, if_pos hr, yce_ne (by omega)]
      · rw [if_neg hr, if_neg hr]
  · rw [if_neg (by omega), List.getElem?_eq_none (by rw [yput_len]; omega), List.getElem?_eq_none (by rw [yput_len]; omega)]
theorem yput_put (h : xH) (b : Nat) (s s' : yS) : yput (yput h b s) b s' = yput h b s' := by
  refine List.ext_getElem? fun i => ?_
  by_cases hi : i < h.length
  · rw [yput_at b s' (by rw [yput_len]; exact hi), yput_at b s' hi]
    by_cases hr : b ≤ i + 4 ∧ i + 4 < b + 74
    · rw [if_pos hr, if_pos hr]
    · rw [if_neg hr, if_neg hr, List.getD_eq_getElem?_getD, yput_at b s hi, if_neg hr]
      rfl
  · rw [List.getElem?_eq_none (by rw [yput_len, yput_len]; omega), List.getElem?_eq_none (by rw [yput_len]; omega)]
-- locals
def yc2 : Value → Bool
  | .long _ => true
  | .double _ => true
  | _ => false
theorem yc2_cat (v : Value) : (v.category == 2) = yc2 v := by cases v <;> rfl
def yins (i : Nat) (v : Value) : xL → xL
  | [] => [(i, v)]
  | (j, w) :: r => bif Nat.beq i j then (i, v) :: r else bif Nat.blt i j then (i, v) :: (j, w) :: r else (j, w) :: yins i v r
theorem xlk_ins (i k : Nat) (v : Value) : ∀ l : xL, xlk k (yins i v l) = bif Nat.beq i k then some v else xlk k l
  | [] => by
    unfold yins xlk
    rfl
  | (j, w) :: r => by
    unfold yins
    cases h1 : Nat.beq i j with
    | true =>
      have e := Nat.eq_of_beq_eq_true h1
      subst e
      show xlk k ((i, v) :: r) = _
      unfold xlk
      cases h3 : Nat.beq i k <;> rfl
    | false =>
      cases h2 : Nat.blt i j with
      | true =>
        show xlk k ((i, v) :: (j, w) :: r) = _
        rw [xlk]
      | false =>
        show xlk k ((j, w) :: yins i v r) = _
        rw [xlk, xlk_ins i k v r, xlk]
        cases h3 : Nat.beq j k with
        | true =>
          have e := Nat.eq_of_beq_eq_true h3
          subst e
          rw [h1]
          rfl
        | false => rfl
def ydrop (p : Nat → Bool) : xL → xL
  | [] => []
  | (j, w) :: r => bif p j then ydrop p r else (j, w) :: ydrop p r
theorem xlk_drop {p : Nat → Bool} {k : Nat} : ∀ {l : xL} {v : Value}, xlk k (ydrop p l) = some v → p k = false ∧ xlk k l = some v
  | [], v, h => by cases h
  | (j, w) :: r, v, h => by
    unfold ydrop at h
    cases hp : p j with
    | true =>
      rw [hp] at h
      obtain ⟨a, b⟩ := xlk_drop (l := r) h
      refine ⟨a, ?_⟩
      unfold xlk
      cases hj : Nat.beq j k with
      | true =>
        have e := Nat.eq_of_beq_eq_true hj
        subst e
        rw [hp] at a
        cases a
      | false => exact b
    | false =>
      rw [hp] at h
      replace h : xlk k ((j, w) :: ydrop p r) = some v := h
      unfold xlk at h ⊢
      cases hj : Nat.beq j k with
      | true =>
        rw [hj] at h
        have e := Nat.eq_of_beq_eq_true hj
        subst e
        exact ⟨hp, h⟩
      | false =>
        rw [hj] at h
        exact xlk_drop (l := r) h
def ypv (i : Nat) (lv : xL) : Nat → Bool := fun k => Nat.beq (k + 1) i && (match xlk k lv with | some v => yc2 v | none => false)
def ys1 (i : Nat) (v : Value) (lv : xL) : xL := yins i v (ydrop (fun k => Nat.beq k i || ypv i lv k) lv)
def ys2 (i : Nat) (v : Value) (lv : xL) : xL := yins i v (ydrop (fun k => Nat.beq k i || (Nat.beq k (i + 1) || ypv i lv k)) lv)
def ySub (b : Nat) (lv xlv : xL) : Prop := ∀ (k : Nat) (v : Value), xlk k lv = some v → xlk k xlv = some (xv (yad b) v)
theorem xlk_filter {p : Nat × Value → Bool} {k : Nat} {w : Value} (hp : p (k, w) = true) : ∀ {l : xL}, xlk k l = some w → xlk k (l.filter p) = some w
  | [], h => by cases h
  | (j, u) :: r, h => by
    rw [List.filter_cons]
    unfold xlk at h
    cases hj : Nat.beq j k with
    | true =>
      rw [hj] at h
      have e := Nat.eq_of_beq_eq_true hj
      subst e
      cases h
      rw [if_pos hp]
      unfold xlk
      rw [hj]
      rfl
    | false =>
      rw [hj] at h
      split
      · unfold xlk
        rw [hj]
        exact xlk_filter hp h
      · exact xlk_filter hp h
theorem ySub.st1 {b i : Nat} {v : Value} {lv xlv : xL} (h : ySub b lv xlv) : ySub b (ys1 i v lv) (xs1 i (xv (yad b) v) xlv) := by
  intro k w hk
  unfold ys1 at hk
  rw [xlk_ins] at hk
  unfold xs1
  cases hi : Nat.beq i k with
  | true =>
    rw [hi] at hk
    cases hk
    unfold xlk
    rw [hi]
    rfl
  | false =>
    rw [hi] at hk
    obtain ⟨h1, h2⟩ := xlk_drop hk
    unfold xlk
    rw [hi]
    refine xlk_filter ?_ (h k w h2)
    have hne : ¬ k = i := fun e => by
      rw [e, Nat.beq_refl] at hi
      cases hi
    rw [Bool.or_eq_false_iff] at h1
    have h3 := h1.2
    unfold ypv at h3
    rw [h2] at h3
    dsimp only at h3 ⊢
    rw [xv_cat, yc2_cat, Bool.and_eq_true, Bool.not_eq_true', Bool.not_eq_true']
    refine ⟨by simpa using hne, ?_⟩
    by_cases e : k + 1 = i
    · rw [show Nat.beq (k + 1) i = true from by rw [e]; exact Nat.beq_refl i] at h3
      rw [show yc2 w = false from by simpa using h3]
      simp
    · simp [e]
theorem ySub.st2 {b i : Nat} {v : Value} {lv xlv : xL} (h : ySub b lv xlv) : ySub b (ys2 i v lv) (xs2 i (xv (yad b) v) xlv) := by
  intro k w hk
  unfold ys2 at hk
  rw [xlk_ins] at hk
  unfold xs2
  cases hi : Nat.beq i k with
  | true =>
    rw [hi] at hk
    cases hk
    unfold xlk
    rw [hi]
    rfl
  | false =>
    rw [hi] at hk
    obtain ⟨h1, h2⟩ := xlk_drop hk
    unfold xlk
    rw [hi]
    refine xlk_filter ?_ (h k w h2)
    have hne : ¬ k = i := fun e => by
      rw [e, Nat.beq_refl] at hi
      cases hi
    rw [Bool.or_eq_false_iff, Bool.or_eq_false_iff] at h1
    have h4 : ¬ k = i + 1 := fun e => by
      have := h1.2.1
      rw [e, Nat.beq_refl] at this
      cases this
    have h3 := h1.2.2
    unfold ypv at h3
    rw [h2] at h3
    dsimp only at h3 ⊢
    rw [xv_cat, yc2_cat, Bool.and_eq_true, Bool.and_eq_true, Bool.not_eq_true', Bool.not_eq_true', Bool.not_eq_true']
    refine ⟨by simpa using hne, by simpa using h4, ?_⟩
    by_cases e : k + 1 = i
    · rw [show Nat.beq (k + 1) i = true from by rw [e]; exact Nat.beq_refl i] at h3
      rw [show yc2 w = false from by simpa using h3]
      simp
    · simp [e]
def ysel (ks : List Nat) (lv : xL) : xL := ks.filterMap (fun k => match xlk k lv with | some v => some (k, v) | none => none)
theorem ysel_ok (lv : xL) {k : Nat} {v : Value} : ∀ {ks : List Nat}, xlk k (ysel ks lv) = some v → xlk k lv = some v
  | [], h => by cases h
  | j :: r, h => by
    unfold ysel at h
    rw [List.filterMap_cons] at h
    cases hj : xlk j lv with
    | none =>
      rw [hj] at h
      exact ysel_ok lv (ks := r) h
    | some u =>
      rw [hj] at h
      dsimp only at h
      unfold xlk at h
      cases hb : Nat.beq j k with
      | true =>
        rw [hb] at h
        have e := Nat.eq_of_beq_eq_true hb
        subst e
        rw [hj]
        exact h
      | false =>
        rw [hb] at h
        exact ysel_ok lv (ks := r) h
end YM
end
section
/-! one instruction on numbers; what the lists say then -/
section YN
def ypu : Instr → Bool
  | .iconst _ => true
  | .bipush _ => true
  | .sipush _ => true
  | .lconst _ => true
  | .ldc _ => true
  | .ldc_w _ => true
  | .ldc2_w _ => true
  | .iadd => true
  | .isub => true
  | .imul => true
  | .idiv => true
  | .irem => true
  | .ineg => true
  | .iand => true
  | .ior => true
  | .ixor => true
  | .ishl => true
  | .ishr => true
  | .iushr => true
  | .ladd => true
  | .lmul => true
  | .lcmp => true
  | .i2l => true
  | .dup => true
  | .pop => true
  | .dup_x1 => true
  | .dup2 => true
  | .goto _ => true
  | .tableswitch _ _ _ _ => true
  | .lookupswitch _ _ => true
  | _ => false
/-- a number may be put there -/
def yok (ci j : Nat) (v : Int32) : Bool := match xtyf ci j with
  | .int => true
  | .boolean => decide (v = 0) || decide (v = 1)
  | _ => false
def yfin (ci j : Nat) : Bool := match xcl[ci]? with
  | some (_, T, _) => (T j).2.2.2
  | none => true
def ystep (o nL : Nat) (i : Instr) (pc : Nat) (lv : xL) (st : List Value) (s : yS) : Option (Nat × xL × List Value × yS) := match i with
  | .iload_n k => match xlk k lv with | some (.int x) => some (pc + 1, lv, .int x :: st, s) | _ => none
  | .iload k => match xlk k lv with | some (.int x) => some (pc + 2, lv, .int x :: st, s) | _ => none
  | .lload_n k => match xlk k lv with | some (.long x) => some (pc + 1, lv, .long x :: st, s) | _ => none
  | .lload k => match xlk k lv with | some (.long x) => some (pc + 2, lv, .long x :: st, s) | _ => none
  | .aload_n k => match xlk k lv with | some (.ref x) => some (pc + 1, lv, .ref x :: st, s) | _ => none
  | .aload k => match xlk k lv with | some (.ref x) => some (pc + 2, lv, .ref x :: st, s) | _ => none
  | .istore_n k => match st with | .int x :: st => bif Nat.blt k nL then some (pc + 1, ys1 k (.int x) lv, st, s) else none | _ => none
  | .istore k => match st with | .int x :: st => bif Nat.blt k nL then some (pc + 2, ys1 k (.int x) lv, st, s) else none | _ => none
  | .lstore_n k => match st with | .long x :: st => bif Nat.blt (k + 1) nL then some (pc + 1, ys2 k (.long x) lv, st, s) else none | _ => none
  | .lstore k => match st with | .long x :: st => bif Nat.blt (k + 1) nL then some (pc + 2, ys2 k (.long x) lv, st, s) else none | _ => none
  | .iinc k n => match xlk k lv with | some (.int x) => (bif Nat.blt k nL then some (pc + 3, ys1 k (.int (x + Int32.ofInt n)) lv, st, s) else none) | _ => none
  | .getfield x => match st with
    | .ref k :: st => match xfnd (xfldT o) x with
      | some (ci, j, _, _) => bif Nat.beq (ykd k) ci && (Nat.blt j (yln k) && Nat.blt k 74) then some (pc + 3, lv, ysl s k j :: st, s) else none
      | none => none
    | _ => none
  | .putfield x => match st with
    | .int v :: .ref k :: st => match xfnd (xfldT o) x with
      | some (ci, j, _, _) => bif Nat.beq (ykd k) ci && (Nat.blt j (yln k) && (Nat.blt k 74 && (Nat.beq (yfr k j) 0 && (yok ci j v && !yfin ci j)))) then some (pc + 3, lv, st, yup s k j v) else none
      | none => none
    | _ => none
  | .arraylength => match st with
    | .ref k :: st => bif Nat.beq (ykd k) 100 && Nat.blt k 74 then some (pc + 1, lv, .int (Int32.ofNat (yln k)) :: st, s) else none
    | _ => none
  | i => bif ypu i then (match xstep o nL false none i pc [] st [] 0 with | some (pc', _, st', _, _) => some (pc', lv, st', s) | none => none) else none
theorem ypu_ok {o nL : Nat} {ini : Bool} {sc : Option (List Int32)} {i : Instr} {pc pc' : Nat} {lv' xlv : xL} {st st' : List Value} {h h' : xH} {ks ks' : Nat} (ad : Nat → Nat) (hp : ypu i = true) (he : xstep o nL false none i pc [] st [] 0 = some (pc', lv', st', h', ks')) :
    xstep o nL ini sc i pc xlv (st.map (xv ad)) h ks = some (pc', xlv, st'.map (xv ad), h, ks) := by
  cases i <;> simp only [ypu, Bool.false_eq_true] at hp
  all_goals (simp only [xstep, Bool.cond_eq_ite] at he ⊢)
  all_goals (repeat' split at he)
  all_goals first
    | (cases he; done)
    | (cases he; simp only [List.map_cons, xv_cat, *, reduceIte]; done)
    | (cases he; simp_all only [List.map_cons, List.map_nil, xv, xv_cat, if_true, if_false, reduceIte]; done)
    | (cases he; simp_all [xv, xv_cat]; done)
theorem yok_ok {ci j : Nat} {v : Int32} (h : yok ci j v = true) : narrow (xtyf ci j) (.int v) = .int v ∧ fits (xtyf ci j) (.int v) = true := by
  unfold yok at h
  split at h
  · rename_i e
    rw [e]
    exact ⟨rfl, rfl⟩
  · rename_i e
    rw [e]
    rw [Bool.or_eq_true, decide_eq_true_eq, decide_eq_true_eq] at h
    rcases h with rfl | rfl <;> exact ⟨rfl, rfl⟩
  · cases h
theorem xlk_len {k : Nat} {b : Nat} {lv xlv : xL} {v : Value} (hs : ySub b lv xlv) (h : xlk k lv = some v) : xlk k xlv = some (xv (yad b) v) := hs k v h
set_option maxHeartbeats 1000000 in
theorem ystep_ok {o nL : Nat} {ini : Bool} {sc : Option (List Int32)} {i : Instr} {pc pc' : Nat} {lv lv' xlv : xL} {st st' : List Value} {s s' : yS} {h : xH} {b ks : Nat} (hB : yB h b) (hs : ySub b lv xlv) (he : ystep o nL i pc lv st s = some (pc', lv', st', s')) :
    xpl i = true ∧ ∃ xlv', xstep o nL ini sc i pc xlv (st.map (xv (yad b))) (yput h b s) ks = some (pc', xlv', st'.map (xv (yad b)), yput h b s', ks) ∧ ySub b lv' xlv' := by
  have hload : ∀ {k : Nat} {v : Value}, xlk k lv = some v → xlk k xlv = some (xv (yad b) v) := fun {k v} q => hs k v q
  have hblt : ∀ {a c : Nat}, Nat.blt a c = true → a < c := fun q => Nat.le_of_ble_eq_true q
  unfold ystep at he
  split at he
  case h_1 =>
    split at he
    · rename_i hk; cases he
      refine ⟨rfl, xlv, ?_, hs⟩
      unfold xstep; dsimp only; rw [hload hk]; rfl
    · cases he
  case h_2 =>
    split at he
    · rename_i hk; cases he
      refine ⟨rfl, xlv, ?_, hs⟩
      unfold xstep; dsimp only; rw [hload hk]; rfl
    · cases he
  case h_3 =>
    split at he
    · rename_i hk; cases he
      refine ⟨rfl, xlv, ?_, hs⟩
      unfold xstep; dsimp only; rw [hload hk]; rfl
    · cases he
  case h_4 =>
    split at he
    · rename_i hk; cases he
      refine ⟨rfl, xlv, ?_, hs⟩
      unfold xstep; dsimp only; rw [hload hk]; rfl
    · cases he
  case h_5 =>
    split at he
    · rename_i hk; cases he
      refine ⟨rfl, xlv, ?_, hs⟩
      unfold xstep; dsimp only; rw [hload hk]; rfl
    · cases he
  case h_6 =>
    split at he
    · rename_i hk; cases he
      refine ⟨rfl, xlv, ?_, hs⟩
      unfold xstep; dsimp only; rw [hload hk]; rfl
    · cases he
  case h_7 =>
    split at he
    · rename_i x st1
      rw [Bool.cond_eq_ite] at he
      split at he
      · rename_i hb
        cases he
        refine ⟨rfl, _, ?_, hs.st1⟩
        simp only [xstep, List.map_cons, xv, if_pos (hblt hb)]
      · cases he
    · cases he
  case h_8 =>
    split at he
    · rename_i x st1
      rw [Bool.cond_eq_ite] at he
      split at he
      · rename_i hb
        cases he
        refine ⟨rfl, _, ?_, hs.st1⟩
        simp only [xstep, List.map_cons, xv, if_pos (hblt hb)]
      · cases he
    · cases he
  case h_9 =>
    split at he
    · rename_i x st1
      rw [Bool.cond_eq_ite] at he
      split at he
      · rename_i hb
        cases he
        refine ⟨rfl, _, ?_, hs.st2⟩
        simp only [xstep, List.map_cons, xv, if_pos (hblt hb)]
      · cases he
    · cases he
  case h_10 =>
    split at he
    · rename_i x st1
      rw [Bool.cond_eq_ite] at he
      split at he
      · rename_i hb
        cases he
        refine ⟨rfl, _, ?_, hs.st2⟩
        simp only [xstep, List.map_cons, xv, if_pos (hblt hb)]
      · cases he
    · cases he
  case h_11 =>
    split at he
    · rename_i x hk
      rw [Bool.cond_eq_ite] at he
      split at he
      · rename_i hb
        cases he
        refine ⟨rfl, _, ?_, hs.st1⟩
        have e := hload hk
        simp only [xv] at e
        simp only [xstep, e, xv, if_pos (hblt hb)]
      · cases he
    · cases he
  case h_12 =>
    split at he
    · rename_i x k st1
      split at he
      · rename_i ci j kd pw hf
        cases hb : (Nat.beq (ykd k) ci && (Nat.blt j (yln k) && Nat.blt k 74)) with
        | false => rw [hb] at he; cases he
        | true =>
          rw [hb] at he; cases he
          rw [Bool.and_eq_true, Bool.and_eq_true] at hb
          refine ⟨rfl, xlv, ?_, hs⟩
          have e1 := Nat.eq_of_beq_eq_true hb.1
          have e2 := hblt hb.2.1
          have e3 := yput_get (s := s) hB (hblt hb.2.2)
          have e4 : (yce b s k).2[j]? = some (xv (yad b) (ysl s k j)) := by
            simp [yce, e2]
          simp only [xstep, List.map_cons, xv, yad, hf, e3]
          show (if ykd k = ci then _ else _) = _
          rw [if_pos e1, e4]
          rfl
      · cases he
    · cases he
  case h_13 =>
    split at he
    · rename_i x v k st1
      split at he
      · rename_i ci j kd pw hf
        cases hb : (Nat.beq (ykd k) ci && (Nat.blt j (yln k) && (Nat.blt k 74 && (Nat.beq (yfr k j) 0 && (yok ci j v && !yfin ci j))))) with
        | false => rw [hb] at he; cases he
        | true =>
          rw [hb] at he; cases he
          simp only [Bool.and_eq_true, Bool.not_eq_true'] at hb
          obtain ⟨c1, c2, c3, c4, c5, c6⟩ := hb
          refine ⟨rfl, xlv, ?_, hs⟩
          have e1 := Nat.eq_of_beq_eq_true c1
          have e2 := hblt c2
          have e3 := yput_get (s := s) hB (hblt c3)
          have e5 := Nat.eq_of_beq_eq_true c4
          obtain ⟨n1, n2⟩ := yok_ok c5
          unfold yfin at c6
          split at c6
          · rename_i C T N hc
            simp only [xstep, List.map_cons, xv, yad, hf, e3]
            show (match xcl[ci]? with | some (_, T, _) => _ | none => none) = _
            rw [hc]
            dsimp only
            rw [if_pos ⟨e1, by simp [yce, e2], n1, n2, Or.inl c6⟩, ← yput_set hB (hblt c3) e2 e5]
            rfl
          · cases c6
      · cases he
    · cases he
  case h_14 =>
    split at he
    · rename_i k st1
      cases hb : (Nat.beq (ykd k) 100 && Nat.blt k 74) with
      | false => rw [hb] at he; cases he
      | true =>
        rw [hb] at he; cases he
        rw [Bool.and_eq_true] at hb
        refine ⟨rfl, xlv, ?_, hs⟩
        have e3 := yput_get (s := s) hB (hblt hb.2)
        have e1 : ykd k = 100 := Nat.eq_of_beq_eq_true hb.1
        simp only [xstep, List.map_cons, xv, yad, e3]
        show (if 100 ≤ ykd k ∧ ykd k < 106 then _ else _) = _
        rw [if_pos (by omega)]
        simp [yce]
    · cases he
  case h_15 =>
    cases hb : ypu i with
    | false => rw [hb] at he; cases he
    | true =>
      rw [hb] at he
      replace he : (match xstep o nL false none i pc [] st [] 0 with | some (pc', _, st', _, _) => some (pc', lv, st', s) | none => none) = some (pc', lv', st', s') := he
      split at he
      · rename_i hx
        cases he
        refine ⟨?_, xlv, ypu_ok (yad b) hb hx, hs⟩
        cases i <;> first | rfl | cases hb
      · cases he
end YN
end
section
/-! runs on numbers, and a rule for each kind of instruction -/
section YR
def Yx (sd : Option (List Int32)) (μ pc : Nat) (lv : xL) (st : List Value) (s : yS) (r : Option Value) (s' : yS) : Prop := ∀ (h : xH) (b ks : Nat) (xlv : xL), yB h b → ySub b lv xlv → Lx sd sd μ pc xlv (st.map (xv (yad b))) (yput h b s) ks (none, r.map (xv (yad b)), yput h b s', ks)
def Yc (sd : Option (List Int32)) (μ : Nat) (as : List Value) (s : yS) (r : Option Value) (s' : yS) : Prop := ∀ (h : xH) (b ks : Nat), yB h b → Cx sd μ (as.map (xv (yad b))) (yput h b s) ks (none, r.map (xv (yad b)), yput h b s', ks)
def Yp (sd : Option (List Int32)) (μ pc : Nat) (lv : xL) (st : List Value) (s : yS) (Φ : Option Value → yS → Prop) : Prop := ∃ r s', Yx sd μ pc lv st s r s' ∧ Φ r s'
def Yq (sd : Option (List Int32)) (μ : Nat) (as : List Value) (s : yS) (Φ : Option Value → yS → Prop) : Prop := ∃ r s', Yc sd μ as s r s' ∧ Φ r s'
theorem xlk_m {ad : Nat → Nat} {k : Nat} {v : Value} : ∀ {lv : xL}, xlk k lv = some v → xlk k (xm ad lv) = some (xv ad v)
  | [], h => by cases h
  | (j, w) :: r, h => by
    unfold xlk at h
    show xlk k ((j, xv ad w) :: xm ad r) = _
    unfold xlk
    cases hj : Nat.beq j k with
    | true => rw [hj] at h; cases h; rfl
    | false => rw [hj] at h; exact xlk_m h
theorem lvargs_m (ad : Nat → Nat) : ∀ (as : List Value) (i : Nat), lv_args i (as.map (xv ad)) = xm ad (lv_args i as)
  | [], _ => rfl
  | v :: r, i => by
    show (i, xv ad v) :: lv_args (if (xv ad v).category = 2 then i + 2 else i + 1) (r.map (xv ad)) = _
    rw [xv_cat, lvargs_m ad r]
    rfl
theorem xinv_m {o μ x k μ' : Nat} {st as rest : List Value} (ad : Nat → Nat) (h : xinv o μ x st = some (k, μ', as, rest)) : xinv o μ x (st.map (xv ad)) = some (k, μ', as.map (xv ad), rest.map (xv ad)) := by
  unfold xinv at h ⊢
  split at h
  · rename_i k2 μ2 r2 hf
    split at h
    · rename_i hle
      rw [if_pos (by rw [List.length_map]; exact hle)]
      split at h
      · rename_i hk
        split at h
        · rename_i hc
          cases h
          rw [if_pos hk, ← List.map_drop, xcat_m, if_pos hc, ← List.map_take, List.map_reverse]
        · cases h
      · rename_i hk
        rw [if_neg hk, ← List.map_drop]
        split at h
        · rename_i b rest9 hd
          split at h
          · rename_i hc
            cases h
            rw [hd]
            simp only [List.map_cons, xv]
            rw [xcat_m, if_pos hc, ← List.map_take, List.map_reverse]
          · cases h
        · cases h
    · cases h
  · cases h
theorem xinv_math {o μ x k μ' : Nat} {st as rest : List Value} (hk : k < 7) (h : xinv o μ x st = some (k, μ', as, rest)) (st' : List Value) : xmath o μ x st' = none := by
  obtain ⟨r', hf, -⟩ := xinv_ok h
  unfold xmath
  rw [hf]
  split
  · rename_i e; cases e; omega
  · rename_i e; cases e; omega
  · rename_i e; cases e; omega
  · rfl
theorem xmath_m {o μ x : Nat} {st rest : List Value} {v : Int32} (ad : Nat → Nat) (h : xmath o μ x st = some (v, rest)) : xmath o μ x (st.map (xv ad)) = some (v, rest.map (xv ad)) := by
  unfold xmath at h ⊢
  repeat' split at h
  all_goals first
    | (cases h; done)
    | (cases h; simp only [List.map_cons, xv]; rw [xcat_m]; simp only [*, if_true, and_self, reduceIte]; done)
theorem xexit_m {μ : Nat} {i : Instr} {st : List Value} {r : Option Value} (ad : Nat → Nat) (h : xexit μ i st = some r) : xexit μ i (st.map (xv ad)) = some (r.map (xv ad)) := by
  unfold xexit at h ⊢
  repeat' split at h
  all_goals first
    | (cases h; done)
    | (cases h; simp_all [xv]; done)
def yrecv (μ' : Nat) (as : List Value) : Bool := match as with
  | .ref k :: _ => Nat.blt k 74 && (Nat.beq (ykd k) (xmo μ') && Nat.blt (xmo μ') xNX)
  | _ => false
theorem yrecv_ok {μ' : Nat} {as : List Value} {h : xH} {b : Nat} {s : yS} (hB : yB h b) (hr : yrecv μ' as = true) : xrecv μ' (as.map (xv (yad b))) (yput h b s) = true := by
  unfold yrecv at hr
  split at hr
  · rename_i k r
    rw [Bool.and_eq_true, Bool.and_eq_true] at hr
    have e3 := yput_get (s := s) hB (Nat.le_of_ble_eq_true hr.1)
    have e1 := Nat.eq_of_beq_eq_true hr.2.1
    unfold xrecv
    simp only [List.map_cons, xv, yad, e3, yce]
    rw [Bool.and_eq_true, decide_eq_true_eq, e1]
    exact ⟨rfl, hr.2.2⟩
  · cases hr
variable {sd : Option (List Int32)} {μ pc : Nat} {lv : xL} {st : List Value} {s : yS} {Φ : Option Value → yS → Prop}
theorem Yq.of {as : List Value} (hc : xcod μ = true) (hl : (lg_sl as).length ≤ xml μ) (k : Yp sd μ 0 (lv_args 0 as) [] s Φ) : Yq sd μ as s Φ := by
  obtain ⟨r, s', k, hΦ⟩ := k
  refine ⟨r, s', fun h b ks hB => ?_, hΦ⟩
  refine Cx.of (Or.inl hc) (by rw [xlg_m]; exact hl) ?_
  rw [lvargs_m]
  exact k h b ks _ hB (fun k v q => xlk_m q)
theorem Yq.imp {as : List Value} {Ψ : Option Value → yS → Prop} (h : Yq sd μ as s Φ) (k : ∀ r s', Φ r s' → Ψ r s') : Yq sd μ as s Ψ := by
  obtain ⟨r, s', h1, h2⟩ := h
  exact ⟨r, s', h1, k _ _ h2⟩
theorem Yp.imp {Ψ : Option Value → yS → Prop} (h : Yp sd μ pc lv st s Φ) (k : ∀ r s', Φ r s' → Ψ r s') : Yp sd μ pc lv st s Ψ := by
  obtain ⟨r, s', h1, h2⟩ := h
  exact ⟨r, s', h1, k _ _ h2⟩
theorem yp_step {i : Instr} {pc' : Nat} {lv' : xL} {st' : List Value} {s' : yS} (hi : (xmc μ)[pc]? = some (some i)) (he : ystep (xmo μ) (xml μ) i pc lv st s = some (pc', lv', st', s')) (k : Yp sd μ pc' lv' st' s' Φ) : Yp sd μ pc lv st s Φ := by
  obtain ⟨r, s9, k, hΦ⟩ := k
  refine ⟨r, s9, fun h b ks xlv hB hs => ?_, hΦ⟩
  obtain ⟨hp, xlv', h1, h2⟩ := ystep_ok (ini := xini μ) (sc := sd) (ks := ks) hB hs he
  exact lx_step hi hp h1 (k h b ks xlv' hB h2)
/-- n instructions, one behind the other -/
def yrun (o nL : Nat) (cod : List (Option Instr)) : Nat → Nat → xL → List Value → yS → Option (Nat × xL × List Value × yS)
  | 0, pc, lv, st, s => some (pc, lv, st, s)
  | n + 1, pc, lv, st, s => match cod[pc]? with
    | some (some i) => match ystep o nL i pc lv st s with
      | some (pc', lv', st', s') => yrun o nL cod n pc' lv' st' s'
      | none => none
    | _ => none
theorem yp_run (n : Nat) {pc' : Nat} {lv' : xL} {st' : List Value} {s' : yS} (he : yrun (xmo μ) (xml μ) (xmc μ) n pc lv st s = some (pc', lv', st', s')) (k : Yp sd μ pc' lv' st' s' Φ) : Yp sd μ pc lv st s Φ := by
  induction n generalizing pc lv st s with
  | zero => cases he; exact k
  | succ n ih =>
    unfold yrun at he
    split at he
    · rename_i i hi
      split at he
      · rename_i hs
        exact yp_step hi hs (ih he)
      · cases he
    · cases he
theorem yp_sel (ks : List Nat) (k : Yp sd μ pc (ysel ks lv) st s Φ) : Yp sd μ pc lv st s Φ := by
  obtain ⟨r, s9, k, hΦ⟩ := k
  exact ⟨r, s9, fun h b ks xlv hB hs => k h b ks xlv hB (fun j v q => hs j v (ysel_ok lv q)), hΦ⟩
theorem yp_if {c : Jvm.ClassFile.Cond} {off : Int} {x : Int32} {t : Nat} (hi : (xmc μ)[pc]? = some (some (.ifCond c off))) (ht : xj pc off = some t) (k1 : xcmp c x 0 = true → Yp sd μ t lv st s Φ) (k2 : xcmp c x 0 = false → Yp sd μ (pc + 3) lv st s Φ) : Yp sd μ pc lv (.int x :: st) s Φ := by
  cases hb : xcmp c x 0 with
  | true =>
    obtain ⟨r, s9, k, hΦ⟩ := k1 hb
    exact ⟨r, s9, fun h b ks xlv hB hs => lx_step hi rfl (by unfold xstep; show (match xj pc off with | some t => bif xcmp c x 0 then some (t, xlv, st.map (xv (yad b)), yput h b s, ks) else some (pc + 3, xlv, st.map (xv (yad b)), yput h b s, ks) | none => none) = _; rw [ht]; show (bif xcmp c x 0 then _ else _) = _; rw [hb]; rfl) (k h b ks xlv hB hs), hΦ⟩
  | false =>
    obtain ⟨r, s9, k, hΦ⟩ := k2 hb
    exact ⟨r, s9, fun h b ks xlv hB hs => lx_step hi rfl (by unfold xstep; show (match xj pc off with | some t => bif xcmp c x 0 then some (t, xlv, st.map (xv (yad b)), yput h b s, ks) else some (pc + 3, xlv, st.map (xv (yad b)), yput h b s, ks) | none => none) = _; rw [ht]; show (bif xcmp c x 0 then _ else _) = _; rw [hb]; rfl) (k h b ks xlv hB hs), hΦ⟩
theorem yp_icmp {c : Jvm.ClassFile.Cond} {off : Int} {x y : Int32} {t : Nat} (hi : (xmc μ)[pc]? = some (some (.if_icmp c off))) (ht : xj pc off = some t) (k1 : xcmp c x y = true → Yp sd μ t lv st s Φ) (k2 : xcmp c x y = false → Yp sd μ (pc + 3) lv st s Φ) : Yp sd μ pc lv (.int y :: .int x :: st) s Φ := by
  cases hb : xcmp c x y with
  | true =>
    obtain ⟨r, s9, k, hΦ⟩ := k1 hb
    exact ⟨r, s9, fun h b ks xlv hB hs => lx_step hi rfl (by unfold xstep; show (match xj pc off with | some t => bif xcmp c x y then some (t, xlv, st.map (xv (yad b)), yput h b s, ks) else some (pc + 3, xlv, st.map (xv (yad b)), yput h b s, ks) | none => none) = _; rw [ht]; show (bif xcmp c x y then _ else _) = _; rw [hb]; rfl) (k h b ks xlv hB hs), hΦ⟩
  | false =>
    obtain ⟨r, s9, k, hΦ⟩ := k2 hb
    exact ⟨r, s9, fun h b ks xlv hB hs => lx_step hi rfl (by unfold xstep; show (match xj pc off with | some t => bif xcmp c x y then some (t, xlv, st.map (xv (yad b)), yput h b s, ks) else some (pc + 3, xlv, st.map (xv (yad b)), yput h b s, ks) | none => none) = _; rw [ht]; show (bif xcmp c x y then _ else _) = _; rw [hb]; rfl) (k h b ks xlv hB hs), hΦ⟩
theorem yp_ret {i : Instr} {r : Option Value} (hi : (xmc μ)[pc]? = some (some i)) (hp : xrt i = true) (hr : xexit μ i st = some r) (k : Φ r s) : Yp sd μ pc lv st s Φ :=
  ⟨r, s, fun h b ks xlv hB hs => lx_ret hi hp (xexit_m (yad b) hr), k⟩
theorem xex_int {μ : Nat} {v : Int32} (h : xmr μ = some .int) : xexit μ .ireturn [.int v] = some (some (.int v)) := by
  unfold xexit
  dsimp only
  rw [h]
  dsimp only
  rw [if_pos (show narrow FieldType.int (.int v) = .int v from rfl)]
theorem xex_bool {μ : Nat} {v : Int32} (h : xmr μ = some .boolean) (hv : v = 0 ∨ v = 1) : xexit μ .ireturn [.int v] = some (some (.int v)) := by
  unfold xexit
  dsimp only
  rw [h]
  dsimp only
  rw [if_pos (show narrow FieldType.boolean (.int v) = .int v by rcases hv with rfl | rfl <;> rfl)]
theorem yp_ri {v : Int32} (hi : (xmc μ)[pc]? = some (some .ireturn)) (hm : xmr μ = some .int) (k : Φ (some (.int v)) s) : Yp sd μ pc lv [.int v] s Φ := yp_ret hi rfl (xex_int hm) k
theorem yp_rz {v : Int32} (hi : (xmc μ)[pc]? = some (some .ireturn)) (hm : xmr μ = some .boolean) (hv : v = 0 ∨ v = 1) (k : Φ (some (.int v)) s) : Yp sd μ pc lv [.int v] s Φ := yp_ret hi rfl (xex_bool hm hv) k
theorem yp_rl {v : Int64} (hi : (xmc μ)[pc]? = some (some .lreturn)) (hm : xmr μ = some .long) (k : Φ (some (.long v)) s) : Yp sd μ pc lv [.long v] s Φ := yp_ret hi rfl (by unfold xexit; dsimp only; rw [if_pos hm]) k
theorem yp_rv (hi : (xmc μ)[pc]? = some (some .return_)) (hm : xmr μ = none) (k : Φ none s) : Yp sd μ pc lv [] s Φ := yp_ret hi rfl (by unfold xexit; dsimp only; rw [if_pos hm]) k
/-- behind a call -/
def ybk (sd : Option (List Int32)) (μ pc : Nat) (lv : xL) (rest : List Value) (Φ : Option Value → yS → Prop) (r : Option Value) (s' : yS) : Prop := match r with
  | some v => Yp sd μ pc lv (v :: rest) s' Φ
  | none => Yp sd μ pc lv rest s' Φ
theorem ybk_ok {rest : List Value} {r1 : Option Value} {s1 : yS} (hk : ybk sd μ pc lv rest Φ r1 s1) : ∃ r2 s2, (∀ (h : xH) (b ks : Nat) (xlv : xL), yB h b → ySub b lv xlv → Lx sd sd μ pc xlv ((r1.map (xv (yad b))).toList ++ rest.map (xv (yad b))) (yput h b s1) ks (none, r2.map (xv (yad b)), yput h b s2, ks)) ∧ Φ r2 s2 := by
  cases r1 with
  | none => exact hk
  | some v => exact hk
theorem yp_vi {x μ' : Nat} {as rest : List Value} (hi : (xmc μ)[pc]? = some (some (.invokevirtual x))) (hv : xinv (xmo μ) μ x st = some (1, μ', as, rest)) (hr : yrecv μ' as = true) (hd : xcod μ' = true) (k : Yq sd μ' as s (ybk sd μ (pc + 3) lv rest Φ)) : Yp sd μ pc lv st s Φ := by
  obtain ⟨r1, s1, k1, hk⟩ := k
  obtain ⟨r2, s2, k2, hΦ⟩ := ybk_ok hk
  exact ⟨r2, s2, fun h b ks xlv hB hs => lx_vi hi (xinv_m (yad b) hv) (yrecv_ok hB hr) hd (k1 h b ks hB) (k2 h b ks xlv hB hs), hΦ⟩
theorem yp_st {x μ' : Nat} {as rest : List Value} (hi : (xmc μ)[pc]? = some (some (.invokestatic x))) (hv : xinv (xmo μ) μ x st = some (2, μ', as, rest)) (k : Yq sd μ' as s (ybk sd μ (pc + 3) lv rest Φ)) : Yp sd μ pc lv st s Φ := by
  obtain ⟨r1, s1, k1, hk⟩ := k
  obtain ⟨r2, s2, k2, hΦ⟩ := ybk_ok hk
  exact ⟨r2, s2, fun h b ks xlv hB hs => lx_st hi (xinv_math (by decide) hv _) (xinv_m (yad b) hv) (k1 h b ks hB) (k2 h b ks xlv hB hs), hΦ⟩
theorem yp_sn {x μ' : Nat} {as rest : List Value} (hi : (xmc μ)[pc]? = some (some (.invokestatic x))) (hv : xinv (xmo μ) μ x st = some (3, μ', as, rest)) (hd : xcod μ' = true) (k : Yq sd μ' as s (ybk sd μ (pc + 3) lv rest Φ)) : Yp sd μ pc lv st s Φ := by
  obtain ⟨r1, s1, k1, hk⟩ := k
  obtain ⟨r2, s2, k2, hΦ⟩ := ybk_ok hk
  exact ⟨r2, s2, fun h b ks xlv hB hs => lx_sn hi (xinv_math (by decide) hv _) (xinv_m (yad b) hv) hd (k1 h b ks hB) (k2 h b ks xlv hB hs), hΦ⟩
theorem yp_math {x : Nat} {v : Int32} {rest : List Value} (hi : (xmc μ)[pc]? = some (some (.invokestatic x))) (hm : xmath (xmo μ) μ x st = some (v, rest)) (k : Yp sd μ (pc + 3) lv (.int v :: rest) s Φ) : Yp sd μ pc lv st s Φ := by
  obtain ⟨r2, s2, k2, hΦ⟩ := k
  exact ⟨r2, s2, fun h b ks xlv hB hs => lx_math hi (xmath_m (yad b) hm) (k2 h b ks xlv hB hs), hΦ⟩
theorem yfr_arr {k j : Nat} (h : ykd k = 100) : yfr k j = 0 := by
  unfold yfr
  rw [h]
  rfl
theorem xix_ok {x : Int32} {n : Nat} (h0 : 0 ≤ x.toInt) (h1 : x.toInt.toNat < n) : xix x n = some x.toInt.toNat := by
  unfold xix
  have e : x.toNatClampNeg = x.toInt.toNat := rfl
  rw [if_neg (by rw [Int32.lt_iff_toInt_lt]; show ¬ x.toInt < 0; omega), if_neg (by omega), e]
theorem yp_iald {x : Int32} {k : Nat} {rest : List Value} (hi : (xmc μ)[pc]? = some (some .iaload)) (hk : k < 74) (hd : ykd k = 100) (h0 : 0 ≤ x.toInt) (h1 : x.toInt.toNat < yln k) (kk : Yp sd μ (pc + 1) lv (.int (s k x.toInt.toNat) :: rest) s Φ) : Yp sd μ pc lv (.int x :: .ref k :: rest) s Φ := by
  obtain ⟨r2, s2, k2, hΦ⟩ := kk
  refine ⟨r2, s2, fun h b ks xlv hB hs => lx_step hi rfl ?_ (k2 h b ks xlv hB hs), hΦ⟩
  have e3 := yput_get (s := s) hB hk
  have e4 : (yce b s k).2[x.toInt.toNat]? = some (.int (s k x.toInt.toNat)) := by
    simp only [yce, List.getElem?_map, List.getElem?_range h1, Option.map_some]
    unfold ysl
    rw [yfr_arr hd]
    rfl
  simp only [xstep, List.map_cons, xv, yad, e3]
  show (if ykd k = 100 then _ else _) = _
  rw [if_pos hd, show (yce b s k).2.length = yln k by simp [yce], xix_ok h0 h1]
  dsimp only
  rw [e4]
theorem yp_iast {x v : Int32} {k : Nat} {rest : List Value} (hi : (xmc μ)[pc]? = some (some .iastore)) (hk : k < 74) (hd : ykd k = 100) (h0 : 0 ≤ x.toInt) (h1 : x.toInt.toNat < yln k) (kk : Yp sd μ (pc + 1) lv rest (yup s k x.toInt.toNat v) Φ) : Yp sd μ pc lv (.int v :: .int x :: .ref k :: rest) s Φ := by
  obtain ⟨r2, s2, k2, hΦ⟩ := kk
  refine ⟨r2, s2, fun h b ks xlv hB hs => lx_step hi rfl ?_ (k2 h b ks xlv hB hs), hΦ⟩
  have e3 := yput_get (s := s) hB hk
  simp only [xstep, List.map_cons, xv, yad, e3]
  show (if ykd k = 100 then _ else _) = _
  rw [if_pos hd, show (yce b s k).2.length = yln k by simp [yce], xix_ok h0 h1]
  dsimp only
  rw [← yput_set hB hk h1 (yfr_arr hd), hd, show (yce b s k).1 = 100 from hd]
end YR
end
section
/-! rows and grids on numbers -/
section YG
variable {sd : Option (List Int32)} {μ pc : Nat} {lv : xL} {st : List Value} {s : yS} {Φ : Option Value → yS → Prop}
theorem xc_lt (x y : Int32) : xcmp .lt x y = decide (x.toInt < y.toInt) := by
  unfold xcmp
  exact decide_eq_decide.mpr Int32.lt_iff_toInt_lt
theorem xc_ge (x y : Int32) : xcmp .ge x y = decide (y.toInt ≤ x.toInt) := by
  unfold xcmp
  exact decide_eq_decide.mpr Int32.le_iff_toInt_le
theorem xc_gt (x y : Int32) : xcmp .gt x y = decide (y.toInt < x.toInt) := by
  unfold xcmp
  exact decide_eq_decide.mpr Int32.lt_iff_toInt_lt
theorem xc_le (x y : Int32) : xcmp .le x y = decide (x.toInt ≤ y.toInt) := by
  unfold xcmp
  exact decide_eq_decide.mpr Int32.le_iff_toInt_le
theorem xc_eq (x y : Int32) : xcmp .eq x y = decide (x = y) := rfl
theorem xc_ne (x y : Int32) : xcmp .ne x y = !decide (x = y) := rfl
theorem xT {p : Prop} [Decidable p] {b : Bool} (e : b = decide p) (h : b = true) : p := of_decide_eq_true (e ▸ h)
theorem xN {p : Prop} [Decidable p] {b : Bool} (e : b = decide p) (h : b = false) : ¬ p := of_decide_eq_false (e ▸ h)
theorem i32_to {n : Nat} (h : n < 2147483648) : (Int32.ofNat n).toInt = n := Int32.toInt_ofNat_of_lt h
theorem i32_s (n : Nat) : Int32.ofNat n + 1 = Int32.ofNat (n + 1) := by
  rw [Int32.ofNat_add]
  rfl
theorem yln_le (k : Nat) : yln k ≤ 360 := by
  have h : ykn.all (fun q => Nat.ble q.2 360) = true := by decide
  unfold yln
  cases hk : ykn[k]? with
  | none => exact Nat.zero_le _
  | some q => exact Nat.le_of_ble_eq_true (List.all_eq_true.mp h q (List.mem_of_getElem? hk))
theorem yp_gf {x ci j k : Nat} {r : Nat × Nat} {v : Value} {rest : List Value} (hi : (xmc μ)[pc]? = some (some (.getfield x))) (hf : xfnd (xfldT (xmo μ)) x = some (ci, j, r)) (hk : k < 74) (hd : ykd k = ci) (hj : j < yln k) (hv : ysl s k j = v) (kk : Yp sd μ (pc + 3) lv (v :: rest) s Φ) : Yp sd μ pc lv (.ref k :: rest) s Φ := by
  refine yp_step hi ?_ kk
  subst hd
  subst hv
  show (match xfnd (xfldT (xmo μ)) x with | some (ci, j, _, _) => _ | none => none) = _
  rw [hf]
  show (bif Nat.beq (ykd k) (ykd k) && (Nat.blt j (yln k) && Nat.blt k 74) then _ else none) = _
  rw [Nat.beq_refl, show Nat.blt j (yln k) = true from Nat.ble_eq_true_of_le hj, show Nat.blt k 74 = true from Nat.ble_eq_true_of_le hk]
  rfl
theorem yp_al {k : Nat} {rest : List Value} (hi : (xmc μ)[pc]? = some (some .arraylength)) (hk : k < 74) (hd : ykd k = 100) (kk : Yp sd μ (pc + 1) lv (.int (Int32.ofNat (yln k)) :: rest) s Φ) : Yp sd μ pc lv (.ref k :: rest) s Φ := by
  refine yp_step hi ?_ kk
  show (bif Nat.beq (ykd k) 100 && Nat.blt k 74 then _ else none) = _
  rw [hd, show Nat.blt k 74 = true from Nat.ble_eq_true_of_le hk]
  rfl
def yrw (k : Nat) : Bool := Nat.blt k 73 && (Nat.beq (ykd k) 5 && (Nat.beq (yln k) 1 && (Nat.beq (yfr k 0) (k + 1) && Nat.beq (ykd (k + 1)) 100)))
theorem yrw_ok {k : Nat} (h : yrw k = true) : k < 74 ∧ ykd k = 5 ∧ 0 < yln k ∧ (∀ s : yS, ysl s k 0 = .ref (k + 1)) ∧ k + 1 < 74 ∧ ykd (k + 1) = 100 := by
  unfold yrw at h
  simp only [Bool.and_eq_true] at h
  obtain ⟨a, b, c, d, e⟩ := h
  have a := Nat.le_of_ble_eq_true a
  have c := Nat.eq_of_beq_eq_true c
  have d := Nat.eq_of_beq_eq_true d
  refine ⟨by omega, Nat.eq_of_beq_eq_true b, by omega, fun s => ?_, by omega, Nat.eq_of_beq_eq_true e⟩
  unfold ysl
  rw [d]
  show (bif Nat.ble 1000 (k + 1) then _ else _) = _
  cases hb : Nat.ble 1000 (k + 1) with
  | true => have := Nat.le_of_ble_eq_true hb; omega
  | false => rfl
/-- in a row of n -/
abbrev yin (i : Int32) (n : Nat) : Prop := 0 ≤ i.toInt ∧ i.toInt < (n : Int)
def rget (s : yS) (k : Nat) (i : Int32) : Int32 := if yin i (yln (k + 1)) then s (k + 1) i.toInt.toNat else 0
def rset (s : yS) (k : Nat) (i v : Int32) : yS := if yin i (yln (k + 1)) then yup s (k + 1) i.toInt.toNat v else s
def rfill (s : yS) (k n : Nat) (v : Int32) : yS := fun k' j => if k' = k + 1 ∧ j < n then v else s k' j
theorem c_rget {k : Nat} {i : Int32} (hk : yrw k = true) (kk : Φ (some (.int (rget s k i))) s) : Yq sd 21 [.ref k, .int i] s Φ := by
  obtain ⟨h1, h2, h3, h4, h5, h6⟩ := yrw_ok hk
  have hn := yln_le (k + 1)
  refine Yq.of rfl (Nat.le_of_ble_eq_true rfl) ?_
  refine yp_run 1 (pc' := 1) (lv' := [(0, .ref k), (1, .int i)]) (st' := [.int i]) (s' := s) rfl ?_
  refine yp_if rfl rfl (fun hb => ?_) (fun hb => ?_)
  · have hb := xT (xc_lt _ _) hb
    rw [Int32.toInt_zero] at hb
    refine yp_run 1 (pc' := 23) (lv' := [(0, .ref k), (1, .int i)]) (st' := [.int 0]) (s' := s) rfl ?_
    refine yp_ri rfl rfl ?_
    unfold rget at kk
    rw [if_neg (by unfold yin; omega)] at kk
    exact kk
  · have hb := xN (xc_lt _ _) hb
    rw [Int32.toInt_zero] at hb
    refine yp_run 2 (pc' := 6) (lv' := [(0, .ref k), (1, .int i)]) (st' := [.ref k, .int i]) (s' := s) rfl ?_
    refine yp_gf rfl rfl h1 h2 h3 (h4 s) ?_
    refine yp_al rfl h5 h6 ?_
    refine yp_icmp rfl rfl (fun hc => ?_) (fun hc => ?_)
    · have hc := xT (xc_ge _ _) hc
      rw [i32_to (by omega)] at hc
      refine yp_run 1 (pc' := 23) (lv' := [(0, .ref k), (1, .int i)]) (st' := [.int 0]) (s' := s) rfl ?_
      refine yp_ri rfl rfl ?_
      unfold rget at kk
      rw [if_neg (by unfold yin; omega)] at kk
      exact kk
    · have hc := xN (xc_ge _ _) hc
      rw [i32_to (by omega)] at hc
      refine yp_run 1 (pc' := 14) (lv' := [(0, .ref k), (1, .int i)]) (st' := [.ref k]) (s' := s) rfl ?_
      refine yp_gf rfl rfl h1 h2 h3 (h4 s) ?_
      refine yp_run 1 (pc' := 18) (lv' := [(0, .ref k), (1, .int i)]) (st' := [.int i, .ref (k + 1)]) (s' := s) rfl ?_
      refine yp_iald rfl h5 h6 (by omega) (by omega) ?_
      refine yp_run 1 (pc' := 23) (lv' := [(0, .ref k), (1, .int i)]) (st' := [.int (s (k + 1) i.toInt.toNat)]) (s' := s) rfl ?_
      refine yp_ri rfl rfl ?_
      unfold rget at kk
      rw [if_pos (by unfold yin; omega)] at kk
      exact kk
theorem c_rset {k : Nat} {i v : Int32} (hk : yrw k = true) (kk : Φ none (rset s k i v)) : Yq sd 24 [.ref k, .int i, .int v] s Φ := by
  obtain ⟨h1, h2, h3, h4, h5, h6⟩ := yrw_ok hk
  have hn := yln_le (k + 1)
  refine Yq.of rfl (Nat.le_of_ble_eq_true rfl) ?_
  refine yp_run 1 (pc' := 1) (lv' := [(0, .ref k), (1, .int i), (2, .int v)]) (st' := [.int i]) (s' := s) rfl ?_
  refine yp_if rfl rfl (fun hb => ?_) (fun hb => ?_)
  · have hb := xT (xc_lt _ _) hb
    rw [Int32.toInt_zero] at hb
    refine yp_rv rfl rfl ?_
    unfold rset at kk
    rw [if_neg (by unfold yin; omega)] at kk
    exact kk
  · have hb := xN (xc_lt _ _) hb
    rw [Int32.toInt_zero] at hb
    refine yp_run 2 (pc' := 6) (lv' := [(0, .ref k), (1, .int i), (2, .int v)]) (st' := [.ref k, .int i]) (s' := s) rfl ?_
    refine yp_gf rfl rfl h1 h2 h3 (h4 s) ?_
    refine yp_al rfl h5 h6 ?_
    refine yp_icmp rfl rfl (fun hc => ?_) (fun hc => ?_)
    · have hc := xT (xc_ge _ _) hc
      rw [i32_to (by omega)] at hc
      refine yp_rv rfl rfl ?_
      unfold rset at kk
      rw [if_neg (by unfold yin; omega)] at kk
      exact kk
    · have hc := xN (xc_ge _ _) hc
      rw [i32_to (by omega)] at hc
      refine yp_run 1 (pc' := 14) (lv' := [(0, .ref k), (1, .int i), (2, .int v)]) (st' := [.ref k]) (s' := s) rfl ?_
      refine yp_gf rfl rfl h1 h2 h3 (h4 s) ?_
      refine yp_run 2 (pc' := 19) (lv' := [(0, .ref k), (1, .int i), (2, .int v)]) (st' := [.int v, .int i, .ref (k + 1)]) (s' := s) rfl ?_
      refine yp_iast rfl h5 h6 (by omega) (by omega) ?_
      refine yp_rv rfl rfl ?_
      unfold rset at kk
      rw [if_pos (by unfold yin; omega)] at kk
      exact kk
theorem c_radd {k : Nat} {i v : Int32} (hk : yrw k = true) (kk : Φ none (rset s k i (rget s k i + v))) : Yq sd 14 [.ref k, .int i, .int v] s Φ := by
  obtain ⟨h1, h2, h3, h4, h5, h6⟩ := yrw_ok hk
  have hn := yln_le (k + 1)
  refine Yq.of rfl (Nat.le_of_ble_eq_true rfl) ?_
  refine yp_run 1 (pc' := 1) (lv' := [(0, .ref k), (1, .int i), (2, .int v)]) (st' := [.int i]) (s' := s) rfl ?_
  refine yp_if rfl rfl (fun hb => ?_) (fun hb => ?_)
  · have hb := xT (xc_lt _ _) hb
    rw [Int32.toInt_zero] at hb
    refine yp_rv rfl rfl ?_
    unfold rset at kk
    rw [if_neg (by unfold yin; omega)] at kk
    exact kk
  · have hb := xN (xc_lt _ _) hb
    rw [Int32.toInt_zero] at hb
    refine yp_run 2 (pc' := 6) (lv' := [(0, .ref k), (1, .int i), (2, .int v)]) (st' := [.ref k, .int i]) (s' := s) rfl ?_
    refine yp_gf rfl rfl h1 h2 h3 (h4 s) ?_
    refine yp_al rfl h5 h6 ?_
    refine yp_icmp rfl rfl (fun hc => ?_) (fun hc => ?_)
    · have hc := xT (xc_ge _ _) hc
      rw [i32_to (by omega)] at hc
      refine yp_rv rfl rfl ?_
      unfold rset at kk
      rw [if_neg (by unfold yin; omega)] at kk
      exact kk
    · have hc := xN (xc_ge _ _) hc
      rw [i32_to (by omega)] at hc
      refine yp_run 1 (pc' := 14) (lv' := [(0, .ref k), (1, .int i), (2, .int v)]) (st' := [.ref k]) (s' := s) rfl ?_
      refine yp_gf rfl rfl h1 h2 h3 (h4 s) ?_
      refine yp_run 2 (pc' := 19) (lv' := [(0, .ref k), (1, .int i), (2, .int v)]) (st' := [.int i, .ref (k + 1), .int i, .ref (k + 1)]) (s' := s) rfl ?_
      refine yp_iald rfl h5 h6 (by omega) (by omega) ?_
      refine yp_run 2 (pc' := 22) (lv' := [(0, .ref k), (1, .int i), (2, .int v)]) (st' := [.int (s (k + 1) i.toInt.toNat + v), .int i, .ref (k + 1)]) (s' := s) rfl ?_
      refine yp_iast rfl h5 h6 (by omega) (by omega) ?_
      refine yp_rv rfl rfl ?_
      unfold rset rget at kk
      rw [if_pos (by unfold yin; omega), if_pos (by unfold yin; omega)] at kk
      exact kk
theorem yup_fill (s : yS) (k n : Nat) (v : Int32) : yup (rfill s k n v) (k + 1) n v = rfill s k (n + 1) v := by
  funext k' j
  unfold yup rfill
  by_cases h1 : k' = k + 1
  · by_cases h2 : j = n
    · rw [if_pos ⟨h1, h2⟩, if_pos ⟨h1, by omega⟩]
    · rw [if_neg (fun q => h2 q.2)]
      by_cases h3 : j < n
      · rw [if_pos ⟨h1, h3⟩, if_pos ⟨h1, by omega⟩]
      · rw [if_neg (fun q => h3 q.2), if_neg (fun q => by omega)]
  · rw [if_neg (fun q => h1 q.1), if_neg (fun q => h1 q.1), if_neg (fun q => h1 q.1)]
theorem rfill_0 (s : yS) (k : Nat) (v : Int32) : rfill s k 0 v = s := by
  funext k' j
  unfold rfill
  rw [if_neg (fun q => by omega)]
theorem l_rfill {k : Nat} {v : Int32} (hk : yrw k = true) (kk : Φ none (rfill s k (yln (k + 1)) v)) : ∀ (m i : Nat), i + m = yln (k + 1) → Yp sd 11 2 [(0, .ref k), (1, .int v), (2, .int (Int32.ofNat i))] [] (rfill s k i v) Φ := by
  obtain ⟨h1, h2, h3, h4, h5, h6⟩ := yrw_ok hk
  have hn := yln_le (k + 1)
  intro m
  induction m with
  | zero =>
    intro i hi
    refine yp_run 2 (pc' := 4) (lv' := [(0, .ref k), (1, .int v), (2, .int (Int32.ofNat i))]) (st' := [.ref k, .int (Int32.ofNat i)]) (s' := rfill s k i v) rfl ?_
    refine yp_gf rfl rfl h1 h2 h3 (h4 _) ?_
    refine yp_al rfl h5 h6 ?_
    refine yp_icmp rfl rfl (fun hc => ?_) (fun hc => ?_)
    · refine yp_rv rfl rfl ?_
      rw [show i = yln (k + 1) by omega]
      exact kk
    · have hc := xN (xc_ge _ _) hc
      rw [i32_to (by omega), i32_to (by omega)] at hc
      omega
  | succ m ih =>
    intro i hi
    refine yp_run 2 (pc' := 4) (lv' := [(0, .ref k), (1, .int v), (2, .int (Int32.ofNat i))]) (st' := [.ref k, .int (Int32.ofNat i)]) (s' := rfill s k i v) rfl ?_
    refine yp_gf rfl rfl h1 h2 h3 (h4 _) ?_
    refine yp_al rfl h5 h6 ?_
    refine yp_icmp rfl rfl (fun hc => ?_) (fun hc => ?_)
    · have hc := xT (xc_ge _ _) hc
      rw [i32_to (by omega), i32_to (by omega)] at hc
      omega
    · have e := i32_to (n := i) (by omega)
      refine yp_run 1 (pc' := 12) (lv' := [(0, .ref k), (1, .int v), (2, .int (Int32.ofNat i))]) (st' := [.ref k]) (s' := rfill s k i v) rfl ?_
      refine yp_gf rfl rfl h1 h2 h3 (h4 _) ?_
      refine yp_run 2 (pc' := 17) (lv' := [(0, .ref k), (1, .int v), (2, .int (Int32.ofNat i))]) (st' := [.int v, .int (Int32.ofNat i), .ref (k + 1)]) (s' := rfill s k i v) rfl ?_
      refine yp_iast rfl h5 h6 (by omega) (by omega) ?_
      rw [e, Int.toNat_natCast, yup_fill]
      refine yp_run 2 (pc' := 2) (lv' := [(0, .ref k), (1, .int v), (2, .int (Int32.ofNat i + 1))]) (st' := []) (s' := rfill s k (i + 1) v) rfl ?_
      rw [i32_s]
      exact ih (i + 1) (by omega)
theorem c_rfill {k : Nat} {v : Int32} (hk : yrw k = true) (kk : Φ none (rfill s k (yln (k + 1)) v)) : Yq sd 11 [.ref k, .int v] s Φ := by
  refine Yq.of rfl (Nat.le_of_ble_eq_true rfl) ?_
  refine yp_run 2 (pc' := 2) (lv' := [(0, .ref k), (1, .int v), (2, .int (Int32.ofNat 0))]) (st' := []) (s' := s) rfl ?_
  have := l_rfill (sd := sd) hk kk (yln (k + 1)) 0 (Nat.zero_add _)
  rw [rfill_0] at this
  exact this
end YG
end
section
/-! grids on numbers -/
section YH
variable {sd : Option (List Int32)} {μ pc : Nat} {lv : xL} {st : List Value} {s : yS} {Φ : Option Value → yS → Prop}
def ygd (k : Nat) : Bool := Nat.blt k 73 && (Nat.beq (ykd k) 2 && (Nat.beq (yln k) 2 && (Nat.beq (yfr k 1) (k + 1) && (Nat.ble 1000 (yfr k 0) && (Nat.blt (yfr k 0) 2000 && Nat.beq (ykd (k + 1)) 100)))))
def ycl (k : Nat) : Nat := yfr k 0 - 1000
theorem ygd_ok {k : Nat} (h : ygd k = true) : k < 74 ∧ ykd k = 2 ∧ yln k = 2 ∧ (∀ s : yS, ysl s k 0 = .int (Int32.ofNat (ycl k))) ∧ (∀ s : yS, ysl s k 1 = .ref (k + 1)) ∧ k + 1 < 74 ∧ ykd (k + 1) = 100 ∧ ycl k < 1000 := by
  unfold ygd at h
  simp only [Bool.and_eq_true] at h
  obtain ⟨a, b, c, d, e, f, g⟩ := h
  have a := Nat.le_of_ble_eq_true a
  have d := Nat.eq_of_beq_eq_true d
  have e := Nat.le_of_ble_eq_true e
  have f := Nat.le_of_ble_eq_true f
  refine ⟨by omega, Nat.eq_of_beq_eq_true b, Nat.eq_of_beq_eq_true c, fun s => ?_, fun s => ?_, by omega, Nat.eq_of_beq_eq_true g, by unfold ycl; omega⟩
  · unfold ysl ycl
    obtain ⟨q, hq⟩ : ∃ q, yfr k 0 = q + 1 := ⟨yfr k 0 - 1, by omega⟩
    rw [hq]
    show (bif Nat.ble 1000 (q + 1) then _ else _) = _
    rw [show Nat.ble 1000 (q + 1) = true from Nat.ble_eq_true_of_le (by omega)]
    rfl
  · unfold ysl
    rw [d]
    show (bif Nat.ble 1000 (k + 1) then _ else _) = _
    cases hb : Nat.ble 1000 (k + 1) with
    | true => have := Nat.le_of_ble_eq_true hb; omega
    | false => rfl
/-- where a row and a column lie -/
def gat (k : Nat) (r c : Int32) : Int32 := if yin c (ycl k) then r * Int32.ofNat (ycl k) + c else -1
def gget (s : yS) (k : Nat) (r c : Int32) : Int32 := if yin (gat k r c) (yln (k + 1)) then s (k + 1) (gat k r c).toInt.toNat else 0
def gset (s : yS) (k : Nat) (r c v : Int32) : yS := if yin (gat k r c) (yln (k + 1)) then yup s (k + 1) (gat k r c).toInt.toNat v else s

theorem l_gget {k : Nat} {r c a : Int32} (hk : ygd k = true) (ha : a = gat k r c) (kk : Φ (some (.int (gget s k r c))) s) : Yp sd 4 24 [(0, .ref k), (1, .int r), (2, .int c)] [.int a] s Φ := by
  subst ha
  generalize ha : gat k r c = a at kk ⊢
  obtain ⟨h1, h2, h3, h4, h5, h6, h7, h8⟩ := ygd_ok hk
  have hn := yln_le (k + 1)
  refine yp_run 2 (pc' := 26) (lv' := [(0, .ref k), (1, .int r), (2, .int c), (3, .int a)]) (st' := [.int a]) (s' := s) rfl ?_
  refine yp_if rfl rfl (fun hb => ?_) (fun hb => ?_)
  · have hb := xT (xc_lt _ _) hb
    rw [Int32.toInt_zero] at hb
    refine yp_run 1 (pc' := 48) (lv' := [(0, .ref k), (1, .int r), (2, .int c), (3, .int a)]) (st' := [.int 0]) (s' := s) rfl ?_
    refine yp_ri rfl rfl ?_
    unfold gget at kk
    rw [ha, if_neg (by unfold yin; omega)] at kk
    exact kk
  · have hb := xN (xc_lt _ _) hb
    rw [Int32.toInt_zero] at hb
    refine yp_run 2 (pc' := 31) (lv' := [(0, .ref k), (1, .int r), (2, .int c), (3, .int a)]) (st' := [.ref k, .int a]) (s' := s) rfl ?_
    refine yp_gf rfl rfl h1 h2 (by omega) (h5 s) ?_
    refine yp_al rfl h6 h7 ?_
    refine yp_icmp rfl rfl (fun hc => ?_) (fun hc => ?_)
    · have hc := xT (xc_ge _ _) hc
      rw [i32_to (by omega)] at hc
      refine yp_run 1 (pc' := 48) (lv' := [(0, .ref k), (1, .int r), (2, .int c), (3, .int a)]) (st' := [.int 0]) (s' := s) rfl ?_
      refine yp_ri rfl rfl ?_
      unfold gget at kk
      rw [ha, if_neg (by unfold yin; omega)] at kk
      exact kk
    · have hc := xN (xc_ge _ _) hc
      rw [i32_to (by omega)] at hc
      refine yp_run 1 (pc' := 39) (lv' := [(0, .ref k), (1, .int r), (2, .int c), (3, .int a)]) (st' := [.ref k]) (s' := s) rfl ?_
      refine yp_gf rfl rfl h1 h2 (by omega) (h5 s) ?_
      refine yp_run 1 (pc' := 43) (lv' := [(0, .ref k), (1, .int r), (2, .int c), (3, .int a)]) (st' := [.int a, .ref (k + 1)]) (s' := s) rfl ?_
      refine yp_iald rfl h6 h7 (by omega) (by omega) ?_
      refine yp_run 1 (pc' := 48) (lv' := [(0, .ref k), (1, .int r), (2, .int c), (3, .int a)]) (st' := [.int (s (k + 1) a.toInt.toNat)]) (s' := s) rfl ?_
      refine yp_ri rfl rfl ?_
      unfold gget at kk
      rw [ha, if_pos (by unfold yin; omega)] at kk
      exact kk
theorem c_gget {k : Nat} {r c : Int32} (hk : ygd k = true) (kk : Φ (some (.int (gget s k r c))) s) : Yq sd 4 [.ref k, .int r, .int c] s Φ := by
  obtain ⟨h1, h2, h3, h4, h5, h6, h7, h8⟩ := ygd_ok hk
  refine Yq.of rfl (Nat.le_of_ble_eq_true rfl) ?_
  refine yp_run 1 (pc' := 1) (lv' := [(0, .ref k), (1, .int r), (2, .int c)]) (st' := [.int c]) (s' := s) rfl ?_
  refine yp_if rfl rfl (fun hb => ?_) (fun hb => ?_)
  · have hb := xT (xc_lt _ _) hb
    rw [Int32.toInt_zero] at hb
    refine yp_run 1 (pc' := 24) (lv' := [(0, .ref k), (1, .int r), (2, .int c)]) (st' := [.int (-1)]) (s' := s) rfl ?_
    exact l_gget hk (by unfold gat; rw [if_neg (by unfold yin; omega)]) kk
  · have hb := xN (xc_lt _ _) hb
    rw [Int32.toInt_zero] at hb
    refine yp_run 2 (pc' := 6) (lv' := [(0, .ref k), (1, .int r), (2, .int c)]) (st' := [.ref k, .int c]) (s' := s) rfl ?_
    refine yp_gf rfl rfl h1 h2 (by omega) (h4 s) ?_
    refine yp_icmp rfl rfl (fun hc => ?_) (fun hc => ?_)
    · have hc := xT (xc_ge _ _) hc
      rw [i32_to (by omega)] at hc
      refine yp_run 1 (pc' := 24) (lv' := [(0, .ref k), (1, .int r), (2, .int c)]) (st' := [.int (-1)]) (s' := s) rfl ?_
      exact l_gget hk (by unfold gat; rw [if_neg (by unfold yin; omega)]) kk
    · have hc := xN (xc_ge _ _) hc
      rw [i32_to (by omega)] at hc
      refine yp_run 2 (pc' := 14) (lv' := [(0, .ref k), (1, .int r), (2, .int c)]) (st' := [.ref k, .int r]) (s' := s) rfl ?_
      refine yp_gf rfl rfl h1 h2 (by omega) (h4 s) ?_
      refine yp_run 4 (pc' := 24) (lv' := [(0, .ref k), (1, .int r), (2, .int c)]) (st' := [.int (r * Int32.ofNat (ycl k) + c)]) (s' := s) rfl ?_
      exact l_gget hk (by unfold gat; rw [if_pos (by unfold yin; omega)]) kk
theorem l_gset {k : Nat} {r c v a : Int32} (hk : ygd k = true) (ha : a = gat k r c) (kk : Φ none (gset s k r c v)) : Yp sd 7 24 [(0, .ref k), (1, .int r), (2, .int c), (3, .int v)] [.int a] s Φ := by
  subst ha
  generalize ha : gat k r c = a at kk ⊢
  obtain ⟨h1, h2, h3, h4, h5, h6, h7, h8⟩ := ygd_ok hk
  have hn := yln_le (k + 1)
  refine yp_run 2 (pc' := 28) (lv' := [(0, .ref k), (1, .int r), (2, .int c), (3, .int v), (4, .int a)]) (st' := [.int a]) (s' := s) rfl ?_
  refine yp_if rfl rfl (fun hb => ?_) (fun hb => ?_)
  · have hb := xT (xc_lt _ _) hb
    rw [Int32.toInt_zero] at hb
    refine yp_rv rfl rfl ?_
    unfold gset at kk
    rw [ha, if_neg (by unfold yin; omega)] at kk
    exact kk
  · have hb := xN (xc_lt _ _) hb
    rw [Int32.toInt_zero] at hb
    refine yp_run 2 (pc' := 34) (lv' := [(0, .ref k), (1, .int r), (2, .int c), (3, .int v), (4, .int a)]) (st' := [.ref k, .int a]) (s' := s) rfl ?_
    refine yp_gf rfl rfl h1 h2 (by omega) (h5 s) ?_
    refine yp_al rfl h6 h7 ?_
    refine yp_icmp rfl rfl (fun hc => ?_) (fun hc => ?_)
    · have hc := xT (xc_ge _ _) hc
      rw [i32_to (by omega)] at hc
      refine yp_rv rfl rfl ?_
      unfold gset at kk
      rw [ha, if_neg (by unfold yin; omega)] at kk
      exact kk
    · have hc := xN (xc_ge _ _) hc
      rw [i32_to (by omega)] at hc
      refine yp_run 1 (pc' := 42) (lv' := [(0, .ref k), (1, .int r), (2, .int c), (3, .int v), (4, .int a)]) (st' := [.ref k]) (s' := s) rfl ?_
      refine yp_gf rfl rfl h1 h2 (by omega) (h5 s) ?_
      refine yp_run 2 (pc' := 48) (lv' := [(0, .ref k), (1, .int r), (2, .int c), (3, .int v), (4, .int a)]) (st' := [.int v, .int a, .ref (k + 1)]) (s' := s) rfl ?_
      refine yp_iast rfl h6 h7 (by omega) (by omega) ?_
      refine yp_rv rfl rfl ?_
      unfold gset at kk
      rw [ha, if_pos (by unfold yin; omega)] at kk
      exact kk
theorem c_gset {k : Nat} {r c v : Int32} (hk : ygd k = true) (kk : Φ none (gset s k r c v)) : Yq sd 7 [.ref k, .int r, .int c, .int v] s Φ := by
  obtain ⟨h1, h2, h3, h4, h5, h6, h7, h8⟩ := ygd_ok hk
  refine Yq.of rfl (Nat.le_of_ble_eq_true rfl) ?_
  refine yp_run 1 (pc' := 1) (lv' := [(0, .ref k), (1, .int r), (2, .int c), (3, .int v)]) (st' := [.int c]) (s' := s) rfl ?_
  refine yp_if rfl rfl (fun hb => ?_) (fun hb => ?_)
  · have hb := xT (xc_lt _ _) hb
    rw [Int32.toInt_zero] at hb
    refine yp_run 1 (pc' := 24) (lv' := [(0, .ref k), (1, .int r), (2, .int c), (3, .int v)]) (st' := [.int (-1)]) (s' := s) rfl ?_
    exact l_gset hk (by unfold gat; rw [if_neg (by unfold yin; omega)]) kk
  · have hb := xN (xc_lt _ _) hb
    rw [Int32.toInt_zero] at hb
    refine yp_run 2 (pc' := 6) (lv' := [(0, .ref k), (1, .int r), (2, .int c), (3, .int v)]) (st' := [.ref k, .int c]) (s' := s) rfl ?_
    refine yp_gf rfl rfl h1 h2 (by omega) (h4 s) ?_
    refine yp_icmp rfl rfl (fun hc => ?_) (fun hc => ?_)
    · have hc := xT (xc_ge _ _) hc
      rw [i32_to (by omega)] at hc
      refine yp_run 1 (pc' := 24) (lv' := [(0, .ref k), (1, .int r), (2, .int c), (3, .int v)]) (st' := [.int (-1)]) (s' := s) rfl ?_
      exact l_gset hk (by unfold gat; rw [if_neg (by unfold yin; omega)]) kk
    · have hc := xN (xc_ge _ _) hc
      rw [i32_to (by omega)] at hc
      refine yp_run 2 (pc' := 14) (lv' := [(0, .ref k), (1, .int r), (2, .int c), (3, .int v)]) (st' := [.ref k, .int r]) (s' := s) rfl ?_
      refine yp_gf rfl rfl h1 h2 (by omega) (h4 s) ?_
      refine yp_run 4 (pc' := 24) (lv' := [(0, .ref k), (1, .int r), (2, .int c), (3, .int v)]) (st' := [.int (r * Int32.ofNat (ycl k) + c)]) (s' := s) rfl ?_
      exact l_gset hk (by unfold gat; rw [if_pos (by unfold yin; omega)]) kk
theorem l_gadd {k : Nat} {r c v a : Int32} (hk : ygd k = true) (ha : a = gat k r c) (kk : Φ none (gset s k r c (gget s k r c + v))) : Yp sd 17 24 [(0, .ref k), (1, .int r), (2, .int c), (3, .int v)] [.int a] s Φ := by
  subst ha
  generalize ha : gat k r c = a at kk ⊢
  obtain ⟨h1, h2, h3, h4, h5, h6, h7, h8⟩ := ygd_ok hk
  have hn := yln_le (k + 1)
  refine yp_run 2 (pc' := 28) (lv' := [(0, .ref k), (1, .int r), (2, .int c), (3, .int v), (4, .int a)]) (st' := [.int a]) (s' := s) rfl ?_
  refine yp_if rfl rfl (fun hb => ?_) (fun hb => ?_)
  · have hb := xT (xc_lt _ _) hb
    rw [Int32.toInt_zero] at hb
    refine yp_rv rfl rfl ?_
    unfold gset at kk
    rw [ha, if_neg (by unfold yin; omega)] at kk
    exact kk
  · have hb := xN (xc_lt _ _) hb
    rw [Int32.toInt_zero] at hb
    refine yp_run 2 (pc' := 34) (lv' := [(0, .ref k), (1, .int r), (2, .int c), (3, .int v), (4, .int a)]) (st' := [.ref k, .int a]) (s' := s) rfl ?_
    refine yp_gf rfl rfl h1 h2 (by omega) (h5 s) ?_
    refine yp_al rfl h6 h7 ?_
    refine yp_icmp rfl rfl (fun hc => ?_) (fun hc => ?_)
    · have hc := xT (xc_ge _ _) hc
      rw [i32_to (by omega)] at hc
      refine yp_rv rfl rfl ?_
      unfold gset at kk
      rw [ha, if_neg (by unfold yin; omega)] at kk
      exact kk
    · have hc := xN (xc_ge _ _) hc
      rw [i32_to (by omega)] at hc
      refine yp_run 1 (pc' := 42) (lv' := [(0, .ref k), (1, .int r), (2, .int c), (3, .int v), (4, .int a)]) (st' := [.ref k]) (s' := s) rfl ?_
      refine yp_gf rfl rfl h1 h2 (by omega) (h5 s) ?_
      refine yp_run 2 (pc' := 48) (lv' := [(0, .ref k), (1, .int r), (2, .int c), (3, .int v), (4, .int a)]) (st' := [.int a, .ref (k + 1), .int a, .ref (k + 1)]) (s' := s) rfl ?_
      refine yp_iald rfl h6 h7 (by omega) (by omega) ?_
      refine yp_run 2 (pc' := 51) (lv' := [(0, .ref k), (1, .int r), (2, .int c), (3, .int v), (4, .int a)]) (st' := [.int (s (k + 1) a.toInt.toNat + v), .int a, .ref (k + 1)]) (s' := s) rfl ?_
      refine yp_iast rfl h6 h7 (by omega) (by omega) ?_
      refine yp_rv rfl rfl ?_
      unfold gset gget at kk
      rw [ha, if_pos (by unfold yin; omega), if_pos (by unfold yin; omega)] at kk
      exact kk
theorem c_gadd {k : Nat} {r c v : Int32} (hk : ygd k = true) (kk : Φ none (gset s k r c (gget s k r c + v))) : Yq sd 17 [.ref k, .int r, .int c, .int v] s Φ := by
  obtain ⟨h1, h2, h3, h4, h5, h6, h7, h8⟩ := ygd_ok hk
  refine Yq.of rfl (Nat.le_of_ble_eq_true rfl) ?_
  refine yp_run 1 (pc' := 1) (lv' := [(0, .ref k), (1, .int r), (2, .int c), (3, .int v)]) (st' := [.int c]) (s' := s) rfl ?_
  refine yp_if rfl rfl (fun hb => ?_) (fun hb => ?_)
  · have hb := xT (xc_lt _ _) hb
    rw [Int32.toInt_zero] at hb
    refine yp_run 1 (pc' := 24) (lv' := [(0, .ref k), (1, .int r), (2, .int c), (3, .int v)]) (st' := [.int (-1)]) (s' := s) rfl ?_
    exact l_gadd hk (by unfold gat; rw [if_neg (by unfold yin; omega)]) kk
  · have hb := xN (xc_lt _ _) hb
    rw [Int32.toInt_zero] at hb
    refine yp_run 2 (pc' := 6) (lv' := [(0, .ref k), (1, .int r), (2, .int c), (3, .int v)]) (st' := [.ref k, .int c]) (s' := s) rfl ?_
    refine yp_gf rfl rfl h1 h2 (by omega) (h4 s) ?_
    refine yp_icmp rfl rfl (fun hc => ?_) (fun hc => ?_)
    · have hc := xT (xc_ge _ _) hc
      rw [i32_to (by omega)] at hc
      refine yp_run 1 (pc' := 24) (lv' := [(0, .ref k), (1, .int r), (2, .int c), (3, .int v)]) (st' := [.int (-1)]) (s' := s) rfl ?_
      exact l_gadd hk (by unfold gat; rw [if_neg (by unfold yin; omega)]) kk
    · have hc := xN (xc_ge _ _) hc
      rw [i32_to (by omega)] at hc
      refine yp_run 2 (pc' := 14) (lv' := [(0, .ref k), (1, .int r), (2, .int c), (3, .int v)]) (st' := [.ref k, .int r]) (s' := s) rfl ?_
      refine yp_gf rfl rfl h1 h2 (by omega) (h4 s) ?_
      refine yp_run 4 (pc' := 24) (lv' := [(0, .ref k), (1, .int r), (2, .int c), (3, .int v)]) (st' := [.int (r * Int32.ofNat (ycl k) + c)]) (s' := s) rfl ?_
      exact l_gadd hk (by unfold gat; rw [if_pos (by unfold yin; omega)]) kk
theorem l_gfill {k : Nat} {v : Int32} (hk : ygd k = true) (kk : Φ none (rfill s k (yln (k + 1)) v)) : ∀ (m i : Nat), i + m = yln (k + 1) → Yp sd 10 2 [(0, .ref k), (1, .int v), (2, .int (Int32.ofNat i))] [] (rfill s k i v) Φ := by
  obtain ⟨h1, h2, h3, h4, h5, h6, h7, h8⟩ := ygd_ok hk
  have hn := yln_le (k + 1)
  intro m
  induction m with
  | zero =>
    intro i hi
    refine yp_run 2 (pc' := 4) (lv' := [(0, .ref k), (1, .int v), (2, .int (Int32.ofNat i))]) (st' := [.ref k, .int (Int32.ofNat i)]) (s' := rfill s k i v) rfl ?_
    refine yp_gf rfl rfl h1 h2 (by omega) (h5 _) ?_
    refine yp_al rfl h6 h7 ?_
    refine yp_icmp rfl rfl (fun hc => ?_) (fun hc => ?_)
    · refine yp_rv rfl rfl ?_
      rw [show i = yln (k + 1) by omega]
      exact kk
    · have hc := xN (xc_ge _ _) hc
      rw [i32_to (by omega), i32_to (by omega)] at hc
      omega
  | succ m ih =>
    intro i hi
    refine yp_run 2 (pc' := 4) (lv' := [(0, .ref k), (1, .int v), (2, .int (Int32.ofNat i))]) (st' := [.ref k, .int (Int32.ofNat i)]) (s' := rfill s k i v) rfl ?_
    refine yp_gf rfl rfl h1 h2 (by omega) (h5 _) ?_
    refine yp_al rfl h6 h7 ?_
    refine yp_icmp rfl rfl (fun hc => ?_) (fun hc => ?_)
    · have hc := xT (xc_ge _ _) hc
      rw [i32_to (by omega), i32_to (by omega)] at hc
      omega
    · have e := i32_to (n := i) (by omega)
      refine yp_run 1 (pc' := 12) (lv' := [(0, .ref k), (1, .int v), (2, .int (Int32.ofNat i))]) (st' := [.ref k]) (s' := rfill s k i v) rfl ?_
      refine yp_gf rfl rfl h1 h2 (by omega) (h5 _) ?_
      refine yp_run 2 (pc' := 17) (lv' := [(0, .ref k), (1, .int v), (2, .int (Int32.ofNat i))]) (st' := [.int v, .int (Int32.ofNat i), .ref (k + 1)]) (s' := rfill s k i v) rfl ?_
      refine yp_iast rfl h6 h7 (by omega) (by omega) ?_
      rw [e, Int.toNat_natCast, yup_fill]
      refine yp_run 2 (pc' := 2) (lv' := [(0, .ref k), (1, .int v), (2, .int (Int32.ofNat i + 1))]) (st' := []) (s' := rfill s k (i + 1) v) rfl ?_
      rw [i32_s]
      exact ih (i + 1) (by omega)
theorem c_gfill {k : Nat} {v : Int32} (hk : ygd k = true) (kk : Φ none (rfill s k (yln (k + 1)) v)) : Yq sd 10 [.ref k, .int v] s Φ := by
  refine Yq.of rfl (Nat.le_of_ble_eq_true rfl) ?_
  refine yp_run 2 (pc' := 2) (lv' := [(0, .ref k), (1, .int v), (2, .int (Int32.ofNat 0))]) (st' := []) (s' := s) rfl ?_
  have := l_gfill (sd := sd) hk kk (yln (k + 1)) 0 (Nat.zero_add _)
  rw [rfill_0] at this
  exact this
end YH
end
section
/-! small methods on numbers -/
section YI
variable {sd : Option (List Int32)} {μ pc : Nat} {lv : xL} {st : List Value} {s : yS} {Φ : Option Value → yS → Prop}
abbrev hds (a b : Int32) : Prop := yin b 10 ∧ (a >>> (b &&& 31)) &&& 1 = 1
def hd (a b : Int32) : Int32 := if hds a b then 1 else 0
theorem hd_t {a b : Int32} (h : hds a b) : hd a b = 1 := by
  unfold hd
  rw [if_pos h]
theorem hd_f {a b : Int32} (h : ¬ hds a b) : hd a b = 0 := by
  unfold hd
  rw [if_neg h]
theorem hd_01 (a b : Int32) : hd a b = 0 ∨ hd a b = 1 := by
  by_cases h : hds a b
  · exact Or.inr (hd_t h)
  · exact Or.inl (hd_f h)
theorem hd_eqT {a b : Int32} (h : xcmp .eq (hd a b) 0 = true) : ¬ hds a b := fun q => by
  rw [hd_t q] at h
  cases h
theorem hd_eqF {a b : Int32} (h : xcmp .eq (hd a b) 0 = false) : hds a b := by
  by_cases q : hds a b
  · exact q
  · rw [hd_f q] at h
    cases h
theorem hd_neT {a b : Int32} (h : xcmp .ne (hd a b) 0 = true) : hds a b := by
  by_cases q : hds a b
  · exact q
  · rw [hd_f q] at h
    cases h
theorem hd_neF {a b : Int32} (h : xcmp .ne (hd a b) 0 = false) : ¬ hds a b := fun q => by
  rw [hd_t q] at h
  cases h
theorem c_hold {a b : Int32} (kk : Φ (some (.int (hd a b))) s) : Yq sd 12 [.int a, .int b] s Φ := by
  refine Yq.of rfl (Nat.le_of_ble_eq_true rfl) ?_
  refine yp_run 1 (pc' := 1) (lv' := [(0, .int a), (1, .int b)]) (st' := [.int b]) (s' := s) rfl ?_
  refine yp_if rfl rfl (fun h1 => ?_) (fun h1 => ?_)
  · have h1 := xT (xc_lt _ _) h1
    rw [Int32.toInt_zero] at h1
    refine yp_run 1 (pc' := 24) (lv' := [(0, .int a), (1, .int b)]) (st' := [.int 0]) (s' := s) rfl ?_
    refine yp_rz rfl rfl (Or.inl rfl) ?_
    rw [hd_f (fun q => by have := q.1; unfold yin at this; omega)] at kk
    exact kk
  · have h1 := xN (xc_lt _ _) h1
    rw [Int32.toInt_zero] at h1
    refine yp_run 2 (pc' := 7) (lv' := [(0, .int a), (1, .int b)]) (st' := [.int 10, .int b]) (s' := s) rfl ?_
    refine yp_icmp rfl rfl (fun h2 => ?_) (fun h2 => ?_)
    · have h2 := xT (xc_ge _ _) h2
      rw [show (10 : Int32).toInt = 10 from rfl] at h2
      refine yp_run 1 (pc' := 24) (lv' := [(0, .int a), (1, .int b)]) (st' := [.int 0]) (s' := s) rfl ?_
      refine yp_rz rfl rfl (Or.inl rfl) ?_
      rw [hd_f (fun q => by have := q.1; unfold yin at this; omega)] at kk
      exact kk
    · have h2 := xN (xc_ge _ _) h2
      rw [show (10 : Int32).toInt = 10 from rfl] at h2
      refine yp_run 6 (pc' := 16) (lv' := [(0, .int a), (1, .int b)]) (st' := [.int 1, .int ((a >>> (b &&& 31)) &&& 1)]) (s' := s) rfl ?_
      refine yp_icmp rfl rfl (fun h3 => ?_) (fun h3 => ?_)
      · rw [xc_ne, Bool.not_eq_true', decide_eq_false_iff_not] at h3
        refine yp_run 1 (pc' := 24) (lv' := [(0, .int a), (1, .int b)]) (st' := [.int 0]) (s' := s) rfl ?_
        refine yp_rz rfl rfl (Or.inl rfl) ?_
        rw [hd_f (fun q => h3 q.2)] at kk
        exact kk
      · rw [xc_ne, Bool.not_eq_false', decide_eq_true_eq] at h3
        refine yp_run 2 (pc' := 24) (lv' := [(0, .int a), (1, .int b)]) (st' := [.int 1]) (s' := s) rfl ?_
        refine yp_rz rfl rfl (Or.inr rfl) ?_
        rw [hd_t ⟨by unfold yin; omega, h3⟩] at kk
        exact kk
def bcS (v : Int32) (k : Int32) : Int32 := (v.toUInt32 >>> (k.toUInt32 &&& Int32.toUInt32 31)).toInt32
def bc1 (v : Int32) : Int32 := v - (bcS v 1 &&& 1431655765)
def bc2 (v : Int32) : Int32 := (bc1 v &&& 858993459) + (bcS (bc1 v) 2 &&& 858993459)
def bc3 (v : Int32) : Int32 := (bc2 v + bcS (bc2 v) 4) &&& 252645135
def bc4 (v : Int32) : Int32 := bc3 v + bcS (bc3 v) 8
def bc5 (v : Int32) : Int32 := bc4 v + bcS (bc4 v) 16
def bc6 (v : Int32) : Int32 := bc5 v &&& 63
theorem c_bits {v : Int32} (kk : Φ (some (.int (bc6 v))) s) : Yq sd 34 [.int v] s Φ := by
  refine Yq.of rfl (Nat.le_of_ble_eq_true rfl) ?_
  refine yp_run 8 (pc' := 10) (lv' := [(0, .int (bc1 v))]) (st' := []) (s' := s) rfl ?_
  refine yp_run 10 (pc' := 24) (lv' := [(0, .int (bc2 v))]) (st' := []) (s' := s) rfl ?_
  refine yp_run 8 (pc' := 34) (lv' := [(0, .int (bc3 v))]) (st' := []) (s' := s) rfl ?_
  refine yp_run 6 (pc' := 41) (lv' := [(0, .int (bc4 v))]) (st' := []) (s' := s) rfl ?_
  refine yp_run 6 (pc' := 48) (lv' := [(0, .int (bc5 v))]) (st' := []) (s' := s) rfl ?_
  refine yp_run 3 (pc' := 52) (lv' := [(0, .int (bc5 v))]) (st' := [.int (bc6 v)]) (s' := s) rfl ?_
  exact yp_ri rfl rfl kk
theorem c_rowOf {d p : Int32} (kk : Φ (some (.int (d * 8 + p))) s) : Yq sd 15 [.int d, .int p] s Φ := by
  refine Yq.of rfl (Nat.le_of_ble_eq_true rfl) ?_
  refine yp_run 5 (pc' := 6) (lv' := [(0, .int d), (1, .int p)]) (st' := [.int (d * 8 + p)]) (s' := s) rfl ?_
  exact yp_ri rfl rfl kk
theorem c_inH {f k : Int32} (kk : Φ (some (.int (2 * f + k - 1))) s) : Yq sd 27 [.int f, .int k] s Φ := by
  refine Yq.of rfl (Nat.le_of_ble_eq_true rfl) ?_
  refine yp_run 7 (pc' := 7) (lv' := [(0, .int f), (1, .int k)]) (st' := [.int (2 * f + k - 1)]) (s' := s) rfl ?_
  exact yp_ri rfl rfl kk
-- the tally of a score: its place is 41 or 63
abbrev yt (t : Nat) : Prop := t = 41 ∨ t = 63
theorem c_num {t : Nat} {r p : Int32} (ht : yt t) (kk : Φ (some (.int (gget s (t + 1) r p))) s) : Yq sd 23 [.ref t, .int r, .int p] s Φ := by
  refine Yq.of rfl (Nat.le_of_ble_eq_true rfl) ?_
  rcases ht with rfl | rfl
  · refine yp_run 4 (pc' := 6) (lv' := [(0, .ref 41), (1, .int r), (2, .int p)]) (st' := [.int p, .int r, .ref 42]) (s' := s) rfl ?_
    refine yp_vi rfl rfl rfl rfl (c_gget rfl ?_)
    exact yp_ri rfl rfl kk
  · refine yp_run 4 (pc' := 6) (lv' := [(0, .ref 63), (1, .int r), (2, .int p)]) (st' := [.int p, .int r, .ref 64]) (s' := s) rfl ?_
    refine yp_vi rfl rfl rfl rfl (c_gget rfl ?_)
    exact yp_ri rfl rfl kk
theorem c_wgt {t : Nat} {r p : Int32} (ht : yt t) (kk : Φ (some (.int (gget s (t + 3) r p))) s) : Yq sd 29 [.ref t, .int r, .int p] s Φ := by
  refine Yq.of rfl (Nat.le_of_ble_eq_true rfl) ?_
  rcases ht with rfl | rfl
  · refine yp_run 4 (pc' := 6) (lv' := [(0, .ref 41), (1, .int r), (2, .int p)]) (st' := [.int p, .int r, .ref 44]) (s' := s) rfl ?_
    refine yp_vi rfl rfl rfl rfl (c_gget rfl ?_)
    exact yp_ri rfl rfl kk
  · refine yp_run 4 (pc' := 6) (lv' := [(0, .ref 63), (1, .int r), (2, .int p)]) (st' := [.int p, .int r, .ref 66]) (s' := s) rfl ?_
    refine yp_vi rfl rfl rfl rfl (c_gget rfl ?_)
    exact yp_ri rfl rfl kk
theorem c_count {t : Nat} {r m : Int32} (ht : yt t) (kk : Φ none (gset s (t + 1) r m (gget s (t + 1) r m + 1))) : Yq sd 16 [.ref t, .int r, .int m] s Φ := by
  refine Yq.of rfl (Nat.le_of_ble_eq_true rfl) ?_
  rcases ht with rfl | rfl
  · refine yp_run 5 (pc' := 7) (lv' := [(0, .ref 41), (1, .int r), (2, .int m)]) (st' := [.int 1, .int m, .int r, .ref 42]) (s' := s) rfl ?_
    refine yp_vi rfl rfl rfl rfl (c_gadd rfl ?_)
    exact yp_rv rfl rfl kk
  · refine yp_run 5 (pc' := 7) (lv' := [(0, .ref 63), (1, .int r), (2, .int m)]) (st' := [.int 1, .int m, .int r, .ref 64]) (s' := s) rfl ?_
    refine yp_vi rfl rfl rfl rfl (c_gadd rfl ?_)
    exact yp_rv rfl rfl kk
theorem c_tclear {t : Nat} {w : Int32} (ht : yt t) (kk : Φ none (rfill (yup s t 0 w) (t + 1) 360 0)) : Yq sd 9 [.ref t, .int w] s Φ := by
  refine Yq.of rfl (Nat.le_of_ble_eq_true rfl) ?_
  rcases ht with rfl | rfl
  · refine yp_run 6 (pc' := 10) (lv' := [(0, .ref 41), (1, .int w)]) (st' := [.int 0, .ref 42]) (s' := yup s 41 0 w) rfl ?_
    refine yp_vi rfl rfl rfl rfl (c_gfill rfl ?_)
    exact yp_rv rfl rfl kk
  · refine yp_run 6 (pc' := 10) (lv' := [(0, .ref 63), (1, .int w)]) (st' := [.int 0, .ref 64]) (s' := yup s 63 0 w) rfl ?_
    refine yp_vi rfl rfl rfl rfl (c_gfill rfl ?_)
    exact yp_rv rfl rfl kk
-- the sheets
theorem c_mark {j d p : Int32} (kk : Φ (some (.int (gget s 26 (j * 5 + d) p))) s) : Yq sd 3 [.ref 25, .int j, .int d, .int p] s Φ := by
  refine Yq.of rfl (Nat.le_of_ble_eq_true rfl) ?_
  refine yp_run 8 (pc' := 10) (lv' := [(0, .ref 25), (1, .int j), (2, .int d), (3, .int p)]) (st' := [.int p, .int (j * 5 + d), .ref 26]) (s' := s) rfl ?_
  refine yp_vi rfl rfl rfl rfl (c_gget rfl ?_)
  exact yp_ri rfl rfl kk
abbrev hass (s : yS) (j d : Int32) : Prop := yin j 7 ∧ yin d 5 ∧ gget s 26 (j * 5 + d) 0 ≠ 0
def has (s : yS) (j d : Int32) : Int32 := if hass s j d then 1 else 0
theorem has_t {s : yS} {a b : Int32} (h : hass s a b) : has s a b = 1 := by
  unfold has
  rw [if_pos h]
theorem has_f {s : yS} {a b : Int32} (h : ¬ hass s a b) : has s a b = 0 := by
  unfold has
  rw [if_neg h]
theorem has_eqT {s : yS} {a b : Int32} (h : xcmp .eq (has s a b) 0 = true) : ¬ hass s a b := fun q => by
  rw [has_t q] at h
  cases h
theorem has_eqF {s : yS} {a b : Int32} (h : xcmp .eq (has s a b) 0 = false) : hass s a b := by
  by_cases q : hass s a b
  · exact q
  · rw [has_f q] at h
    cases h
theorem has_neT {s : yS} {a b : Int32} (h : xcmp .ne (has s a b) 0 = true) : hass s a b := by
  by_cases q : hass s a b
  · exact q
  · rw [has_f q] at h
    cases h
theorem has_neF {s : yS} {a b : Int32} (h : xcmp .ne (has s a b) 0 = false) : ¬ hass s a b := fun q => by
  rw [has_t q] at h
  cases h
theorem l_has0 {j d : Int32} (hf : ¬ hass s j d) (kk : Φ (some (.int (has s j d))) s) : Yp sd 2 33 [(0, .ref 25), (1, .int j), (2, .int d)] [] s Φ := by
  refine yp_run 1 (pc' := 34) (lv' := [(0, .ref 25), (1, .int j), (2, .int d)]) (st' := [.int 0]) (s' := s) rfl ?_
  refine yp_rz rfl rfl (Or.inl rfl) ?_
  rw [has_f hf] at kk
  exact kk
theorem c_has {j d : Int32} (kk : Φ (some (.int (has s j d))) s) : Yq sd 2 [.ref 25, .int j, .int d] s Φ := by
  refine Yq.of rfl (Nat.le_of_ble_eq_true rfl) ?_
  refine yp_run 1 (pc' := 1) (lv' := [(0, .ref 25), (1, .int j), (2, .int d)]) (st' := [.int j]) (s' := s) rfl ?_
  refine yp_if rfl rfl (fun h1 => ?_) (fun h1 => ?_)
  · have h1 := xT (xc_lt _ _) h1
    rw [Int32.toInt_zero] at h1
    exact l_has0 (fun q => by have := q.1; unfold yin at this; omega) kk
  · have h1 := xN (xc_lt _ _) h1
    rw [Int32.toInt_zero] at h1
    refine yp_run 2 (pc' := 7) (lv' := [(0, .ref 25), (1, .int j), (2, .int d)]) (st' := [.int 7, .int j]) (s' := s) rfl ?_
    refine yp_icmp rfl rfl (fun h2 => ?_) (fun h2 => ?_)
    · have h2 := xT (xc_ge _ _) h2
      rw [show (7 : Int32).toInt = 7 from rfl] at h2
      exact l_has0 (fun q => by have := q.1; unfold yin at this; omega) kk
    · have h2 := xN (xc_ge _ _) h2
      rw [show (7 : Int32).toInt = 7 from rfl] at h2
      refine yp_run 1 (pc' := 11) (lv' := [(0, .ref 25), (1, .int j), (2, .int d)]) (st' := [.int d]) (s' := s) rfl ?_
      refine yp_if rfl rfl (fun h3 => ?_) (fun h3 => ?_)
      · have h3 := xT (xc_lt _ _) h3
        rw [Int32.toInt_zero] at h3
        exact l_has0 (fun q => by have := q.2.1; unfold yin at this; omega) kk
      · have h3 := xN (xc_lt _ _) h3
        rw [Int32.toInt_zero] at h3
        refine yp_run 2 (pc' := 16) (lv' := [(0, .ref 25), (1, .int j), (2, .int d)]) (st' := [.int 5, .int d]) (s' := s) rfl ?_
        refine yp_icmp rfl rfl (fun h4 => ?_) (fun h4 => ?_)
        · have h4 := xT (xc_ge _ _) h4
          rw [show (5 : Int32).toInt = 5 from rfl] at h4
          exact l_has0 (fun q => by have := q.2.1; unfold yin at this; omega) kk
        · have h4 := xN (xc_ge _ _) h4
          rw [show (5 : Int32).toInt = 5 from rfl] at h4
          refine yp_run 4 (pc' := 23) (lv' := [(0, .ref 25), (1, .int j), (2, .int d)]) (st' := [.int 0, .int d, .int j, .ref 25]) (s' := s) rfl ?_
          refine yp_vi rfl rfl rfl rfl (c_mark ?_)
          refine yp_if rfl rfl (fun h5 => ?_) (fun h5 => ?_)
          · rw [xc_eq, decide_eq_true_eq] at h5
            exact l_has0 (fun q => q.2.2 h5) kk
          · rw [xc_eq, decide_eq_false_iff_not] at h5
            refine yp_run 2 (pc' := 34) (lv' := [(0, .ref 25), (1, .int j), (2, .int d)]) (st' := [.int 1]) (s' := s) rfl ?_
            refine yp_rz rfl rfl (Or.inr rfl) ?_
            rw [has_t ⟨by unfold yin; omega, by unfold yin; omega, h5⟩] at kk
            exact kk
theorem c_isPen {p d : Int32} (kk : Φ (some (.int (hd (rget s 28 d) p))) s) : Yq sd 20 [.ref 25, .int p, .int d] s Φ := by
  refine Yq.of rfl (Nat.le_of_ble_eq_true rfl) ?_
  refine yp_run 3 (pc' := 5) (lv' := [(0, .ref 25), (1, .int p), (2, .int d)]) (st' := [.int d, .ref 28]) (s' := s) rfl ?_
  refine yp_vi rfl rfl rfl rfl (c_rget rfl ?_)
  refine yp_run 1 (pc' := 9) (lv' := [(0, .ref 25), (1, .int p), (2, .int d)]) (st' := [.int p, .int (rget s 28 d)]) (s' := s) rfl ?_
  refine yp_sn rfl rfl rfl (c_hold ?_)
  exact yp_rz rfl rfl (hd_01 _ _) kk
end YI
end
section
/-! blocks written, places as numbers -/
section YW
def wr (s : yS) (k lo hi : Nat) (f : Nat → Int32) : yS := fun k' j => if k' = k ∧ lo ≤ j ∧ j < hi then f j else s k' j
theorem wr_0 (s : yS) (k lo : Nat) (f : Nat → Int32) : wr s k lo lo f = s := by
  funext k' j
  unfold wr
  rw [if_neg (fun q => by omega)]
theorem wr_s {s : yS} {k lo i : Nat} {f : Nat → Int32} {v : Int32} (h : lo ≤ i) (hv : v = f i) : yup (wr s k lo i f) k i v = wr s k lo (i + 1) f := by
  subst hv
  funext k' j
  unfold yup wr
  by_cases h1 : k' = k
  · by_cases h2 : j = i
    · rw [if_pos ⟨h1, h2⟩, if_pos ⟨h1, by omega, by omega⟩, h2]
    · rw [if_neg (fun q => h2 q.2)]
      by_cases h3 : lo ≤ j ∧ j < i
      · rw [if_pos ⟨h1, h3⟩, if_pos ⟨h1, by omega, by omega⟩]
      · rw [if_neg (fun q => h3 q.2), if_neg (fun q => h3 ⟨q.2.1, by omega⟩)]
  · rw [if_neg (fun q => h1 q.1), if_neg (fun q => h1 q.1), if_neg (fun q => h1 q.1)]
theorem wr_in {s : yS} {k lo hi j : Nat} {f : Nat → Int32} (h1 : lo ≤ j) (h2 : j < hi) : wr s k lo hi f k j = f j := by
  unfold wr
  rw [if_pos ⟨rfl, h1, h2⟩]
theorem wr_out {s : yS} {k lo hi j : Nat} {f : Nat → Int32} (h : j < lo ∨ hi ≤ j) : wr s k lo hi f k j = s k j := by
  unfold wr
  rw [if_neg (fun q => by omega)]
theorem wr_ne {s : yS} {k k' lo hi : Nat} {f : Nat → Int32} (h : k' ≠ k) : wr s k lo hi f k' = s k' := by
  funext j
  unfold wr
  rw [if_neg (fun q => h q.1)]
theorem yup_ne {s : yS} {k k' j : Nat} {v : Int32} (h : k' ≠ k) : yup s k j v k' = s k' := by
  funext i
  unfold yup
  rw [if_neg (fun q => h q.1)]
theorem yup_at {s : yS} {k j : Nat} {v : Int32} : yup s k j v k j = v := by
  unfold yup
  rw [if_pos ⟨rfl, rfl⟩]
theorem yup_wr {s : yS} {k k' lo hi j : Nat} {f : Nat → Int32} {v : Int32} (h : k' ≠ k) : yup (wr s k lo hi f) k' j v = wr (yup s k' j v) k lo hi f := by
  funext a b
  unfold yup wr
  by_cases h1 : a = k' ∧ b = j
  · rw [if_pos h1, if_neg (fun q => h (h1.1.symm.trans q.1))]
    exact (if_pos h1).symm
  · rw [if_neg h1]
    show _ = if _ then _ else (if a = k' ∧ b = j then v else s a b)
    rw [if_neg h1]
theorem rget_i {s : yS} {k i : Nat} (h : i < yln (k + 1)) : rget s k (Int32.ofNat i) = s (k + 1) i := by
  have hn := yln_le (k + 1)
  unfold rget
  rw [if_pos (by unfold yin; rw [i32_to (by omega)]; omega), i32_to (by omega), Int.toNat_natCast]
theorem rset_i {s : yS} {k i : Nat} {v : Int32} (h : i < yln (k + 1)) : rset s k (Int32.ofNat i) v = yup s (k + 1) i v := by
  have hn := yln_le (k + 1)
  unfold rset
  rw [if_pos (by unfold yin; rw [i32_to (by omega)]; omega), i32_to (by omega), Int.toNat_natCast]
theorem gat_i {k a b : Nat} (hb : b < ycl k) (hc : ycl k < 1000) (hl : a * ycl k + b < yln (k + 1)) : gat k (Int32.ofNat a) (Int32.ofNat b) = Int32.ofNat (a * ycl k + b) := by
  unfold gat
  rw [if_pos (by unfold yin; rw [i32_to (by omega)]; omega), ← Int32.ofNat_mul, ← Int32.ofNat_add]
theorem gget_i {s : yS} {k a b : Nat} (hb : b < ycl k) (hc : ycl k < 1000) (hl : a * ycl k + b < yln (k + 1)) : gget s k (Int32.ofNat a) (Int32.ofNat b) = s (k + 1) (a * ycl k + b) := by
  have hn := yln_le (k + 1)
  unfold gget
  rw [gat_i hb hc hl, if_pos (by unfold yin; rw [i32_to (by omega)]; omega), i32_to (by omega), Int.toNat_natCast]
theorem gset_i {s : yS} {k a b : Nat} {v : Int32} (hb : b < ycl k) (hc : ycl k < 1000) (hl : a * ycl k + b < yln (k + 1)) : gset s k (Int32.ofNat a) (Int32.ofNat b) v = yup s (k + 1) (a * ycl k + b) v := by
  have hn := yln_le (k + 1)
  unfold gset
  rw [gat_i hb hc hl, if_pos (by unfold yin; rw [i32_to (by omega)]; omega), i32_to (by omega), Int.toNat_natCast]
theorem wr_wr {s : yS} {k lo hi : Nat} {f g : Nat → Int32} : wr (wr s k lo hi f) k lo hi g = wr s k lo hi g := by
  funext a b
  unfold wr
  by_cases h : a = k ∧ lo ≤ b ∧ b < hi
  · rw [if_pos h, if_pos h]
  · rw [if_neg h, if_neg h, if_neg h]
/-- the place of a score -/
abbrev yss (S : Nat) : Prop := S = 30 ∨ S = 52
theorem row_i (d p : Nat) : Int32.ofNat d * 8 + Int32.ofNat p = Int32.ofNat (d * 8 + p) := by
  rw [Int32.ofNat_add, Int32.ofNat_mul]
  rfl
end YW
end
section
/-! sums of a tally's row -/
section YJ
variable {sd : Option (List Int32)} {μ pc : Nat} {lv : xL} {st : List Value} {s : yS} {Φ : Option Value → yS → Prop}
/-- the sums of numbers up to q, and of their weights -/
def pre (C : Nat → Int32) : Nat → Int32
  | 0 => 0
  | q + 1 => pre C q + C (q + 1)
def prw (C : Nat → Int32) : Nat → Int32
  | 0 => 0
  | q + 1 => prw C q + C (q + 1) * (1000 - Int32.ofNat (q + 1))
def sumSt (s : yS) (S R i : Nat) (C : Nat → Int32) : yS := wr (wr s (S + 13) (R * 9 + 1) (R * 9 + 1 + i) (fun j => pre C (j - R * 9))) (S + 15) (R * 9 + 1) (R * 9 + 1 + i) (fun j => prw C (j - R * 9))
theorem sumSt_0 (s : yS) (S R : Nat) (C : Nat → Int32) : sumSt s S R 0 C = s := by
  unfold sumSt
  rw [Nat.add_zero, wr_0, wr_0]
theorem sumSt_s {s : yS} {S R i : Nat} {C : Nat → Int32} {v w : Int32} (hv : v = pre C (i + 1)) (hw : w = prw C (i + 1)) : yup (yup (sumSt s S R i C) (S + 13) (R * 9 + (i + 1)) v) (S + 15) (R * 9 + (i + 1)) w = sumSt s S R (i + 1) C := by
  unfold sumSt
  rw [show R * 9 + (i + 1) = R * 9 + 1 + i by omega, yup_wr (by omega), wr_s (by omega) (by rw [hw]; congr 1; omega), wr_s (by omega) (by rw [hv]; congr 1; omega)]
  rfl
theorem lz_sum {S n R : Nat} {C : Nat → Int32} (hS : yss S) (hn : n ≤ 8) (hR : R < 40) (hw : s (S + 11) 0 = Int32.ofNat n) (hC : ∀ q, 1 ≤ q → q ≤ n → C q = s (S + 13) (R * 9 + q)) (kk : Φ none (sumSt s S R n C)) : ∀ m i : Nat, i + m = n →
    Yp sd 19 7 [(0, .ref (S + 11)), (1, .int (Int32.ofNat R)), (2, .int (pre C i)), (3, .int (prw C i)), (4, .int (Int32.ofNat (i + 1)))] [] (sumSt s S R i C) Φ := by
  intro m
  rcases hS with rfl | rfl
  · have hw : s 41 0 = Int32.ofNat n := hw
    induction m with
    | zero =>
      intro i hi
      obtain ⟨T, hT⟩ : ∃ T, T = sumSt s 30 R i C := ⟨_, rfl⟩
      rw [← hT]
      have h0 : T 41 0 = Int32.ofNat n := by rw [hT]; exact hw
      refine yp_run 3 (pc' := 13) (lv' := [(0, .ref 41), (1, .int (Int32.ofNat R)), (2, .int (pre C i)), (3, .int (prw C i)), (4, .int (Int32.ofNat (i + 1)))]) (st' := [.int (T 41 0), .int (Int32.ofNat (i + 1))]) (s' := T) rfl ?_
      refine yp_icmp rfl rfl (fun h => ?_) (fun h => ?_)
      · refine yp_rv rfl rfl ?_
        rw [hT, show i = n by omega]
        exact kk
      · have h := xN (xc_gt _ _) h
        rw [h0, i32_to (by omega), i32_to (by omega)] at h
        omega
    | succ m ih =>
      intro i hi
      obtain ⟨T, hT⟩ : ∃ T, T = sumSt s 30 R i C := ⟨_, rfl⟩
      rw [← hT]
      have h0 : T 41 0 = Int32.ofNat n := by rw [hT]; exact hw
      refine yp_run 3 (pc' := 13) (lv' := [(0, .ref 41), (1, .int (Int32.ofNat R)), (2, .int (pre C i)), (3, .int (prw C i)), (4, .int (Int32.ofNat (i + 1)))]) (st' := [.int (T 41 0), .int (Int32.ofNat (i + 1))]) (s' := T) rfl ?_
      refine yp_icmp rfl rfl (fun h => ?_) (fun h => ?_)
      · have h := xT (xc_gt _ _) h
        rw [h0, i32_to (by omega), i32_to (by omega)] at h
        omega
      · refine yp_run 4 (pc' := 23) (lv' := [(0, .ref 41), (1, .int (Int32.ofNat R)), (2, .int (pre C i)), (3, .int (prw C i)), (4, .int (Int32.ofNat (i + 1)))]) (st' := [.int (Int32.ofNat (i + 1)), .int (Int32.ofNat R), .ref 42]) (s' := T) rfl ?_
        refine yp_vi rfl rfl rfl rfl (c_gget rfl ?_)
        refine yp_run 18 (pc' := 53) (lv' := [(0, .ref 41), (1, .int (Int32.ofNat R)), (2, .int ((pre C i) + (gget T 42 (Int32.ofNat R) (Int32.ofNat (i + 1))))), (3, .int ((prw C i) + ((gget T 42 (Int32.ofNat R) (Int32.ofNat (i + 1))) * (1000 - (Int32.ofNat (i + 1)))))), (4, .int (Int32.ofNat (i + 1))), (5, .int (gget T 42 (Int32.ofNat R) (Int32.ofNat (i + 1))))]) (st' := [.int ((pre C i) + (gget T 42 (Int32.ofNat R) (Int32.ofNat (i + 1)))), .int (Int32.ofNat (i + 1)), .int (Int32.ofNat R), .ref 42]) (s' := T) rfl ?_
        refine yp_vi rfl rfl rfl rfl (c_gset rfl ?_)
        refine yp_run 5 (pc' := 64) (lv' := [(0, .ref 41), (1, .int (Int32.ofNat R)), (2, .int ((pre C i) + (gget T 42 (Int32.ofNat R) (Int32.ofNat (i + 1))))), (3, .int ((prw C i) + ((gget T 42 (Int32.ofNat R) (Int32.ofNat (i + 1))) * (1000 - (Int32.ofNat (i + 1)))))), (4, .int (Int32.ofNat (i + 1))), (5, .int (gget T 42 (Int32.ofNat R) (Int32.ofNat (i + 1))))]) (st' := [.int ((prw C i) + ((gget T 42 (Int32.ofNat R) (Int32.ofNat (i + 1))) * (1000 - (Int32.ofNat (i + 1))))), .int (Int32.ofNat (i + 1)), .int (Int32.ofNat R), .ref 44]) (s' := (gset T 42 (Int32.ofNat R) (Int32.ofNat (i + 1)) ((pre C i) + (gget T 42 (Int32.ofNat R) (Int32.ofNat (i + 1)))))) rfl ?_
        refine yp_vi rfl rfl rfl rfl (c_gset rfl ?_)
        refine yp_run 2 (pc' := 7) (lv' := [(0, .ref 41), (1, .int (Int32.ofNat R)), (2, .int ((pre C i) + (gget T 42 (Int32.ofNat R) (Int32.ofNat (i + 1))))), (3, .int ((prw C i) + ((gget T 42 (Int32.ofNat R) (Int32.ofNat (i + 1))) * (1000 - (Int32.ofNat (i + 1)))))), (4, .int ((Int32.ofNat (i + 1)) + 1)), (5, .int (gget T 42 (Int32.ofNat R) (Int32.ofNat (i + 1))))]) (st' := []) (s' := (gset (gset T 42 (Int32.ofNat R) (Int32.ofNat (i + 1)) ((pre C i) + (gget T 42 (Int32.ofNat R) (Int32.ofNat (i + 1))))) 44 (Int32.ofNat R) (Int32.ofNat (i + 1)) ((prw C i) + ((gget T 42 (Int32.ofNat R) (Int32.ofNat (i + 1))) * (1000 - (Int32.ofNat (i + 1))))))) rfl ?_
        have g1 : gget T 42 (Int32.ofNat R) (Int32.ofNat (i + 1)) = C (i + 1) := by
          refine (gget_i (k := 42) (by show i + 1 < 9; omega) (by decide) (by show R * 9 + (i + 1) < 360; omega)).trans ?_
          show T 43 (R * 9 + (i + 1)) = _
          rw [hT]
          show sumSt s 30 R i C 43 (R * 9 + (i + 1)) = _
          unfold sumSt
          rw [wr_ne (by omega), wr_out (by omega)]
          exact (hC (i + 1) (by omega) (by omega)).symm
        rw [g1, i32_s]
        have e1 : ∀ v : Int32, gset T 42 (Int32.ofNat R) (Int32.ofNat (i + 1)) v = yup T 43 (R * 9 + (i + 1)) v := fun v => gset_i (k := 42) (by show i + 1 < 9; omega) (by decide) (by show R * 9 + (i + 1) < 360; omega)
        have e2 : ∀ (U : yS) (v : Int32), gset U 44 (Int32.ofNat R) (Int32.ofNat (i + 1)) v = yup U 45 (R * 9 + (i + 1)) v := fun U v => gset_i (k := 44) (by show i + 1 < 9; omega) (by decide) (by show R * 9 + (i + 1) < 360; omega)
        rw [e1, e2, hT]
        have e3 := sumSt_s (s := s) (S := 30) (R := R) (i := i) (C := C) rfl rfl
        have e4 := ih (i + 1) (by omega)
        rw [← e3] at e4
        refine yp_sel [0, 1, 2, 3, 4] ?_
        exact e4
  · have hw : s 63 0 = Int32.ofNat n := hw
    induction m with
    | zero =>
      intro i hi
      obtain ⟨T, hT⟩ : ∃ T, T = sumSt s 52 R i C := ⟨_, rfl⟩
      rw [← hT]
      have h0 : T 63 0 = Int32.ofNat n := by rw [hT]; exact hw
      refine yp_run 3 (pc' := 13) (lv' := [(0, .ref 63), (1, .int (Int32.ofNat R)), (2, .int (pre C i)), (3, .int (prw C i)), (4, .int (Int32.ofNat (i + 1)))]) (st' := [.int (T 63 0), .int (Int32.ofNat (i + 1))]) (s' := T) rfl ?_
      refine yp_icmp rfl rfl (fun h => ?_) (fun h => ?_)
      · refine yp_rv rfl rfl ?_
        rw [hT, show i = n by omega]
        exact kk
      · have h := xN (xc_gt _ _) h
        rw [h0, i32_to (by omega), i32_to (by omega)] at h
        omega
    | succ m ih =>
      intro i hi
      obtain ⟨T, hT⟩ : ∃ T, T = sumSt s 52 R i C := ⟨_, rfl⟩
      rw [← hT]
      have h0 : T 63 0 = Int32.ofNat n := by rw [hT]; exact hw
      refine yp_run 3 (pc' := 13) (lv' := [(0, .ref 63), (1, .int (Int32.ofNat R)), (2, .int (pre C i)), (3, .int (prw C i)), (4, .int (Int32.ofNat (i + 1)))]) (st' := [.int (T 63 0), .int (Int32.ofNat (i + 1))]) (s' := T) rfl ?_
      refine yp_icmp rfl rfl (fun h => ?_) (fun h => ?_)
      · have h := xT (xc_gt _ _) h
        rw [h0, i32_to (by omega), i32_to (by omega)] at h
        omega
      · refine yp_run 4 (pc' := 23) (lv' := [(0, .ref 63), (1, .int (Int32.ofNat R)), (2, .int (pre C i)), (3, .int (prw C i)), (4, .int (Int32.ofNat (i + 1)))]) (st' := [.int (Int32.ofNat (i + 1)), .int (Int32.ofNat R), .ref 64]) (s' := T) rfl ?_
        refine yp_vi rfl rfl rfl rfl (c_gget rfl ?_)
        refine yp_run 18 (pc' := 53) (lv' := [(0, .ref 63), (1, .int (Int32.ofNat R)), (2, .int ((pre C i) + (gget T 64 (Int32.ofNat R) (Int32.ofNat (i + 1))))), (3, .int ((prw C i) + ((gget T 64 (Int32.ofNat R) (Int32.ofNat (i + 1))) * (1000 - (Int32.ofNat (i + 1)))))), (4, .int (Int32.ofNat (i + 1))), (5, .int (gget T 64 (Int32.ofNat R) (Int32.ofNat (i + 1))))]) (st' := [.int ((pre C i) + (gget T 64 (Int32.ofNat R) (Int32.ofNat (i + 1)))), .int (Int32.ofNat (i + 1)), .int (Int32.ofNat R), .ref 64]) (s' := T) rfl ?_
        refine yp_vi rfl rfl rfl rfl (c_gset rfl ?_)
        refine yp_run 5 (pc' := 64) (lv' := [(0, .ref 63), (1, .int (Int32.ofNat R)), (2, .int ((pre C i) + (gget T 64 (Int32.ofNat R) (Int32.ofNat (i + 1))))), (3, .int ((prw C i) + ((gget T 64 (Int32.ofNat R) (Int32.ofNat (i + 1))) * (1000 - (Int32.ofNat (i + 1)))))), (4, .int (Int32.ofNat (i + 1))), (5, .int (gget T 64 (Int32.ofNat R) (Int32.ofNat (i + 1))))]) (st' := [.int ((prw C i) + ((gget T 64 (Int32.ofNat R) (Int32.ofNat (i + 1))) * (1000 - (Int32.ofNat (i + 1))))), .int (Int32.ofNat (i + 1)), .int (Int32.ofNat R), .ref 66]) (s' := (gset T 64 (Int32.ofNat R) (Int32.ofNat (i + 1)) ((pre C i) + (gget T 64 (Int32.ofNat R) (Int32.ofNat (i + 1)))))) rfl ?_
        refine yp_vi rfl rfl rfl rfl (c_gset rfl ?_)
        refine yp_run 2 (pc' := 7) (lv' := [(0, .ref 63), (1, .int (Int32.ofNat R)), (2, .int ((pre C i) + (gget T 64 (Int32.ofNat R) (Int32.ofNat (i + 1))))), (3, .int ((prw C i) + ((gget T 64 (Int32.ofNat R) (Int32.ofNat (i + 1))) * (1000 - (Int32.ofNat (i + 1)))))), (4, .int ((Int32.ofNat (i + 1)) + 1)), (5, .int (gget T 64 (Int32.ofNat R) (Int32.ofNat (i + 1))))]) (st' := []) (s' := (gset (gset T 64 (Int32.ofNat R) (Int32.ofNat (i + 1)) ((pre C i) + (gget T 64 (Int32.ofNat R) (Int32.ofNat (i + 1))))) 66 (Int32.ofNat R) (Int32.ofNat (i + 1)) ((prw C i) + ((gget T 64 (Int32.ofNat R) (Int32.ofNat (i + 1))) * (1000 - (Int32.ofNat (i + 1))))))) rfl ?_
        have g1 : gget T 64 (Int32.ofNat R) (Int32.ofNat (i + 1)) = C (i + 1) := by
          refine (gget_i (k := 64) (by show i + 1 < 9; omega) (by decide) (by show R * 9 + (i + 1) < 360; omega)).trans ?_
          show T 65 (R * 9 + (i + 1)) = _
          rw [hT]
          show sumSt s 52 R i C 65 (R * 9 + (i + 1)) = _
          unfold sumSt
          rw [wr_ne (by omega), wr_out (by omega)]
          exact (hC (i + 1) (by omega) (by omega)).symm
        rw [g1, i32_s]
        have e1 : ∀ v : Int32, gset T 64 (Int32.ofNat R) (Int32.ofNat (i + 1)) v = yup T 65 (R * 9 + (i + 1)) v := fun v => gset_i (k := 64) (by show i + 1 < 9; omega) (by decide) (by show R * 9 + (i + 1) < 360; omega)
        have e2 : ∀ (U : yS) (v : Int32), gset U 66 (Int32.ofNat R) (Int32.ofNat (i + 1)) v = yup U 67 (R * 9 + (i + 1)) v := fun U v => gset_i (k := 66) (by show i + 1 < 9; omega) (by decide) (by show R * 9 + (i + 1) < 360; omega)
        rw [e1, e2, hT]
        have e3 := sumSt_s (s := s) (S := 52) (R := R) (i := i) (C := C) rfl rfl
        have e4 := ih (i + 1) (by omega)
        rw [← e3] at e4
        refine yp_sel [0, 1, 2, 3, 4] ?_
        exact e4
theorem c_sum {S n R : Nat} {C : Nat → Int32} (hS : yss S) (hn : n ≤ 8) (hR : R < 40) (hw : s (S + 11) 0 = Int32.ofNat n) (hC : ∀ q, 1 ≤ q → q ≤ n → C q = s (S + 13) (R * 9 + q)) (kk : Φ none (sumSt s S R n C)) : Yq sd 19 [.ref (S + 11), .int (Int32.ofNat R)] s Φ := by
  refine Yq.of rfl (Nat.le_of_ble_eq_true rfl) ?_
  rcases hS with rfl | rfl
  · refine yp_run 6 (pc' := 7) (lv' := [(0, .ref 41), (1, .int (Int32.ofNat R)), (2, .int 0), (3, .int 0), (4, .int (Int32.ofNat (0 + 1)))]) (st' := []) (s' := s) rfl ?_
    have := lz_sum (sd := sd) (S := 30) (by decide) hn hR hw hC kk n 0 (Nat.zero_add n)
    rw [sumSt_0] at this
    exact this
  · refine yp_run 6 (pc' := 7) (lv' := [(0, .ref 63), (1, .int (Int32.ofNat R)), (2, .int 0), (3, .int 0), (4, .int (Int32.ofNat (0 + 1)))]) (st' := []) (s' := s) rfl ?_
    have := lz_sum (sd := sd) (S := 52) (by decide) hn hR hw hC kk n 0 (Nat.zero_add n)
    rw [sumSt_0] at this
    exact this
end YJ
end
section
/-! who is the heaviest of some; loops that carry numbers along
-/
section YK
variable {sd : Option (List Int32)} {μ pc : Nat} {lv : xL} {st : List Value} {s : yS} {Φ : Option Value → yS → Prop}
def itf {α : Type} (f : Nat → α → α) : Nat → α → α
  | 0, a => a
  | i + 1, a => f i (itf f i a)
theorem c_rgetv {k : Nat} {i v : Int32} (hk : yrw k = true) (hv : rget s k i = v) (kk : Φ (some (.int v)) s) : Yq sd 21 [.ref k, .int i] s Φ := by
  subst hv
  exact c_rget hk kk
theorem c_ggetv {k : Nat} {r c v : Int32} (hk : ygd k = true) (hv : gget s k r c = v) (kk : Φ (some (.int v)) s) : Yq sd 4 [.ref k, .int r, .int c] s Φ := by
  subst hv
  exact c_gget hk kk
theorem c_numv {t : Nat} {r p v : Int32} (ht : yt t) (hv : gget s (t + 1) r p = v) (kk : Φ (some (.int v)) s) : Yq sd 23 [.ref t, .int r, .int p] s Φ := by
  subst hv
  exact c_num ht kk
theorem c_wgtv {t : Nat} {r p v : Int32} (ht : yt t) (hv : gget s (t + 3) r p = v) (kk : Φ (some (.int v)) s) : Yq sd 29 [.ref t, .int r, .int p] s Φ := by
  subst hv
  exact c_wgt ht kk
def hvs (g : Int32) (W : Nat → Int32) (i : Nat) (a : Int32 × Int32) : Int32 × Int32 := (bif xcmp .eq (hd g (Int32.ofNat i)) 0 then (a.1, a.2) else (bif xcmp .eq a.1 0 then ((1 <<< ((Int32.ofNat i) &&& 31)), (W i)) else (bif xcmp .lt (W i) a.2 then (a.1, a.2) else (bif xcmp .ne (W i) a.2 then ((1 <<< ((Int32.ofNat i) &&& 31)), (W i)) else ((a.1 ||| (1 <<< ((Int32.ofNat i) &&& 31))), (W i))))))
theorem hvs_eq (g : Int32) (W : Nat → Int32) (i : Nat) (a : Int32 × Int32) : hvs g W i a = (bif xcmp .eq (hd g (Int32.ofNat i)) 0 then (a.1, a.2) else (bif xcmp .eq a.1 0 then ((1 <<< ((Int32.ofNat i) &&& 31)), (W i)) else (bif xcmp .lt (W i) a.2 then (a.1, a.2) else (bif xcmp .ne (W i) a.2 then ((1 <<< ((Int32.ofNat i) &&& 31)), (W i)) else ((a.1 ||| (1 <<< ((Int32.ofNat i) &&& 31))), (W i)))))) := rfl
theorem lz_hv {S : Nat} {n : Nat} {g : Int32} {W : Nat → Int32} {a0 : Int32 × Int32} (hS : yss S) (hn : n ≤ 8) (hz : s S 0 = Int32.ofNat n) (hW : ∀ p, p < n → s (S + 21) p = W p) (kk : Yp sd 33 79 [(0, .ref S), (1, .int g), (2, .int ((itf (hvs g W) n a0).1)), (3, .int ((itf (hvs g W) n a0).2)), (4, .int (Int32.ofNat n))] [] s Φ) : ∀ m i : Nat, i + m = n → Yp sd 33 7 [(0, .ref S), (1, .int g), (2, .int ((itf (hvs g W) i a0).1)), (3, .int ((itf (hvs g W) i a0).2)), (4, .int (Int32.ofNat i))] [] s Φ := by
  intro m
  rcases hS with rfl | rfl
  · have hz : s 30 0 = Int32.ofNat n := hz
    induction m with
    | zero =>
      intro i hi
      refine yp_run 3 (pc' := 13) (lv' := [(0, .ref 30), (1, .int g), (2, .int ((itf (hvs g W) i a0).1)), (3, .int ((itf (hvs g W) i a0).2)), (4, .int (Int32.ofNat i))]) (st' := [.int (s 30 0), .int (Int32.ofNat i)]) (s' := s) rfl ?_
      refine yp_icmp rfl rfl (fun h => ?_) (fun h => ?_)
      · rw [show i = n by omega]
        exact kk
      · have h := xN (xc_ge _ _) h
        rw [hz, i32_to (by omega), i32_to (by omega)] at h
        omega
    | succ m ih =>
      intro i hi
      refine yp_run 3 (pc' := 13) (lv' := [(0, .ref 30), (1, .int g), (2, .int ((itf (hvs g W) i a0).1)), (3, .int ((itf (hvs g W) i a0).2)), (4, .int (Int32.ofNat i))]) (st' := [.int (s 30 0), .int (Int32.ofNat i)]) (s' := s) rfl ?_
      refine yp_icmp rfl rfl (fun h => ?_) (fun h => ?_)
      · have h := xT (xc_ge _ _) h
        rw [hz, i32_to (by omega), i32_to (by omega)] at h
        omega
      · have gW : rget s 50 (Int32.ofNat i) = W i := (rget_i (by show i < 8; omega)).trans (hW i (by omega))
        refine yp_run 3 (pc' := 22) (lv' := [(0, .ref 30), (1, .int g), (2, .int ((itf (hvs g W) i a0).1)), (3, .int ((itf (hvs g W) i a0).2)), (4, .int (Int32.ofNat i))]) (st' := [.int (Int32.ofNat i), .ref 50]) (s' := s) rfl ?_
        refine yp_vi rfl rfl rfl rfl (c_rgetv rfl gW ?_)
        refine yp_run 3 (pc' := 30) (lv' := [(0, .ref 30), (1, .int g), (2, .int ((itf (hvs g W) i a0).1)), (3, .int ((itf (hvs g W) i a0).2)), (4, .int (Int32.ofNat i)), (5, .int (W i))]) (st' := [.int (Int32.ofNat i), .int g]) (s' := s) rfl ?_
        refine yp_sn rfl rfl rfl (c_hold ?_)
        refine yp_if rfl rfl (fun h33 => ?_) (fun h33 => ?_)
        · refine yp_run 2 (pc' := 7) (lv' := [(0, .ref 30), (1, .int g), (2, .int ((itf (hvs g W) i a0).1)), (3, .int ((itf (hvs g W) i a0).2)), (4, .int ((Int32.ofNat i) + 1)), (5, .int (W i))]) (st' := []) (s' := s) rfl ?_
          have e9 : (itf (hvs g W) (i + 1) a0) = (((itf (hvs g W) i a0).1), ((itf (hvs g W) i a0).2)) := by
            refine (hvs_eq g W i (itf (hvs g W) i a0)).trans ?_
            simp only [h33, cond_true, cond_false]
          have e8 := ih (i + 1) (by omega)
          rw [e9] at e8
          rw [i32_s]
          refine yp_sel [0, 1, 2, 3, 4] ?_
          exact e8
        · refine yp_run 1 (pc' := 37) (lv' := [(0, .ref 30), (1, .int g), (2, .int ((itf (hvs g W) i a0).1)), (3, .int ((itf (hvs g W) i a0).2)), (4, .int (Int32.ofNat i)), (5, .int (W i))]) (st' := [.int ((itf (hvs g W) i a0).1)]) (s' := s) rfl ?_
          refine yp_if rfl rfl (fun h37 => ?_) (fun h37 => ?_)
          · refine yp_run 1 (pc' := 47) (lv' := [(0, .ref 30), (1, .int g), (2, .int ((itf (hvs g W) i a0).1)), (3, .int ((itf (hvs g W) i a0).2)), (4, .int (Int32.ofNat i)), (5, .int (W i))]) (st' := [.int ((itf (hvs g W) i a0).1)]) (s' := s) rfl ?_
            refine yp_if rfl rfl (fun h47 => ?_) (fun h47 => ?_)
            · refine yp_run 8 (pc' := 7) (lv' := [(0, .ref 30), (1, .int g), (2, .int (1 <<< ((Int32.ofNat i) &&& 31))), (3, .int (W i)), (4, .int ((Int32.ofNat i) + 1)), (5, .int (W i))]) (st' := []) (s' := s) rfl ?_
              have e9 : (itf (hvs g W) (i + 1) a0) = ((1 <<< ((Int32.ofNat i) &&& 31)), (W i)) := by
                refine (hvs_eq g W i (itf (hvs g W) i a0)).trans ?_
                simp only [h33, h37, cond_true, cond_false]
              have e8 := ih (i + 1) (by omega)
              rw [e9] at e8
              rw [i32_s]
              refine yp_sel [0, 1, 2, 3, 4] ?_
              exact e8
            · rw [h37] at h47
              cases h47
          · refine yp_run 2 (pc' := 43) (lv' := [(0, .ref 30), (1, .int g), (2, .int ((itf (hvs g W) i a0).1)), (3, .int ((itf (hvs g W) i a0).2)), (4, .int (Int32.ofNat i)), (5, .int (W i))]) (st' := [.int ((itf (hvs g W) i a0).2), .int (W i)]) (s' := s) rfl ?_
            refine yp_icmp rfl rfl (fun h43 => ?_) (fun h43 => ?_)
            · refine yp_run 2 (pc' := 7) (lv' := [(0, .ref 30), (1, .int g), (2, .int ((itf (hvs g W) i a0).1)), (3, .int ((itf (hvs g W) i a0).2)), (4, .int ((Int32.ofNat i) + 1)), (5, .int (W i))]) (st' := []) (s' := s) rfl ?_
              have e9 : (itf (hvs g W) (i + 1) a0) = (((itf (hvs g W) i a0).1), ((itf (hvs g W) i a0).2)) := by
                refine (hvs_eq g W i (itf (hvs g W) i a0)).trans ?_
                simp only [h33, h37, h43, cond_true, cond_false]
              have e8 := ih (i + 1) (by omega)
              rw [e9] at e8
              rw [i32_s]
              refine yp_sel [0, 1, 2, 3, 4] ?_
              exact e8
            · refine yp_run 1 (pc' := 47) (lv' := [(0, .ref 30), (1, .int g), (2, .int ((itf (hvs g W) i a0).1)), (3, .int ((itf (hvs g W) i a0).2)), (4, .int (Int32.ofNat i)), (5, .int (W i))]) (st' := [.int ((itf (hvs g W) i a0).1)]) (s' := s) rfl ?_
              refine yp_if rfl rfl (fun h47 => ?_) (fun h47 => ?_)
              · rw [h37] at h47
                cases h47
              · refine yp_run 2 (pc' := 53) (lv' := [(0, .ref 30), (1, .int g), (2, .int ((itf (hvs g W) i a0).1)), (3, .int ((itf (hvs g W) i a0).2)), (4, .int (Int32.ofNat i)), (5, .int (W i))]) (st' := [.int ((itf (hvs g W) i a0).2), .int (W i)]) (s' := s) rfl ?_
                refine yp_icmp rfl rfl (fun h53 => ?_) (fun h53 => ?_)
                · refine yp_run 8 (pc' := 7) (lv' := [(0, .ref 30), (1, .int g), (2, .int (1 <<< ((Int32.ofNat i) &&& 31))), (3, .int (W i)), (4, .int ((Int32.ofNat i) + 1)), (5, .int (W i))]) (st' := []) (s' := s) rfl ?_
                  have e9 : (itf (hvs g W) (i + 1) a0) = ((1 <<< ((Int32.ofNat i) &&& 31)), (W i)) := by
                    refine (hvs_eq g W i (itf (hvs g W) i a0)).trans ?_
                    simp only [h33, h37, h43, h53, cond_true, cond_false]
                  have e8 := ih (i + 1) (by omega)
                  rw [e9] at e8
                  rw [i32_s]
                  refine yp_sel [0, 1, 2, 3, 4] ?_
                  exact e8
                · refine yp_run 11 (pc' := 7) (lv' := [(0, .ref 30), (1, .int g), (2, .int (((itf (hvs g W) i a0).1) ||| (1 <<< ((Int32.ofNat i) &&& 31)))), (3, .int (W i)), (4, .int ((Int32.ofNat i) + 1)), (5, .int (W i))]) (st' := []) (s' := s) rfl ?_
                  have e9 : (itf (hvs g W) (i + 1) a0) = ((((itf (hvs g W) i a0).1) ||| (1 <<< ((Int32.ofNat i) &&& 31))), (W i)) := by
                    refine (hvs_eq g W i (itf (hvs g W) i a0)).trans ?_
                    simp only [h33, h37, h43, h53, cond_true, cond_false]
                  have e8 := ih (i + 1) (by omega)
                  rw [e9] at e8
                  rw [i32_s]
                  refine yp_sel [0, 1, 2, 3, 4] ?_
                  exact e8
  · have hz : s 52 0 = Int32.ofNat n := hz
    induction m with
    | zero =>
      intro i hi
      refine yp_run 3 (pc' := 13) (lv' := [(0, .ref 52), (1, .int g), (2, .int ((itf (hvs g W) i a0).1)), (3, .int ((itf (hvs g W) i a0).2)), (4, .int (Int32.ofNat i))]) (st' := [.int (s 52 0), .int (Int32.ofNat i)]) (s' := s) rfl ?_
      refine yp_icmp rfl rfl (fun h => ?_) (fun h => ?_)
      · rw [show i = n by omega]
        exact kk
      · have h := xN (xc_ge _ _) h
        rw [hz, i32_to (by omega), i32_to (by omega)] at h
        omega
    | succ m ih =>
      intro i hi
      refine yp_run 3 (pc' := 13) (lv' := [(0, .ref 52), (1, .int g), (2, .int ((itf (hvs g W) i a0).1)), (3, .int ((itf (hvs g W) i a0).2)), (4, .int (Int32.ofNat i))]) (st' := [.int (s 52 0), .int (Int32.ofNat i)]) (s' := s) rfl ?_
      refine yp_icmp rfl rfl (fun h => ?_) (fun h => ?_)
      · have h := xT (xc_ge _ _) h
        rw [hz, i32_to (by omega), i32_to (by omega)] at h
        omega
      · have gW : rget s 72 (Int32.ofNat i) = W i := (rget_i (by show i < 8; omega)).trans (hW i (by omega))
        refine yp_run 3 (pc' := 22) (lv' := [(0, .ref 52), (1, .int g), (2, .int ((itf (hvs g W) i a0).1)), (3, .int ((itf (hvs g W) i a0).2)), (4, .int (Int32.ofNat i))]) (st' := [.int (Int32.ofNat i), .ref 72]) (s' := s) rfl ?_
        refine yp_vi rfl rfl rfl rfl (c_rgetv rfl gW ?_)
        refine yp_run 3 (pc' := 30) (lv' := [(0, .ref 52), (1, .int g), (2, .int ((itf (hvs g W) i a0).1)), (3, .int ((itf (hvs g W) i a0).2)), (4, .int (Int32.ofNat i)), (5, .int (W i))]) (st' := [.int (Int32.ofNat i), .int g]) (s' := s) rfl ?_
        refine yp_sn rfl rfl rfl (c_hold ?_)
        refine yp_if rfl rfl (fun h33 => ?_) (fun h33 => ?_)
        · refine yp_run 2 (pc' := 7) (lv' := [(0, .ref 52), (1, .int g), (2, .int ((itf (hvs g W) i a0).1)), (3, .int ((itf (hvs g W) i a0).2)), (4, .int ((Int32.ofNat i) + 1)), (5, .int (W i))]) (st' := []) (s' := s) rfl ?_
          have e9 : (itf (hvs g W) (i + 1) a0) = (((itf (hvs g W) i a0).1), ((itf (hvs g W) i a0).2)) := by
            refine (hvs_eq g W i (itf (hvs g W) i a0)).trans ?_
            simp only [h33, cond_true, cond_false]
          have e8 := ih (i + 1) (by omega)
          rw [e9] at e8
          rw [i32_s]
          refine yp_sel [0, 1, 2, 3, 4] ?_
          exact e8
        · refine yp_run 1 (pc' := 37) (lv' := [(0, .ref 52), (1, .int g), (2, .int ((itf (hvs g W) i a0).1)), (3, .int ((itf (hvs g W) i a0).2)), (4, .int (Int32.ofNat i)), (5, .int (W i))]) (st' := [.int ((itf (hvs g W) i a0).1)]) (s' := s) rfl ?_
          refine yp_if rfl rfl (fun h37 => ?_) (fun h37 => ?_)
          · refine yp_run 1 (pc' := 47) (lv' := [(0, .ref 52), (1, .int g), (2, .int ((itf (hvs g W) i a0).1)), (3, .int ((itf (hvs g W) i a0).2)), (4, .int (Int32.ofNat i)), (5, .int (W i))]) (st' := [.int ((itf (hvs g W) i a0).1)]) (s' := s) rfl ?_
            refine yp_if rfl rfl (fun h47 => ?_) (fun h47 => ?_)
            · refine yp_run 8 (pc' := 7) (lv' := [(0, .ref 52), (1, .int g), (2, .int (1 <<< ((Int32.ofNat i) &&& 31))), (3, .int (W i)), (4, .int ((Int32.ofNat i) + 1)), (5, .int (W i))]) (st' := []) (s' := s) rfl ?_
              have e9 : (itf (hvs g W) (i + 1) a0) = ((1 <<< ((Int32.ofNat i) &&& 31)), (W i)) := by
                refine (hvs_eq g W i (itf (hvs g W) i a0)).trans ?_
                simp only [h33, h37, cond_true, cond_false]
              have e8 := ih (i + 1) (by omega)
              rw [e9] at e8
              rw [i32_s]
              refine yp_sel [0, 1, 2, 3, 4] ?_
              exact e8
            · rw [h37] at h47
              cases h47
          · refine yp_run 2 (pc' := 43) (lv' := [(0, .ref 52), (1, .int g), (2, .int ((itf (hvs g W) i a0).1)), (3, .int ((itf (hvs g W) i a0).2)), (4, .int (Int32.ofNat i)), (5, .int (W i))]) (st' := [.int ((itf (hvs g W) i a0).2), .int (W i)]) (s' := s) rfl ?_
            refine yp_icmp rfl rfl (fun h43 => ?_) (fun h43 => ?_)
            · refine yp_run 2 (pc' := 7) (lv' := [(0, .ref 52), (1, .int g), (2, .int ((itf (hvs g W) i a0).1)), (3, .int ((itf (hvs g W) i a0).2)), (4, .int ((Int32.ofNat i) + 1)), (5, .int (W i))]) (st' := []) (s' := s) rfl ?_
              have e9 : (itf (hvs g W) (i + 1) a0) = (((itf (hvs g W) i a0).1), ((itf (hvs g W) i a0).2)) := by
                refine (hvs_eq g W i (itf (hvs g W) i a0)).trans ?_
                simp only [h33, h37, h43, cond_true, cond_false]
              have e8 := ih (i + 1) (by omega)
              rw [e9] at e8
              rw [i32_s]
              refine yp_sel [0, 1, 2, 3, 4] ?_
              exact e8
            · refine yp_run 1 (pc' := 47) (lv' := [(0, .ref 52), (1, .int g), (2, .int ((itf (hvs g W) i a0).1)), (3, .int ((itf (hvs g W) i a0).2)), (4, .int (Int32.ofNat i)), (5, .int (W i))]) (st' := [.int ((itf (hvs g W) i a0).1)]) (s' := s) rfl ?_
              refine yp_if rfl rfl (fun h47 => ?_) (fun h47 => ?_)
              · rw [h37] at h47
                cases h47
              · refine yp_run 2 (pc' := 53) (lv' := [(0, .ref 52), (1, .int g), (2, .int ((itf (hvs g W) i a0).1)), (3, .int ((itf (hvs g W) i a0).2)), (4, .int (Int32.ofNat i)), (5, .int (W i))]) (st' := [.int ((itf (hvs g W) i a0).2), .int (W i)]) (s' := s) rfl ?_
                refine yp_icmp rfl rfl (fun h53 => ?_) (fun h53 => ?_)
                · refine yp_run 8 (pc' := 7) (lv' := [(0, .ref 52), (1, .int g), (2, .int (1 <<< ((Int32.ofNat i) &&& 31))), (3, .int (W i)), (4, .int ((Int32.ofNat i) + 1)), (5, .int (W i))]) (st' := []) (s' := s) rfl ?_
                  have e9 : (itf (hvs g W) (i + 1) a0) = ((1 <<< ((Int32.ofNat i) &&& 31)), (W i)) := by
                    refine (hvs_eq g W i (itf (hvs g W) i a0)).trans ?_
                    simp only [h33, h37, h43, h53, cond_true, cond_false]
                  have e8 := ih (i + 1) (by omega)
                  rw [e9] at e8
                  rw [i32_s]
                  refine yp_sel [0, 1, 2, 3, 4] ?_
                  exact e8
                · refine yp_run 11 (pc' := 7) (lv' := [(0, .ref 52), (1, .int g), (2, .int (((itf (hvs g W) i a0).1) ||| (1 <<< ((Int32.ofNat i) &&& 31)))), (3, .int (W i)), (4, .int ((Int32.ofNat i) + 1)), (5, .int (W i))]) (st' := []) (s' := s) rfl ?_
                  have e9 : (itf (hvs g W) (i + 1) a0) = ((((itf (hvs g W) i a0).1) ||| (1 <<< ((Int32.ofNat i) &&& 31))), (W i)) := by
                    refine (hvs_eq g W i (itf (hvs g W) i a0)).trans ?_
                    simp only [h33, h37, h43, h53, cond_true, cond_false]
                  have e8 := ih (i + 1) (by omega)
                  rw [e9] at e8
                  rw [i32_s]
                  refine yp_sel [0, 1, 2, 3, 4] ?_
                  exact e8
def hv (g : Int32) (W : Nat → Int32) (n : Nat) : Int32 := (itf (hvs g W) n (0, 0)).1
theorem c_heav {S n : Nat} {g : Int32} {W : Nat → Int32} (hS : yss S) (hn : n ≤ 8) (hz : s S 0 = Int32.ofNat n) (hW : ∀ p, p < n → s (S + 21) p = W p) (kk : Φ (some (.int (hv g W n))) s) : Yq sd 33 [.ref S, .int g] s Φ := by
  refine Yq.of rfl (Nat.le_of_ble_eq_true rfl) ?_
  rcases hS with rfl | rfl
  · refine yp_run 6 (pc' := 7) (lv' := [(0, .ref 30), (1, .int g), (2, .int 0), (3, .int 0), (4, .int 0)]) (st' := []) (s' := s) rfl ?_
    refine lz_hv (a0 := (0, 0))  (by decide) hn hz hW ?_ n 0 (Nat.zero_add _)
    refine yp_run 1 (pc' := 80) (lv' := [(0, .ref 30), (1, .int g), (2, .int ((itf (hvs g W) n (0, 0)).1)), (3, .int ((itf (hvs g W) n (0, 0)).2)), (4, .int (Int32.ofNat n))]) (st' := [.int ((itf (hvs g W) n (0, 0)).1)]) (s' := s) rfl ?_
    refine yp_ri rfl rfl ?_
    exact kk
  · refine yp_run 6 (pc' := 7) (lv' := [(0, .ref 52), (1, .int g), (2, .int 0), (3, .int 0), (4, .int 0)]) (st' := []) (s' := s) rfl ?_
    refine lz_hv (a0 := (0, 0))  (by decide) hn hz hW ?_ n 0 (Nat.zero_add _)
    refine yp_run 1 (pc' := 80) (lv' := [(0, .ref 52), (1, .int g), (2, .int ((itf (hvs g W) n (0, 0)).1)), (3, .int ((itf (hvs g W) n (0, 0)).2)), (4, .int (Int32.ofNat n))]) (st' := [.int ((itf (hvs g W) n (0, 0)).1)]) (s' := s) rfl ?_
    refine yp_ri rfl rfl ?_
    exact kk
end YK
end
section
/-! the best by totals, by places, by marks -/
section YL
variable {sd : Option (List Int32)} {μ pc : Nat} {lv : xL} {st : List Value} {s : yS} {Φ : Option Value → yS → Prop}
theorem lz_bt {S : Nat} {n : Nat} {g : Int32} {TT : Nat → Int32} (hS : yss S) (hn : n ≤ 8) (hz : s S 0 = Int32.ofNat n) (hT9 : ∀ p, p < n → s (S + 6) p = TT p) (kk : Yp sd 32 33 [(0, .ref S), (1, .int g), (2, .int (Int32.ofNat n))] [] (wr s (S + 21) 0 n (fun p => -TT p)) Φ) : ∀ m i : Nat, i + m = n → Yp sd 32 2 [(0, .ref S), (1, .int g), (2, .int (Int32.ofNat i))] [] (wr s (S + 21) 0 i (fun p => -TT p)) Φ := by
  intro m
  rcases hS with rfl | rfl
  · have hz : s 30 0 = Int32.ofNat n := hz
    induction m with
    | zero =>
      intro i hi
      obtain ⟨T, hT⟩ : ∃ T, T = (wr s 51 0 i (fun p => -TT p)) := ⟨_, rfl⟩
      rw [← hT]
      have hk : ∀ k, k ≠ 51 → T k = s k := fun k q => by rw [hT]; exact wr_ne q
      have hzT : T 30 0 = Int32.ofNat n := (congrFun (hk 30 (by decide)) 0).trans hz
      refine yp_run 3 (pc' := 7) (lv' := [(0, .ref 30), (1, .int g), (2, .int (Int32.ofNat i))]) (st' := [.int (T 30 0), .int (Int32.ofNat i)]) (s' := T) rfl ?_
      refine yp_icmp rfl rfl (fun h => ?_) (fun h => ?_)
      · rw [hT, show i = n by omega]
        exact kk
      · have h := xN (xc_ge _ _) h
        rw [hzT, i32_to (by omega), i32_to (by omega)] at h
        omega
    | succ m ih =>
      intro i hi
      obtain ⟨T, hT⟩ : ∃ T, T = (wr s 51 0 i (fun p => -TT p)) := ⟨_, rfl⟩
      rw [← hT]
      have hk : ∀ k, k ≠ 51 → T k = s k := fun k q => by rw [hT]; exact wr_ne q
      have hzT : T 30 0 = Int32.ofNat n := (congrFun (hk 30 (by decide)) 0).trans hz
      refine yp_run 3 (pc' := 7) (lv' := [(0, .ref 30), (1, .int g), (2, .int (Int32.ofNat i))]) (st' := [.int (T 30 0), .int (Int32.ofNat i)]) (s' := T) rfl ?_
      refine yp_icmp rfl rfl (fun h => ?_) (fun h => ?_)
      · have h := xT (xc_ge _ _) h
        rw [hzT, i32_to (by omega), i32_to (by omega)] at h
        omega
      · refine yp_run 6 (pc' := 20) (lv' := [(0, .ref 30), (1, .int g), (2, .int (Int32.ofNat i))]) (st' := [.int (Int32.ofNat i), .ref 35, .int (Int32.ofNat i), .ref 50]) (s' := T) rfl ?_
        have gT : rget T 35 (Int32.ofNat i) = TT i := (rget_i (by show i < 8; omega)).trans ((congrFun (hk 36 (by decide)) i).trans (hT9 i (by omega)))
        refine yp_vi rfl rfl rfl rfl (c_rgetv rfl gT ?_)
        refine yp_run 1 (pc' := 24) (lv' := [(0, .ref 30), (1, .int g), (2, .int (Int32.ofNat i))]) (st' := [.int (-(TT i)), .int (Int32.ofNat i), .ref 50]) (s' := T) rfl ?_
        refine yp_vi rfl rfl rfl rfl (c_rset rfl ?_)
        refine yp_run 2 (pc' := 2) (lv' := [(0, .ref 30), (1, .int g), (2, .int ((Int32.ofNat i) + 1))]) (st' := []) (s' := (rset T 50 (Int32.ofNat i) (-(TT i)))) rfl ?_
        have e9 : (rset T 50 (Int32.ofNat i) (-(TT i))) = (wr s 51 0 (i + 1) (fun p => -TT p)) := by
          rw [rset_i (k := 50) (by show i < 8; omega), hT]
          exact wr_s (by omega) (rfl)
        have e8 := ih (i + 1) (by omega)
        rw [e9, i32_s]
        refine yp_sel [0, 1, 2] ?_
        exact e8
  · have hz : s 52 0 = Int32.ofNat n := hz
    induction m with
    | zero =>
      intro i hi
      obtain ⟨T, hT⟩ : ∃ T, T = (wr s 73 0 i (fun p => -TT p)) := ⟨_, rfl⟩
      rw [← hT]
      have hk : ∀ k, k ≠ 73 → T k = s k := fun k q => by rw [hT]; exact wr_ne q
      have hzT : T 52 0 = Int32.ofNat n := (congrFun (hk 52 (by decide)) 0).trans hz
      refine yp_run 3 (pc' := 7) (lv' := [(0, .ref 52), (1, .int g), (2, .int (Int32.ofNat i))]) (st' := [.int (T 52 0), .int (Int32.ofNat i)]) (s' := T) rfl ?_
      refine yp_icmp rfl rfl (fun h => ?_) (fun h => ?_)
      · rw [hT, show i = n by omega]
        exact kk
      · have h := xN (xc_ge _ _) h
        rw [hzT, i32_to (by omega), i32_to (by omega)] at h
        omega
    | succ m ih =>
      intro i hi
      obtain ⟨T, hT⟩ : ∃ T, T = (wr s 73 0 i (fun p => -TT p)) := ⟨_, rfl⟩
      rw [← hT]
      have hk : ∀ k, k ≠ 73 → T k = s k := fun k q => by rw [hT]; exact wr_ne q
      have hzT : T 52 0 = Int32.ofNat n := (congrFun (hk 52 (by decide)) 0).trans hz
      refine yp_run 3 (pc' := 7) (lv' := [(0, .ref 52), (1, .int g), (2, .int (Int32.ofNat i))]) (st' := [.int (T 52 0), .int (Int32.ofNat i)]) (s' := T) rfl ?_
      refine yp_icmp rfl rfl (fun h => ?_) (fun h => ?_)
      · have h := xT (xc_ge _ _) h
        rw [hzT, i32_to (by omega), i32_to (by omega)] at h
        omega
      · refine yp_run 6 (pc' := 20) (lv' := [(0, .ref 52), (1, .int g), (2, .int (Int32.ofNat i))]) (st' := [.int (Int32.ofNat i), .ref 57, .int (Int32.ofNat i), .ref 72]) (s' := T) rfl ?_
        have gT : rget T 57 (Int32.ofNat i) = TT i := (rget_i (by show i < 8; omega)).trans ((congrFun (hk 58 (by decide)) i).trans (hT9 i (by omega)))
        refine yp_vi rfl rfl rfl rfl (c_rgetv rfl gT ?_)
        refine yp_run 1 (pc' := 24) (lv' := [(0, .ref 52), (1, .int g), (2, .int (Int32.ofNat i))]) (st' := [.int (-(TT i)), .int (Int32.ofNat i), .ref 72]) (s' := T) rfl ?_
        refine yp_vi rfl rfl rfl rfl (c_rset rfl ?_)
        refine yp_run 2 (pc' := 2) (lv' := [(0, .ref 52), (1, .int g), (2, .int ((Int32.ofNat i) + 1))]) (st' := []) (s' := (rset T 72 (Int32.ofNat i) (-(TT i)))) rfl ?_
        have e9 : (rset T 72 (Int32.ofNat i) (-(TT i))) = (wr s 73 0 (i + 1) (fun p => -TT p)) := by
          rw [rset_i (k := 72) (by show i < 8; omega), hT]
          exact wr_s (by omega) (rfl)
        have e8 := ih (i + 1) (by omega)
        rw [e9, i32_s]
        refine yp_sel [0, 1, 2] ?_
        exact e8
theorem c_btot {S n : Nat} {g : Int32} {TT : Nat → Int32} (hS : yss S) (hn : n ≤ 8) (hz : s S 0 = Int32.ofNat n) (hT9 : ∀ p, p < n → s (S + 6) p = TT p) (kk : Φ (some (.int (hv g (fun p => -TT p) n))) (wr s (S + 21) 0 n (fun p => -TT p))) : Yq sd 32 [.ref S, .int g] s Φ := by
  refine Yq.of rfl (Nat.le_of_ble_eq_true rfl) ?_
  rcases hS with rfl | rfl
  · have hz : s 30 0 = Int32.ofNat n := hz
    have w1 : Yp sd 32 33 [(0, .ref 30), (1, .int g), (2, .int (Int32.ofNat n))] [] (wr s 51 0 n (fun p => -TT p)) Φ := by
      refine yp_run 2 (pc' := 35) (lv' := [(0, .ref 30), (1, .int g), (2, .int (Int32.ofNat n))]) (st' := [.int g, .ref 30]) (s' := (wr s 51 0 n (fun p => -TT p))) rfl ?_
      refine yp_vi rfl rfl rfl rfl (c_heav (W := fun p => -TT p) (by decide) hn ((congrFun (wr_ne (by decide)) 0).trans hz) (fun p hp => wr_in (Nat.zero_le _) hp) ?_)
      refine yp_ri rfl rfl ?_
      exact kk
    have w2 := lz_bt (by decide) hn hz hT9 w1 n 0 (Nat.zero_add _)
    rw [wr_0] at w2
    refine yp_run 2 (pc' := 2) (lv' := [(0, .ref 30), (1, .int g), (2, .int 0)]) (st' := []) (s' := s) rfl ?_
    exact w2
  · have hz : s 52 0 = Int32.ofNat n := hz
    have w1 : Yp sd 32 33 [(0, .ref 52), (1, .int g), (2, .int (Int32.ofNat n))] [] (wr s 73 0 n (fun p => -TT p)) Φ := by
      refine yp_run 2 (pc' := 35) (lv' := [(0, .ref 52), (1, .int g), (2, .int (Int32.ofNat n))]) (st' := [.int g, .ref 52]) (s' := (wr s 73 0 n (fun p => -TT p))) rfl ?_
      refine yp_vi rfl rfl rfl rfl (c_heav (W := fun p => -TT p) (by decide) hn ((congrFun (wr_ne (by decide)) 0).trans hz) (fun p hp => wr_in (Nat.zero_le _) hp) ?_)
      refine yp_ri rfl rfl ?_
      exact kk
    have w2 := lz_bt (by decide) hn hz hT9 w1 n 0 (Nat.zero_add _)
    rw [wr_0] at w2
    refine yp_run 2 (pc' := 2) (lv' := [(0, .ref 52), (1, .int g), (2, .int 0)]) (st' := []) (s' := s) rfl ?_
    exact w2
end YL
end
section
/-! the best by places, by marks -/
section YN2
variable {sd : Option (List Int32)} {μ pc : Nat} {lv : xL} {st : List Value} {s : yS} {Φ : Option Value → yS → Prop}
def wps (PL : Nat → Int32) (r : Int32) (i : Nat) (a : Int32) : Int32 := (bif xcmp .gt (PL i) (2 * r) then (a + 0) else (a + (1000 - (PL i))))
theorem wps_eq (PL : Nat → Int32) (r : Int32) (i : Nat) (a : Int32) : wps PL r i a = (bif xcmp .gt (PL i) (2 * r) then (a + 0) else (a + (1000 - (PL i)))) := rfl
theorem lz_wp {S : Nat} {D : Nat} {PL : Nat → Int32} {r : Int32} {a0 : Int32} {p : Nat} {g : Int32} (hS : yss S) (hp : p < 8) (hD : D ≤ 5) (hd : s S 1 = Int32.ofNat D) (hP : ∀ d, d < D → s (S + 2) (d * 8 + p) = PL d) (kk : Yp sd 35 66 [(0, .ref S), (1, .int g), (2, .int r), (3, .int (Int32.ofNat p)), (4, .int (itf (wps PL r) D a0)), (5, .int (Int32.ofNat D))] [] s Φ) : ∀ m i : Nat, i + m = D → Yp sd 35 16 [(0, .ref S), (1, .int g), (2, .int r), (3, .int (Int32.ofNat p)), (4, .int (itf (wps PL r) i a0)), (5, .int (Int32.ofNat i))] [] s Φ := by
  intro m
  rcases hS with rfl | rfl
  · have hd : s 30 1 = Int32.ofNat D := hd
    induction m with
    | zero =>
      intro i hi
      refine yp_run 3 (pc' := 22) (lv' := [(0, .ref 30), (1, .int g), (2, .int r), (3, .int (Int32.ofNat p)), (4, .int (itf (wps PL r) i a0)), (5, .int (Int32.ofNat i))]) (st' := [.int (s 30 1), .int (Int32.ofNat i)]) (s' := s) rfl ?_
      refine yp_icmp rfl rfl (fun h => ?_) (fun h => ?_)
      · rw [show i = D by omega]
        exact kk
      · have h := xN (xc_ge _ _) h
        rw [hd, i32_to (by omega), i32_to (by omega)] at h
        omega
    | succ m ih =>
      intro i hi
      refine yp_run 3 (pc' := 22) (lv' := [(0, .ref 30), (1, .int g), (2, .int r), (3, .int (Int32.ofNat p)), (4, .int (itf (wps PL r) i a0)), (5, .int (Int32.ofNat i))]) (st' := [.int (s 30 1), .int (Int32.ofNat i)]) (s' := s) rfl ?_
      refine yp_icmp rfl rfl (fun h => ?_) (fun h => ?_)
      · have h := xT (xc_ge _ _) h
        rw [hd, i32_to (by omega), i32_to (by omega)] at h
        omega
      · refine yp_run 4 (pc' := 32) (lv' := [(0, .ref 30), (1, .int g), (2, .int r), (3, .int (Int32.ofNat p)), (4, .int (itf (wps PL r) i a0)), (5, .int (Int32.ofNat i))]) (st' := [.int (Int32.ofNat p), .int (Int32.ofNat i), .ref 31]) (s' := s) rfl ?_
        have gP : gget s 31 (Int32.ofNat i) (Int32.ofNat p) = PL i := (gget_i (k := 31) (by show p < 8; omega) (by decide) (by show i * 8 + p < 40; omega)).trans (hP i (by omega))
        refine yp_vi rfl rfl rfl rfl (c_ggetv rfl gP ?_)
        refine yp_run 6 (pc' := 44) (lv' := [(0, .ref 30), (1, .int g), (2, .int r), (3, .int (Int32.ofNat p)), (4, .int (itf (wps PL r) i a0)), (5, .int (Int32.ofNat i)), (6, .int (PL i))]) (st' := [.int (2 * r), .int (PL i), .int (itf (wps PL r) i a0)]) (s' := s) rfl ?_
        refine yp_icmp rfl rfl (fun h44 => ?_) (fun h44 => ?_)
        · refine yp_run 5 (pc' := 16) (lv' := [(0, .ref 30), (1, .int g), (2, .int r), (3, .int (Int32.ofNat p)), (4, .int ((itf (wps PL r) i a0) + 0)), (5, .int ((Int32.ofNat i) + 1)), (6, .int (PL i))]) (st' := []) (s' := s) rfl ?_
          have e9 : (itf (wps PL r) (i + 1) a0) = ((itf (wps PL r) i a0) + 0) := by
            refine (wps_eq PL r i (itf (wps PL r) i a0)).trans ?_
            simp only [h44, cond_true, cond_false]
          have e8 := ih (i + 1) (by omega)
          rw [e9] at e8
          rw [i32_s]
          refine yp_sel [0, 1, 2, 3, 4, 5] ?_
          exact e8
        · refine yp_run 8 (pc' := 16) (lv' := [(0, .ref 30), (1, .int g), (2, .int r), (3, .int (Int32.ofNat p)), (4, .int ((itf (wps PL r) i a0) + (1000 - (PL i)))), (5, .int ((Int32.ofNat i) + 1)), (6, .int (PL i))]) (st' := []) (s' := s) rfl ?_
          have e9 : (itf (wps PL r) (i + 1) a0) = ((itf (wps PL r) i a0) + (1000 - (PL i))) := by
            refine (wps_eq PL r i (itf (wps PL r) i a0)).trans ?_
            simp only [h44, cond_true, cond_false]
          have e8 := ih (i + 1) (by omega)
          rw [e9] at e8
          rw [i32_s]
          refine yp_sel [0, 1, 2, 3, 4, 5] ?_
          exact e8
  · have hd : s 52 1 = Int32.ofNat D := hd
    induction m with
    | zero =>
      intro i hi
      refine yp_run 3 (pc' := 22) (lv' := [(0, .ref 52), (1, .int g), (2, .int r), (3, .int (Int32.ofNat p)), (4, .int (itf (wps PL r) i a0)), (5, .int (Int32.ofNat i))]) (st' := [.int (s 52 1), .int (Int32.ofNat i)]) (s' := s) rfl ?_
      refine yp_icmp rfl rfl (fun h => ?_) (fun h => ?_)
      · rw [show i = D by omega]
        exact kk
      · have h := xN (xc_ge _ _) h
        rw [hd, i32_to (by omega), i32_to (by omega)] at h
        omega
    | succ m ih =>
      intro i hi
      refine yp_run 3 (pc' := 22) (lv' := [(0, .ref 52), (1, .int g), (2, .int r), (3, .int (Int32.ofNat p)), (4, .int (itf (wps PL r) i a0)), (5, .int (Int32.ofNat i))]) (st' := [.int (s 52 1), .int (Int32.ofNat i)]) (s' := s) rfl ?_
      refine yp_icmp rfl rfl (fun h => ?_) (fun h => ?_)
      · have h := xT (xc_ge _ _) h
        rw [hd, i32_to (by omega), i32_to (by omega)] at h
        omega
      · refine yp_run 4 (pc' := 32) (lv' := [(0, .ref 52), (1, .int g), (2, .int r), (3, .int (Int32.ofNat p)), (4, .int (itf (wps PL r) i a0)), (5, .int (Int32.ofNat i))]) (st' := [.int (Int32.ofNat p), .int (Int32.ofNat i), .ref 53]) (s' := s) rfl ?_
        have gP : gget s 53 (Int32.ofNat i) (Int32.ofNat p) = PL i := (gget_i (k := 53) (by show p < 8; omega) (by decide) (by show i * 8 + p < 40; omega)).trans (hP i (by omega))
        refine yp_vi rfl rfl rfl rfl (c_ggetv rfl gP ?_)
        refine yp_run 6 (pc' := 44) (lv' := [(0, .ref 52), (1, .int g), (2, .int r), (3, .int (Int32.ofNat p)), (4, .int (itf (wps PL r) i a0)), (5, .int (Int32.ofNat i)), (6, .int (PL i))]) (st' := [.int (2 * r), .int (PL i), .int (itf (wps PL r) i a0)]) (s' := s) rfl ?_
        refine yp_icmp rfl rfl (fun h44 => ?_) (fun h44 => ?_)
        · refine yp_run 5 (pc' := 16) (lv' := [(0, .ref 52), (1, .int g), (2, .int r), (3, .int (Int32.ofNat p)), (4, .int ((itf (wps PL r) i a0) + 0)), (5, .int ((Int32.ofNat i) + 1)), (6, .int (PL i))]) (st' := []) (s' := s) rfl ?_
          have e9 : (itf (wps PL r) (i + 1) a0) = ((itf (wps PL r) i a0) + 0) := by
            refine (wps_eq PL r i (itf (wps PL r) i a0)).trans ?_
            simp only [h44, cond_true, cond_false]
          have e8 := ih (i + 1) (by omega)
          rw [e9] at e8
          rw [i32_s]
          refine yp_sel [0, 1, 2, 3, 4, 5] ?_
          exact e8
        · refine yp_run 8 (pc' := 16) (lv' := [(0, .ref 52), (1, .int g), (2, .int r), (3, .int (Int32.ofNat p)), (4, .int ((itf (wps PL r) i a0) + (1000 - (PL i)))), (5, .int ((Int32.ofNat i) + 1)), (6, .int (PL i))]) (st' := []) (s' := s) rfl ?_
          have e9 : (itf (wps PL r) (i + 1) a0) = ((itf (wps PL r) i a0) + (1000 - (PL i))) := by
            refine (wps_eq PL r i (itf (wps PL r) i a0)).trans ?_
            simp only [h44, cond_true, cond_false]
          have e8 := ih (i + 1) (by omega)
          rw [e9] at e8
          rw [i32_s]
          refine yp_sel [0, 1, 2, 3, 4, 5] ?_
          exact e8
theorem lz_bp {S : Nat} {n : Nat} {g : Int32} {r : Int32} {PL : Nat → Nat → Int32} {D : Nat} (hS : yss S) (hn : n ≤ 8) (hD : D ≤ 5) (hz : s S 0 = Int32.ofNat n) (hd : s S 1 = Int32.ofNat D) (hP : ∀ d p, d < D → p < n → s (S + 2) (d * 8 + p) = PL d p) (kk : Yp sd 35 82 [(0, .ref S), (1, .int g), (2, .int r), (3, .int (Int32.ofNat n))] [] (wr s (S + 21) 0 n (fun p => itf (wps (fun d => PL d p) r) D 0)) Φ) : ∀ m i : Nat, i + m = n → Yp sd 35 2 [(0, .ref S), (1, .int g), (2, .int r), (3, .int (Int32.ofNat i))] [] (wr s (S + 21) 0 i (fun p => itf (wps (fun d => PL d p) r) D 0)) Φ := by
  intro m
  rcases hS with rfl | rfl
  · have hz : s 30 0 = Int32.ofNat n := hz
    have hd : s 30 1 = Int32.ofNat D := hd
    induction m with
    | zero =>
      intro i hi
      obtain ⟨T, hT⟩ : ∃ T, T = (wr s 51 0 i (fun p => itf (wps (fun d => PL d p) r) D 0)) := ⟨_, rfl⟩
      rw [← hT]
      have hk : ∀ k, k ≠ 51 → T k = s k := fun k q => by rw [hT]; exact wr_ne q
      have hzT : T 30 0 = Int32.ofNat n := (congrFun (hk 30 (by decide)) 0).trans hz
      have hdT : T 30 1 = Int32.ofNat D := (congrFun (hk 30 (by decide)) 1).trans hd
      refine yp_run 3 (pc' := 7) (lv' := [(0, .ref 30), (1, .int g), (2, .int r), (3, .int (Int32.ofNat i))]) (st' := [.int (T 30 0), .int (Int32.ofNat i)]) (s' := T) rfl ?_
      refine yp_icmp rfl rfl (fun h => ?_) (fun h => ?_)
      · rw [hT, show i = n by omega]
        exact kk
      · have h := xN (xc_ge _ _) h
        rw [hzT, i32_to (by omega), i32_to (by omega)] at h
        omega
    | succ m ih =>
      intro i hi
      obtain ⟨T, hT⟩ : ∃ T, T = (wr s 51 0 i (fun p => itf (wps (fun d => PL d p) r) D 0)) := ⟨_, rfl⟩
      rw [← hT]
      have hk : ∀ k, k ≠ 51 → T k = s k := fun k q => by rw [hT]; exact wr_ne q
      have hzT : T 30 0 = Int32.ofNat n := (congrFun (hk 30 (by decide)) 0).trans hz
      have hdT : T 30 1 = Int32.ofNat D := (congrFun (hk 30 (by decide)) 1).trans hd
      refine yp_run 3 (pc' := 7) (lv' := [(0, .ref 30), (1, .int g), (2, .int r), (3, .int (Int32.ofNat i))]) (st' := [.int (T 30 0), .int (Int32.ofNat i)]) (s' := T) rfl ?_
      refine yp_icmp rfl rfl (fun h => ?_) (fun h => ?_)
      · have h := xT (xc_ge _ _) h
        rw [hzT, i32_to (by omega), i32_to (by omega)] at h
        omega
      · refine yp_run 4 (pc' := 16) (lv' := [(0, .ref 30), (1, .int g), (2, .int r), (3, .int (Int32.ofNat i)), (4, .int 0), (5, .int 0)]) (st' := []) (s' := T) rfl ?_
        refine lz_wp (a0 := 0) (PL := (fun d => PL d i)) (by decide) (by omega) hD hdT (fun d hd9 => (congrFun (hk 32 (by decide)) _).trans (hP d i hd9 (by omega))) ?_ D 0 (Nat.zero_add _)
        refine yp_run 4 (pc' := 73) (lv' := [(0, .ref 30), (1, .int g), (2, .int r), (3, .int (Int32.ofNat i)), (4, .int (itf (wps (fun d => PL d i) r) D 0)), (5, .int (Int32.ofNat D))]) (st' := [.int (itf (wps (fun d => PL d i) r) D 0), .int (Int32.ofNat i), .ref 50]) (s' := T) rfl ?_
        refine yp_vi rfl rfl rfl rfl (c_rset rfl ?_)
        refine yp_run 2 (pc' := 2) (lv' := [(0, .ref 30), (1, .int g), (2, .int r), (3, .int ((Int32.ofNat i) + 1)), (4, .int (itf (wps (fun d => PL d i) r) D 0)), (5, .int (Int32.ofNat D))]) (st' := []) (s' := (rset T 50 (Int32.ofNat i) (itf (wps (fun d => PL d i) r) D 0))) rfl ?_
        have e9 : (rset T 50 (Int32.ofNat i) (itf (wps (fun d => PL d i) r) D 0)) = (wr s 51 0 (i + 1) (fun p => itf (wps (fun d => PL d p) r) D 0)) := by
          rw [rset_i (k := 50) (by show i < 8; omega), hT]
          exact wr_s (by omega) (rfl)
        have e8 := ih (i + 1) (by omega)
        rw [e9, i32_s]
        refine yp_sel [0, 1, 2, 3] ?_
        exact e8
  · have hz : s 52 0 = Int32.ofNat n := hz
    have hd : s 52 1 = Int32.ofNat D := hd
    induction m with
    | zero =>
      intro i hi
      obtain ⟨T, hT⟩ : ∃ T, T = (wr s 73 0 i (fun p => itf (wps (fun d => PL d p) r) D 0)) := ⟨_, rfl⟩
      rw [← hT]
      have hk : ∀ k, k ≠ 73 → T k = s k := fun k q => by rw [hT]; exact wr_ne q
      have hzT : T 52 0 = Int32.ofNat n := (congrFun (hk 52 (by decide)) 0).trans hz
      have hdT : T 52 1 = Int32.ofNat D := (congrFun (hk 52 (by decide)) 1).trans hd
      refine yp_run 3 (pc' := 7) (lv' := [(0, .ref 52), (1, .int g), (2, .int r), (3, .int (Int32.ofNat i))]) (st' := [.int (T 52 0), .int (Int32.ofNat i)]) (s' := T) rfl ?_
      refine yp_icmp rfl rfl (fun h => ?_) (fun h => ?_)
      · rw [hT, show i = n by omega]
        exact kk
      · have h := xN (xc_ge _ _) h
        rw [hzT, i32_to (by omega), i32_to (by omega)] at h
        omega
    | succ m ih =>
      intro i hi
      obtain ⟨T, hT⟩ : ∃ T, T = (wr s 73 0 i (fun p => itf (wps (fun d => PL d p) r) D 0)) := ⟨_, rfl⟩
      rw [← hT]
      have hk : ∀ k, k ≠ 73 → T k = s k := fun k q => by rw [hT]; exact wr_ne q
      have hzT : T 52 0 = Int32.ofNat n := (congrFun (hk 52 (by decide)) 0).trans hz
      have hdT : T 52 1 = Int32.ofNat D := (congrFun (hk 52 (by decide)) 1).trans hd
      refine yp_run 3 (pc' := 7) (lv' := [(0, .ref 52), (1, .int g), (2, .int r), (3, .int (Int32.ofNat i))]) (st' := [.int (T 52 0), .int (Int32.ofNat i)]) (s' := T) rfl ?_
      refine yp_icmp rfl rfl (fun h => ?_) (fun h => ?_)
      · have h := xT (xc_ge _ _) h
        rw [hzT, i32_to (by omega), i32_to (by omega)] at h
        omega
      · refine yp_run 4 (pc' := 16) (lv' := [(0, .ref 52), (1, .int g), (2, .int r), (3, .int (Int32.ofNat i)), (4, .int 0), (5, .int 0)]) (st' := []) (s' := T) rfl ?_
        refine lz_wp (a0 := 0) (PL := (fun d => PL d i)) (by decide) (by omega) hD hdT (fun d hd9 => (congrFun (hk 54 (by decide)) _).trans (hP d i hd9 (by omega))) ?_ D 0 (Nat.zero_add _)
        refine yp_run 4 (pc' := 73) (lv' := [(0, .ref 52), (1, .int g), (2, .int r), (3, .int (Int32.ofNat i)), (4, .int (itf (wps (fun d => PL d i) r) D 0)), (5, .int (Int32.ofNat D))]) (st' := [.int (itf (wps (fun d => PL d i) r) D 0), .int (Int32.ofNat i), .ref 72]) (s' := T) rfl ?_
        refine yp_vi rfl rfl rfl rfl (c_rset rfl ?_)
        refine yp_run 2 (pc' := 2) (lv' := [(0, .ref 52), (1, .int g), (2, .int r), (3, .int ((Int32.ofNat i) + 1)), (4, .int (itf (wps (fun d => PL d i) r) D 0)), (5, .int (Int32.ofNat D))]) (st' := []) (s' := (rset T 72 (Int32.ofNat i) (itf (wps (fun d => PL d i) r) D 0))) rfl ?_
        have e9 : (rset T 72 (Int32.ofNat i) (itf (wps (fun d => PL d i) r) D 0)) = (wr s 73 0 (i + 1) (fun p => itf (wps (fun d => PL d p) r) D 0)) := by
          rw [rset_i (k := 72) (by show i < 8; omega), hT]
          exact wr_s (by omega) (rfl)
        have e8 := ih (i + 1) (by omega)
        rw [e9, i32_s]
        refine yp_sel [0, 1, 2, 3] ?_
        exact e8
def wpl (D : Nat) (PL : Nat → Nat → Int32) (r : Int32) (p : Nat) : Int32 := itf (wps (fun d => PL d p) r) D 0
theorem c_bplc {S n D : Nat} {g r : Int32} {PL : Nat → Nat → Int32} (hS : yss S) (hn : n ≤ 8) (hD : D ≤ 5) (hz : s S 0 = Int32.ofNat n) (hd : s S 1 = Int32.ofNat D) (hP : ∀ d p, d < D → p < n → s (S + 2) (d * 8 + p) = PL d p) (kk : Φ (some (.int (hv g (wpl D PL r) n))) (wr s (S + 21) 0 n (wpl D PL r))) : Yq sd 35 [.ref S, .int g, .int r] s Φ := by
  refine Yq.of rfl (Nat.le_of_ble_eq_true rfl) ?_
  rcases hS with rfl | rfl
  · have hz : s 30 0 = Int32.ofNat n := hz
    have w1 : Yp sd 35 82 [(0, .ref 30), (1, .int g), (2, .int r), (3, .int (Int32.ofNat n))] [] (wr s 51 0 n (fun p => itf (wps (fun d => PL d p) r) D 0)) Φ := by
      refine yp_run 2 (pc' := 84) (lv' := [(0, .ref 30), (1, .int g), (2, .int r), (3, .int (Int32.ofNat n))]) (st' := [.int g, .ref 30]) (s' := (wr s 51 0 n (fun p => itf (wps (fun d => PL d p) r) D 0))) rfl ?_
      refine yp_vi rfl rfl rfl rfl (c_heav (W := (fun p => itf (wps (fun d => PL d p) r) D 0)) (by decide) hn ((congrFun (wr_ne (by decide)) 0).trans hz) (fun p hp => wr_in (Nat.zero_le _) hp) ?_)
      refine yp_ri rfl rfl ?_
      exact kk
    have w2 := lz_bp (by decide) hn hD hz hd hP w1 n 0 (Nat.zero_add _)
    rw [wr_0] at w2
    refine yp_run 2 (pc' := 2) (lv' := [(0, .ref 30), (1, .int g), (2, .int r), (3, .int 0)]) (st' := []) (s' := s) rfl ?_
    exact w2
  · have hz : s 52 0 = Int32.ofNat n := hz
    have w1 : Yp sd 35 82 [(0, .ref 52), (1, .int g), (2, .int r), (3, .int (Int32.ofNat n))] [] (wr s 73 0 n (fun p => itf (wps (fun d => PL d p) r) D 0)) Φ := by
      refine yp_run 2 (pc' := 84) (lv' := [(0, .ref 52), (1, .int g), (2, .int r), (3, .int (Int32.ofNat n))]) (st' := [.int g, .ref 52]) (s' := (wr s 73 0 n (fun p => itf (wps (fun d => PL d p) r) D 0))) rfl ?_
      refine yp_vi rfl rfl rfl rfl (c_heav (W := (fun p => itf (wps (fun d => PL d p) r) D 0)) (by decide) hn ((congrFun (wr_ne (by decide)) 0).trans hz) (fun p hp => wr_in (Nat.zero_le _) hp) ?_)
      refine yp_ri rfl rfl ?_
      exact kk
    have w2 := lz_bp (by decide) hn hD hz hd hP w1 n 0 (Nat.zero_add _)
    rw [wr_0] at w2
    refine yp_run 2 (pc' := 2) (lv' := [(0, .ref 52), (1, .int g), (2, .int r), (3, .int 0)]) (st' := []) (s' := s) rfl ?_
    exact w2
def wms (WG : Nat → Int32) (i : Nat) (a : Int32) : Int32 := (a + (WG i))
theorem wms_eq (WG : Nat → Int32) (i : Nat) (a : Int32) : wms WG i a = (a + (WG i)) := rfl
theorem lz_wm {S : Nat} {D : Nat} {WG : Nat → Int32} {a0 : Int32} {p q : Nat} {g r b : Int32} (hS : yss S) (hp : p < 8) (hq : q < 9) (hD : D ≤ 5) (hd : s S 1 = Int32.ofNat D) (hG : ∀ d, d < D → s (S + 15) ((d * 8 + p) * 9 + q) = WG d) (kk : Yp sd 36 68 [(0, .ref S), (1, .int g), (2, .int r), (3, .int b), (4, .int (Int32.ofNat q)), (5, .int (Int32.ofNat p)), (6, .int (itf (wms WG) D a0)), (7, .int (Int32.ofNat D))] [] s Φ) : ∀ m i : Nat, i + m = D → Yp sd 36 32 [(0, .ref S), (1, .int g), (2, .int r), (3, .int b), (4, .int (Int32.ofNat q)), (5, .int (Int32.ofNat p)), (6, .int (itf (wms WG) i a0)), (7, .int (Int32.ofNat i))] [] s Φ := by
  intro m
  rcases hS with rfl | rfl
  · have hd : s 30 1 = Int32.ofNat D := hd
    induction m with
    | zero =>
      intro i hi
      refine yp_run 3 (pc' := 38) (lv' := [(0, .ref 30), (1, .int g), (2, .int r), (3, .int b), (4, .int (Int32.ofNat q)), (5, .int (Int32.ofNat p)), (6, .int (itf (wms WG) i a0)), (7, .int (Int32.ofNat i))]) (st' := [.int (s 30 1), .int (Int32.ofNat i)]) (s' := s) rfl ?_
      refine yp_icmp rfl rfl (fun h => ?_) (fun h => ?_)
      · rw [show i = D by omega]
        exact kk
      · have h := xN (xc_ge _ _) h
        rw [hd, i32_to (by omega), i32_to (by omega)] at h
        omega
    | succ m ih =>
      intro i hi
      refine yp_run 3 (pc' := 38) (lv' := [(0, .ref 30), (1, .int g), (2, .int r), (3, .int b), (4, .int (Int32.ofNat q)), (5, .int (Int32.ofNat p)), (6, .int (itf (wms WG) i a0)), (7, .int (Int32.ofNat i))]) (st' := [.int (s 30 1), .int (Int32.ofNat i)]) (s' := s) rfl ?_
      refine yp_icmp rfl rfl (fun h => ?_) (fun h => ?_)
      · have h := xT (xc_ge _ _) h
        rw [hd, i32_to (by omega), i32_to (by omega)] at h
        omega
      · refine yp_run 5 (pc' := 51) (lv' := [(0, .ref 30), (1, .int g), (2, .int r), (3, .int b), (4, .int (Int32.ofNat q)), (5, .int (Int32.ofNat p)), (6, .int (itf (wms WG) i a0)), (7, .int (Int32.ofNat i))]) (st' := [.int (Int32.ofNat p), .int (Int32.ofNat i), .ref 41, .int (itf (wms WG) i a0)]) (s' := s) rfl ?_
        refine yp_st rfl rfl (c_rowOf ?_)
        refine yp_run 1 (pc' := 56) (lv' := [(0, .ref 30), (1, .int g), (2, .int r), (3, .int b), (4, .int (Int32.ofNat q)), (5, .int (Int32.ofNat p)), (6, .int (itf (wms WG) i a0)), (7, .int (Int32.ofNat i))]) (st' := [.int (Int32.ofNat q), .int ((Int32.ofNat i) * 8 + (Int32.ofNat p)), .ref 41, .int (itf (wms WG) i a0)]) (s' := s) rfl ?_
        have gG : gget s 44 (Int32.ofNat i * 8 + Int32.ofNat p) (Int32.ofNat q) = WG i := by rw [row_i]; exact (gget_i (k := 44) (by show q < 9; omega) (by decide) (by show (i * 8 + p) * 9 + q < 360; omega)).trans (hG i (by omega))
        refine yp_vi rfl rfl rfl rfl (c_wgtv (by decide) gG ?_)
        refine yp_run 4 (pc' := 32) (lv' := [(0, .ref 30), (1, .int g), (2, .int r), (3, .int b), (4, .int (Int32.ofNat q)), (5, .int (Int32.ofNat p)), (6, .int ((itf (wms WG) i a0) + (WG i))), (7, .int ((Int32.ofNat i) + 1))]) (st' := []) (s' := s) rfl ?_
        have e9 : (itf (wms WG) (i + 1) a0) = ((itf (wms WG) i a0) + (WG i)) := by
          refine (wms_eq WG i (itf (wms WG) i a0)).trans ?_
          rfl
        have e8 := ih (i + 1) (by omega)
        rw [e9] at e8
        rw [i32_s]
        refine yp_sel [0, 1, 2, 3, 4, 5, 6, 7] ?_
        exact e8
  · have hd : s 52 1 = Int32.ofNat D := hd
    induction m with
    | zero =>
      intro i hi
      refine yp_run 3 (pc' := 38) (lv' := [(0, .ref 52), (1, .int g), (2, .int r), (3, .int b), (4, .int (Int32.ofNat q)), (5, .int (Int32.ofNat p)), (6, .int (itf (wms WG) i a0)), (7, .int (Int32.ofNat i))]) (st' := [.int (s 52 1), .int (Int32.ofNat i)]) (s' := s) rfl ?_
      refine yp_icmp rfl rfl (fun h => ?_) (fun h => ?_)
      · rw [show i = D by omega]
        exact kk
      · have h := xN (xc_ge _ _) h
        rw [hd, i32_to (by omega), i32_to (by omega)] at h
        omega
    | succ m ih =>
      intro i hi
      refine yp_run 3 (pc' := 38) (lv' := [(0, .ref 52), (1, .int g), (2, .int r), (3, .int b), (4, .int (Int32.ofNat q)), (5, .int (Int32.ofNat p)), (6, .int (itf (wms WG) i a0)), (7, .int (Int32.ofNat i))]) (st' := [.int (s 52 1), .int (Int32.ofNat i)]) (s' := s) rfl ?_
      refine yp_icmp rfl rfl (fun h => ?_) (fun h => ?_)
      · have h := xT (xc_ge _ _) h
        rw [hd, i32_to (by omega), i32_to (by omega)] at h
        omega
      · refine yp_run 5 (pc' := 51) (lv' := [(0, .ref 52), (1, .int g), (2, .int r), (3, .int b), (4, .int (Int32.ofNat q)), (5, .int (Int32.ofNat p)), (6, .int (itf (wms WG) i a0)), (7, .int (Int32.ofNat i))]) (st' := [.int (Int32.ofNat p), .int (Int32.ofNat i), .ref 63, .int (itf (wms WG) i a0)]) (s' := s) rfl ?_
        refine yp_st rfl rfl (c_rowOf ?_)
        refine yp_run 1 (pc' := 56) (lv' := [(0, .ref 52), (1, .int g), (2, .int r), (3, .int b), (4, .int (Int32.ofNat q)), (5, .int (Int32.ofNat p)), (6, .int (itf (wms WG) i a0)), (7, .int (Int32.ofNat i))]) (st' := [.int (Int32.ofNat q), .int ((Int32.ofNat i) * 8 + (Int32.ofNat p)), .ref 63, .int (itf (wms WG) i a0)]) (s' := s) rfl ?_
        have gG : gget s 66 (Int32.ofNat i * 8 + Int32.ofNat p) (Int32.ofNat q) = WG i := by rw [row_i]; exact (gget_i (k := 66) (by show q < 9; omega) (by decide) (by show (i * 8 + p) * 9 + q < 360; omega)).trans (hG i (by omega))
        refine yp_vi rfl rfl rfl rfl (c_wgtv (by decide) gG ?_)
        refine yp_run 4 (pc' := 32) (lv' := [(0, .ref 52), (1, .int g), (2, .int r), (3, .int b), (4, .int (Int32.ofNat q)), (5, .int (Int32.ofNat p)), (6, .int ((itf (wms WG) i a0) + (WG i))), (7, .int ((Int32.ofNat i) + 1))]) (st' := []) (s' := s) rfl ?_
        have e9 : (itf (wms WG) (i + 1) a0) = ((itf (wms WG) i a0) + (WG i)) := by
          refine (wms_eq WG i (itf (wms WG) i a0)).trans ?_
          rfl
        have e8 := ih (i + 1) (by omega)
        rw [e9] at e8
        rw [i32_s]
        refine yp_sel [0, 1, 2, 3, 4, 5, 6, 7] ?_
        exact e8
theorem lz_bm {S : Nat} {n : Nat} {g : Int32} {r : Int32} {b : Int32} {q : Nat} {WG : Nat → Nat → Nat → Int32} {D : Nat} (hS : yss S) (hn : n ≤ 8) (hD : D ≤ 5) (hq : q < 9) (hz : s S 0 = Int32.ofNat n) (hd : s S 1 = Int32.ofNat D) (hG : ∀ d p, d < D → p < n → s (S + 15) ((d * 8 + p) * 9 + q) = WG d p q) (kk : Yp sd 36 85 [(0, .ref S), (1, .int g), (2, .int r), (3, .int b), (4, .int (Int32.ofNat q)), (5, .int (Int32.ofNat n))] [] (wr s (S + 21) 0 n (fun p => itf (wms (fun d => WG d p q)) D 0)) Φ) : ∀ m i : Nat, i + m = n → Yp sd 36 17 [(0, .ref S), (1, .int g), (2, .int r), (3, .int b), (4, .int (Int32.ofNat q)), (5, .int (Int32.ofNat i))] [] (wr s (S + 21) 0 i (fun p => itf (wms (fun d => WG d p q)) D 0)) Φ := by
  intro m
  rcases hS with rfl | rfl
  · have hz : s 30 0 = Int32.ofNat n := hz
    have hd : s 30 1 = Int32.ofNat D := hd
    induction m with
    | zero =>
      intro i hi
      obtain ⟨T, hT⟩ : ∃ T, T = (wr s 51 0 i (fun p => itf (wms (fun d => WG d p q)) D 0)) := ⟨_, rfl⟩
      rw [← hT]
      have hk : ∀ k, k ≠ 51 → T k = s k := fun k q => by rw [hT]; exact wr_ne q
      have hzT : T 30 0 = Int32.ofNat n := (congrFun (hk 30 (by decide)) 0).trans hz
      have hdT : T 30 1 = Int32.ofNat D := (congrFun (hk 30 (by decide)) 1).trans hd
      refine yp_run 3 (pc' := 23) (lv' := [(0, .ref 30), (1, .int g), (2, .int r), (3, .int b), (4, .int (Int32.ofNat q)), (5, .int (Int32.ofNat i))]) (st' := [.int (T 30 0), .int (Int32.ofNat i)]) (s' := T) rfl ?_
      refine yp_icmp rfl rfl (fun h => ?_) (fun h => ?_)
      · rw [hT, show i = n by omega]
        exact kk
      · have h := xN (xc_ge _ _) h
        rw [hzT, i32_to (by omega), i32_to (by omega)] at h
        omega
    | succ m ih =>
      intro i hi
      obtain ⟨T, hT⟩ : ∃ T, T = (wr s 51 0 i (fun p => itf (wms (fun d => WG d p q)) D 0)) := ⟨_, rfl⟩
      rw [← hT]
      have hk : ∀ k, k ≠ 51 → T k = s k := fun k q => by rw [hT]; exact wr_ne q
      have hzT : T 30 0 = Int32.ofNat n := (congrFun (hk 30 (by decide)) 0).trans hz
      have hdT : T 30 1 = Int32.ofNat D := (congrFun (hk 30 (by decide)) 1).trans hd
      refine yp_run 3 (pc' := 23) (lv' := [(0, .ref 30), (1, .int g), (2, .int r), (3, .int b), (4, .int (Int32.ofNat q)), (5, .int (Int32.ofNat i))]) (st' := [.int (T 30 0), .int (Int32.ofNat i)]) (s' := T) rfl ?_
      refine yp_icmp rfl rfl (fun h => ?_) (fun h => ?_)
      · have h := xT (xc_ge _ _) h
        rw [hzT, i32_to (by omega), i32_to (by omega)] at h
        omega
      · refine yp_run 4 (pc' := 32) (lv' := [(0, .ref 30), (1, .int g), (2, .int r), (3, .int b), (4, .int (Int32.ofNat q)), (5, .int (Int32.ofNat i)), (6, .int 0), (7, .int 0)]) (st' := []) (s' := T) rfl ?_
        refine lz_wm (a0 := 0) (WG := (fun d => WG d i q)) (by decide) (by omega) hq hD hdT (fun d hd9 => (congrFun (hk 45 (by decide)) _).trans (hG d i hd9 (by omega))) ?_ D 0 (Nat.zero_add _)
        refine yp_run 4 (pc' := 76) (lv' := [(0, .ref 30), (1, .int g), (2, .int r), (3, .int b), (4, .int (Int32.ofNat q)), (5, .int (Int32.ofNat i)), (6, .int (itf (wms (fun d => WG d i q)) D 0)), (7, .int (Int32.ofNat D))]) (st' := [.int (itf (wms (fun d => WG d i q)) D 0), .int (Int32.ofNat i), .ref 50]) (s' := T) rfl ?_
        refine yp_vi rfl rfl rfl rfl (c_rset rfl ?_)
        refine yp_run 2 (pc' := 17) (lv' := [(0, .ref 30), (1, .int g), (2, .int r), (3, .int b), (4, .int (Int32.ofNat q)), (5, .int ((Int32.ofNat i) + 1)), (6, .int (itf (wms (fun d => WG d i q)) D 0)), (7, .int (Int32.ofNat D))]) (st' := []) (s' := (rset T 50 (Int32.ofNat i) (itf (wms (fun d => WG d i q)) D 0))) rfl ?_
        have e9 : (rset T 50 (Int32.ofNat i) (itf (wms (fun d => WG d i q)) D 0)) = (wr s 51 0 (i + 1) (fun p => itf (wms (fun d => WG d p q)) D 0)) := by
          rw [rset_i (k := 50) (by show i < 8; omega), hT]
          exact wr_s (by omega) (rfl)
        have e8 := ih (i + 1) (by omega)
        rw [e9, i32_s]
        refine yp_sel [0, 1, 2, 3, 4, 5] ?_
        exact e8
  · have hz : s 52 0 = Int32.ofNat n := hz
    have hd : s 52 1 = Int32.ofNat D := hd
    induction m with
    | zero =>
      intro i hi
      obtain ⟨T, hT⟩ : ∃ T, T = (wr s 73 0 i (fun p => itf (wms (fun d => WG d p q)) D 0)) := ⟨_, rfl⟩
      rw [← hT]
      have hk : ∀ k, k ≠ 73 → T k = s k := fun k q => by rw [hT]; exact wr_ne q
      have hzT : T 52 0 = Int32.ofNat n := (congrFun (hk 52 (by decide)) 0).trans hz
      have hdT : T 52 1 = Int32.ofNat D := (congrFun (hk 52 (by decide)) 1).trans hd
      refine yp_run 3 (pc' := 23) (lv' := [(0, .ref 52), (1, .int g), (2, .int r), (3, .int b), (4, .int (Int32.ofNat q)), (5, .int (Int32.ofNat i))]) (st' := [.int (T 52 0), .int (Int32.ofNat i)]) (s' := T) rfl ?_
      refine yp_icmp rfl rfl (fun h => ?_) (fun h => ?_)
      · rw [hT, show i = n by omega]
        exact kk
      · have h := xN (xc_ge _ _) h
        rw [hzT, i32_to (by omega), i32_to (by omega)] at h
        omega
    | succ m ih =>
      intro i hi
      obtain ⟨T, hT⟩ : ∃ T, T = (wr s 73 0 i (fun p => itf (wms (fun d => WG d p q)) D 0)) := ⟨_, rfl⟩
      rw [← hT]
      have hk : ∀ k, k ≠ 73 → T k = s k := fun k q => by rw [hT]; exact wr_ne q
      have hzT : T 52 0 = Int32.ofNat n := (congrFun (hk 52 (by decide)) 0).trans hz
      have hdT : T 52 1 = Int32.ofNat D := (congrFun (hk 52 (by decide)) 1).trans hd
      refine yp_run 3 (pc' := 23) (lv' := [(0, .ref 52), (1, .int g), (2, .int r), (3, .int b), (4, .int (Int32.ofNat q)), (5, .int (Int32.ofNat i))]) (st' := [.int (T 52 0), .int (Int32.ofNat i)]) (s' := T) rfl ?_
      refine yp_icmp rfl rfl (fun h => ?_) (fun h => ?_)
      · have h := xT (xc_ge _ _) h
        rw [hzT, i32_to (by omega), i32_to (by omega)] at h
        omega
      · refine yp_run 4 (pc' := 32) (lv' := [(0, .ref 52), (1, .int g), (2, .int r), (3, .int b), (4, .int (Int32.ofNat q)), (5, .int (Int32.ofNat i)), (6, .int 0), (7, .int 0)]) (st' := []) (s' := T) rfl ?_
        refine lz_wm (a0 := 0) (WG := (fun d => WG d i q)) (by decide) (by omega) hq hD hdT (fun d hd9 => (congrFun (hk 67 (by decide)) _).trans (hG d i hd9 (by omega))) ?_ D 0 (Nat.zero_add _)
        refine yp_run 4 (pc' := 76) (lv' := [(0, .ref 52), (1, .int g), (2, .int r), (3, .int b), (4, .int (Int32.ofNat q)), (5, .int (Int32.ofNat i)), (6, .int (itf (wms (fun d => WG d i q)) D 0)), (7, .int (Int32.ofNat D))]) (st' := [.int (itf (wms (fun d => WG d i q)) D 0), .int (Int32.ofNat i), .ref 72]) (s' := T) rfl ?_
        refine yp_vi rfl rfl rfl rfl (c_rset rfl ?_)
        refine yp_run 2 (pc' := 17) (lv' := [(0, .ref 52), (1, .int g), (2, .int r), (3, .int b), (4, .int (Int32.ofNat q)), (5, .int ((Int32.ofNat i) + 1)), (6, .int (itf (wms (fun d => WG d i q)) D 0)), (7, .int (Int32.ofNat D))]) (st' := []) (s' := (rset T 72 (Int32.ofNat i) (itf (wms (fun d => WG d i q)) D 0))) rfl ?_
        have e9 : (rset T 72 (Int32.ofNat i) (itf (wms (fun d => WG d i q)) D 0)) = (wr s 73 0 (i + 1) (fun p => itf (wms (fun d => WG d p q)) D 0)) := by
          rw [rset_i (k := 72) (by show i < 8; omega), hT]
          exact wr_s (by omega) (rfl)
        have e8 := ih (i + 1) (by omega)
        rw [e9, i32_s]
        refine yp_sel [0, 1, 2, 3, 4, 5] ?_
        exact e8
def wmk (D : Nat) (WG : Nat → Nat → Nat → Int32) (q p : Nat) : Int32 := itf (wms (fun d => WG d p q)) D 0
/-- the heap behind i rounds -/
def bmSt (s : yS) (S n D r : Nat) (WG : Nat → Nat → Nat → Int32) : Nat → yS
  | 0 => s
  | i + 1 => wr s (S + 21) 0 n (wmk D WG (r + i))
theorem bmSt_ne {s : yS} {S n D r i k : Nat} {WG : Nat → Nat → Nat → Int32} (h : k ≠ S + 21) : bmSt s S n D r WG i k = s k := by
  cases i with
  | zero => rfl
  | succ i => exact wr_ne h
theorem bmSt_s (s : yS) (S n D r i : Nat) (WG : Nat → Nat → Nat → Int32) : wr (bmSt s S n D r WG i) (S + 21) 0 n (wmk D WG (r + i)) = bmSt s S n D r WG (i + 1) := by
  cases i with
  | zero => rfl
  | succ i => exact wr_wr
/-- by the marks of r, r + 1, .. -/
def bmk (n D r : Nat) (WG : Nat → Nat → Nat → Int32) (g : Int32) : Nat → Int32
  | 0 => g
  | i + 1 => hv (bmk n D r WG g i) (wmk D WG (r + i)) n
theorem lz_bo {S n D r : Nat} {g : Int32} {WG : Nat → Nat → Nat → Int32} (hS : yss S) (hn : n ≤ 8) (hD : D ≤ 5) (hr : 1 ≤ r) (hr2 : r ≤ 1000) (hz : s S 0 = Int32.ofNat n) (hd : s S 1 = Int32.ofNat D) (hG : ∀ d p q, d < D → p < n → 1 ≤ q → q ≤ n → s (S + 15) ((d * 8 + p) * 9 + q) = WG d p q)
    (kk : Yp sd 36 97 [(0, .ref S), (1, .int g), (2, .int (Int32.ofNat r)), (3, .int (bmk n D r WG g (n + 1 - r))), (4, .int (Int32.ofNat (r + (n + 1 - r))))] [] (bmSt s S n D r WG (n + 1 - r)) Φ) : ∀ m i : Nat, i + m = n + 1 - r → Yp sd 36 5 [(0, .ref S), (1, .int g), (2, .int (Int32.ofNat r)), (3, .int (bmk n D r WG g i)), (4, .int (Int32.ofNat (r + i)))] [] (bmSt s S n D r WG i) Φ := by
  intro m
  rcases hS with rfl | rfl
  · have hz : s 30 0 = Int32.ofNat n := hz
    have hd : s 30 1 = Int32.ofNat D := hd
    induction m with
    | zero =>
      intro i hi
      obtain ⟨T, hT⟩ : ∃ T, T = bmSt s 30 n D r WG i := ⟨_, rfl⟩
      rw [← hT]
      have hk : ∀ k, k ≠ 51 → T k = s k := fun k q => by rw [hT]; exact bmSt_ne q
      have hzT : T 30 0 = Int32.ofNat n := (congrFun (hk 30 (by decide)) 0).trans hz
      have hdT : T 30 1 = Int32.ofNat D := (congrFun (hk 30 (by decide)) 1).trans hd
      refine yp_run 3 (pc' := 11) (lv' := [(0, .ref 30), (1, .int g), (2, .int (Int32.ofNat r)), (3, .int (bmk n D r WG g i)), (4, .int (Int32.ofNat (r + i)))]) (st' := [.int (T 30 0), .int (Int32.ofNat (r + i))]) (s' := T) rfl ?_
      refine yp_icmp rfl rfl (fun h => ?_) (fun h => ?_)
      · rw [hT, show i = n + 1 - r by omega]
        exact kk
      · have h := xN (xc_gt _ _) h
        rw [hzT, i32_to (by omega), i32_to (by omega)] at h
        omega
    | succ m ih =>
      intro i hi
      obtain ⟨T, hT⟩ : ∃ T, T = bmSt s 30 n D r WG i := ⟨_, rfl⟩
      rw [← hT]
      have hk : ∀ k, k ≠ 51 → T k = s k := fun k q => by rw [hT]; exact bmSt_ne q
      have hzT : T 30 0 = Int32.ofNat n := (congrFun (hk 30 (by decide)) 0).trans hz
      have hdT : T 30 1 = Int32.ofNat D := (congrFun (hk 30 (by decide)) 1).trans hd
      refine yp_run 3 (pc' := 11) (lv' := [(0, .ref 30), (1, .int g), (2, .int (Int32.ofNat r)), (3, .int (bmk n D r WG g i)), (4, .int (Int32.ofNat (r + i)))]) (st' := [.int (T 30 0), .int (Int32.ofNat (r + i))]) (s' := T) rfl ?_
      refine yp_icmp rfl rfl (fun h => ?_) (fun h => ?_)
      · have h := xT (xc_gt _ _) h
        rw [hzT, i32_to (by omega), i32_to (by omega)] at h
        omega
      · refine yp_run 2 (pc' := 17) (lv' := [(0, .ref 30), (1, .int g), (2, .int (Int32.ofNat r)), (3, .int (bmk n D r WG g i)), (4, .int (Int32.ofNat (r + i))), (5, .int 0)]) (st' := []) (s' := T) rfl ?_
        have w1 : Yp sd 36 85 [(0, .ref 30), (1, .int g), (2, .int (Int32.ofNat r)), (3, .int (bmk n D r WG g i)), (4, .int (Int32.ofNat (r + i))), (5, .int (Int32.ofNat n))] [] (wr T 51 0 n (wmk D WG (r + i))) Φ := by
          refine yp_run 2 (pc' := 87) (lv' := [(0, .ref 30), (1, .int g), (2, .int (Int32.ofNat r)), (3, .int (bmk n D r WG g i)), (4, .int (Int32.ofNat (r + i))), (5, .int (Int32.ofNat n))]) (st' := [.int (bmk n D r WG g i), .ref 30]) (s' := (wr T 51 0 n (wmk D WG (r + i)))) rfl ?_
          refine yp_vi rfl rfl rfl rfl (c_heav (W := (wmk D WG (r + i))) (by decide) hn ((congrFun (wr_ne (by decide)) 0).trans hzT) (fun p hp => wr_in (Nat.zero_le _) hp) ?_)
          refine yp_run 3 (pc' := 5) (lv' := [(0, .ref 30), (1, .int g), (2, .int (Int32.ofNat r)), (3, .int (hv (bmk n D r WG g i) (wmk D WG (r + i)) n)), (4, .int ((Int32.ofNat (r + i)) + 1)), (5, .int (Int32.ofNat n))]) (st' := []) (s' := (wr T 51 0 n (wmk D WG (r + i)))) rfl ?_
          have e8 := ih (i + 1) (by omega)
          rw [i32_s, hT, show 51 = 30 + 21 from rfl, bmSt_s]
          refine yp_sel [0, 1, 2, 3, 4] ?_
          exact e8
        have w2 := lz_bm (by decide) hn hD (by omega) hzT hdT (fun d p h1 h2 => (congrFun (hk 45 (by decide)) _).trans (hG d p (r + i) h1 h2 (by omega) (by omega))) w1 n 0 (Nat.zero_add _)
        rw [wr_0] at w2
        exact w2
  · have hz : s 52 0 = Int32.ofNat n := hz
    have hd : s 52 1 = Int32.ofNat D := hd
    induction m with
    | zero =>
      intro i hi
      obtain ⟨T, hT⟩ : ∃ T, T = bmSt s 52 n D r WG i := ⟨_, rfl⟩
      rw [← hT]
      have hk : ∀ k, k ≠ 73 → T k = s k := fun k q => by rw [hT]; exact bmSt_ne q
      have hzT : T 52 0 = Int32.ofNat n := (congrFun (hk 52 (by decide)) 0).trans hz
      have hdT : T 52 1 = Int32.ofNat D := (congrFun (hk 52 (by decide)) 1).trans hd
      refine yp_run 3 (pc' := 11) (lv' := [(0, .ref 52), (1, .int g), (2, .int (Int32.ofNat r)), (3, .int (bmk n D r WG g i)), (4, .int (Int32.ofNat (r + i)))]) (st' := [.int (T 52 0), .int (Int32.ofNat (r + i))]) (s' := T) rfl ?_
      refine yp_icmp rfl rfl (fun h => ?_) (fun h => ?_)
      · rw [hT, show i = n + 1 - r by omega]
        exact kk
      · have h := xN (xc_gt _ _) h
        rw [hzT, i32_to (by omega), i32_to (by omega)] at h
        omega
    | succ m ih =>
      intro i hi
      obtain ⟨T, hT⟩ : ∃ T, T = bmSt s 52 n D r WG i := ⟨_, rfl⟩
      rw [← hT]
      have hk : ∀ k, k ≠ 73 → T k = s k := fun k q => by rw [hT]; exact bmSt_ne q
      have hzT : T 52 0 = Int32.ofNat n := (congrFun (hk 52 (by decide)) 0).trans hz
      have hdT : T 52 1 = Int32.ofNat D := (congrFun (hk 52 (by decide)) 1).trans hd
      refine yp_run 3 (pc' := 11) (lv' := [(0, .ref 52), (1, .int g), (2, .int (Int32.ofNat r)), (3, .int (bmk n D r WG g i)), (4, .int (Int32.ofNat (r + i)))]) (st' := [.int (T 52 0), .int (Int32.ofNat (r + i))]) (s' := T) rfl ?_
      refine yp_icmp rfl rfl (fun h => ?_) (fun h => ?_)
      · have h := xT (xc_gt _ _) h
        rw [hzT, i32_to (by omega), i32_to (by omega)] at h
        omega
      · refine yp_run 2 (pc' := 17) (lv' := [(0, .ref 52), (1, .int g), (2, .int (Int32.ofNat r)), (3, .int (bmk n D r WG g i)), (4, .int (Int32.ofNat (r + i))), (5, .int 0)]) (st' := []) (s' := T) rfl ?_
        have w1 : Yp sd 36 85 [(0, .ref 52), (1, .int g), (2, .int (Int32.ofNat r)), (3, .int (bmk n D r WG g i)), (4, .int (Int32.ofNat (r + i))), (5, .int (Int32.ofNat n))] [] (wr T 73 0 n (wmk D WG (r + i))) Φ := by
          refine yp_run 2 (pc' := 87) (lv' := [(0, .ref 52), (1, .int g), (2, .int (Int32.ofNat r)), (3, .int (bmk n D r WG g i)), (4, .int (Int32.ofNat (r + i))), (5, .int (Int32.ofNat n))]) (st' := [.int (bmk n D r WG g i), .ref 52]) (s' := (wr T 73 0 n (wmk D WG (r + i)))) rfl ?_
          refine yp_vi rfl rfl rfl rfl (c_heav (W := (wmk D WG (r + i))) (by decide) hn ((congrFun (wr_ne (by decide)) 0).trans hzT) (fun p hp => wr_in (Nat.zero_le _) hp) ?_)
          refine yp_run 3 (pc' := 5) (lv' := [(0, .ref 52), (1, .int g), (2, .int (Int32.ofNat r)), (3, .int (hv (bmk n D r WG g i) (wmk D WG (r + i)) n)), (4, .int ((Int32.ofNat (r + i)) + 1)), (5, .int (Int32.ofNat n))]) (st' := []) (s' := (wr T 73 0 n (wmk D WG (r + i)))) rfl ?_
          have e8 := ih (i + 1) (by omega)
          rw [i32_s, hT, show 73 = 52 + 21 from rfl, bmSt_s]
          refine yp_sel [0, 1, 2, 3, 4] ?_
          exact e8
        have w2 := lz_bm (by decide) hn hD (by omega) hzT hdT (fun d p h1 h2 => (congrFun (hk 67 (by decide)) _).trans (hG d p (r + i) h1 h2 (by omega) (by omega))) w1 n 0 (Nat.zero_add _)
        rw [wr_0] at w2
        exact w2
theorem c_bmrk {S n D r : Nat} {g : Int32} {WG : Nat → Nat → Nat → Int32} (hS : yss S) (hn : n ≤ 8) (hD : D ≤ 5) (hr : 1 ≤ r) (hr2 : r ≤ 1000) (hz : s S 0 = Int32.ofNat n) (hd : s S 1 = Int32.ofNat D) (hG : ∀ d p q, d < D → p < n → 1 ≤ q → q ≤ n → s (S + 15) ((d * 8 + p) * 9 + q) = WG d p q)
    (kk : Φ (some (.int (bmk n D r WG g (n + 1 - r)))) (bmSt s S n D r WG (n + 1 - r))) : Yq sd 36 [.ref S, .int g, .int (Int32.ofNat r)] s Φ := by
  refine Yq.of rfl (Nat.le_of_ble_eq_true rfl) ?_
  rcases hS with rfl | rfl
  · have w1 : Yp sd 36 97 [(0, .ref 30), (1, .int g), (2, .int (Int32.ofNat r)), (3, .int (bmk n D r WG g (n + 1 - r))), (4, .int (Int32.ofNat (r + (n + 1 - r))))] [] (bmSt s 30 n D r WG (n + 1 - r)) Φ := by
      refine yp_run 1 (pc' := 98) (lv' := [(0, .ref 30), (1, .int g), (2, .int (Int32.ofNat r)), (3, .int (bmk n D r WG g (n + 1 - r))), (4, .int (Int32.ofNat (r + (n + 1 - r))))]) (st' := [.int (bmk n D r WG g (n + 1 - r))]) (s' := (bmSt s 30 n D r WG (n + 1 - r))) rfl ?_
      refine yp_ri rfl rfl ?_
      exact kk
    have w2 := lz_bo (by decide) hn hD hr hr2 hz hd hG w1 (n + 1 - r) 0 (Nat.zero_add _)
    refine yp_run 4 (pc' := 5) (lv' := [(0, .ref 30), (1, .int g), (2, .int (Int32.ofNat r)), (3, .int g), (4, .int (Int32.ofNat r))]) (st' := []) (s' := s) rfl ?_
    exact w2
  · have w1 : Yp sd 36 97 [(0, .ref 52), (1, .int g), (2, .int (Int32.ofNat r)), (3, .int (bmk n D r WG g (n + 1 - r))), (4, .int (Int32.ofNat (r + (n + 1 - r))))] [] (bmSt s 52 n D r WG (n + 1 - r)) Φ := by
      refine yp_run 1 (pc' := 98) (lv' := [(0, .ref 52), (1, .int g), (2, .int (Int32.ofNat r)), (3, .int (bmk n D r WG g (n + 1 - r))), (4, .int (Int32.ofNat (r + (n + 1 - r))))]) (st' := [.int (bmk n D r WG g (n + 1 - r))]) (s' := (bmSt s 52 n D r WG (n + 1 - r))) rfl ?_
      refine yp_ri rfl rfl ?_
      exact kk
    have w2 := lz_bo (by decide) hn hD hr hr2 hz hd hG w1 (n + 1 - r) 0 (Nat.zero_add _)
    refine yp_run 4 (pc' := 5) (lv' := [(0, .ref 52), (1, .int g), (2, .int (Int32.ofNat r)), (3, .int g), (4, .int (Int32.ofNat r))]) (st' := []) (s' := s) rfl ?_
    exact w2
end YN2
end
section
/-! places are taken -/
section YO
variable {sd : Option (List Int32)} {μ pc : Nat} {lv : xL} {st : List Value} {s : yS} {Φ : Option Value → yS → Prop}
def tkf (s : yS) (k : Nat) (g v : Int32) (p : Nat) : Int32 := bif xcmp .eq (hd g (Int32.ofNat p)) 0 then s k p else v
def tkSt (s : yS) (S : Nat) (g v w : Int32) (i : Nat) : yS := wr (wr s (S + 8) 0 i (tkf s (S + 8) g v)) (S + 10) 0 i (tkf s (S + 10) g w)
theorem tkSt_0 (s : yS) (S : Nat) (g v w : Int32) : tkSt s S g v w 0 = s := by
  unfold tkSt
  rw [wr_0, wr_0]
theorem wr_same {s : yS} {k lo i : Nat} {f : Nat → Int32} (h : lo ≤ i) (hv : f i = s k i) : wr s k lo (i + 1) f = wr s k lo i f := by
  funext a b
  unfold wr
  by_cases h1 : a = k ∧ lo ≤ b ∧ b < i
  · rw [if_pos h1, if_pos ⟨h1.1, h1.2.1, by omega⟩]
  · rw [if_neg h1]
    by_cases h2 : a = k ∧ b = i
    · rw [if_pos ⟨h2.1, by omega, by omega⟩, h2.1, h2.2, hv]
    · rw [if_neg (fun q => by
        by_cases e : b = i
        · exact h2 ⟨q.1, e⟩
        · exact h1 ⟨q.1, q.2.1, by omega⟩)]
theorem tkSt_T {s : yS} {S i : Nat} {g v w : Int32} (h : xcmp .eq (hd g (Int32.ofNat i)) 0 = true) : tkSt s S g v w i = tkSt s S g v w (i + 1) := by
  unfold tkSt
  rw [wr_same (s := s) (Nat.zero_le i) (by unfold tkf; rw [h]; rfl), wr_same (Nat.zero_le i) (by unfold tkf; rw [h, wr_ne (by omega)]; rfl)]
theorem tkSt_N {s : yS} {S i : Nat} {g v w : Int32} (h : xcmp .eq (hd g (Int32.ofNat i)) 0 = false) : yup (yup (tkSt s S g v w i) (S + 8) i v) (S + 10) i w = tkSt s S g v w (i + 1) := by
  unfold tkSt
  rw [yup_wr (by omega), wr_s (Nat.zero_le i) (by unfold tkf; rw [h]; rfl), wr_s (Nat.zero_le i) (by unfold tkf; rw [h]; rfl)]
theorem tkSt_ne {s : yS} {S i k : Nat} {g v w : Int32} (h1 : k ≠ S + 8) (h2 : k ≠ S + 10) : tkSt s S g v w i k = s k := by
  unfold tkSt
  rw [wr_ne h2, wr_ne h1]
theorem lz_tk {S : Nat} {n : Nat} {g v w f : Int32} (hS : yss S) (hn : n ≤ 8) (hz : s S 0 = Int32.ofNat n) (kk : Yp sd 37 58 [(0, .ref S), (1, .int g), (2, .int f), (3, .int w), (4, .int v), (5, .int (Int32.ofNat n))] [] (tkSt s S g v w n) Φ) : ∀ m i : Nat, i + m = n → Yp sd 37 13 [(0, .ref S), (1, .int g), (2, .int f), (3, .int w), (4, .int v), (5, .int (Int32.ofNat i))] [] (tkSt s S g v w i) Φ := by
  intro m
  rcases hS with rfl | rfl
  · have hz : s 30 0 = Int32.ofNat n := hz
    induction m with
    | zero =>
      intro i hi
      obtain ⟨T, hT⟩ : ∃ T, T = (tkSt s 30 g v w i) := ⟨_, rfl⟩
      rw [← hT]
      have hzT : T 30 0 = Int32.ofNat n := by rw [hT]; exact (congrFun (tkSt_ne (by decide) (by decide)) 0).trans hz
      refine yp_run 3 (pc' := 19) (lv' := [(0, .ref 30), (1, .int g), (2, .int f), (3, .int w), (4, .int v), (5, .int (Int32.ofNat i))]) (st' := [.int (T 30 0), .int (Int32.ofNat i)]) (s' := T) rfl ?_
      refine yp_icmp rfl rfl (fun h => ?_) (fun h => ?_)
      · rw [hT, show i = n by omega]
        exact kk
      · have h := xN (xc_ge _ _) h
        rw [hzT, i32_to (by omega), i32_to (by omega)] at h
        omega
    | succ m ih =>
      intro i hi
      obtain ⟨T, hT⟩ : ∃ T, T = (tkSt s 30 g v w i) := ⟨_, rfl⟩
      rw [← hT]
      have hzT : T 30 0 = Int32.ofNat n := by rw [hT]; exact (congrFun (tkSt_ne (by decide) (by decide)) 0).trans hz
      refine yp_run 3 (pc' := 19) (lv' := [(0, .ref 30), (1, .int g), (2, .int f), (3, .int w), (4, .int v), (5, .int (Int32.ofNat i))]) (st' := [.int (T 30 0), .int (Int32.ofNat i)]) (s' := T) rfl ?_
      refine yp_icmp rfl rfl (fun h => ?_) (fun h => ?_)
      · have h := xT (xc_ge _ _) h
        rw [hzT, i32_to (by omega), i32_to (by omega)] at h
        omega
      · refine yp_run 2 (pc' := 25) (lv' := [(0, .ref 30), (1, .int g), (2, .int f), (3, .int w), (4, .int v), (5, .int (Int32.ofNat i))]) (st' := [.int (Int32.ofNat i), .int g]) (s' := T) rfl ?_
        refine yp_sn rfl rfl rfl (c_hold ?_)
        refine yp_if rfl rfl (fun h28 => ?_) (fun h28 => ?_)
        · refine yp_run 2 (pc' := 13) (lv' := [(0, .ref 30), (1, .int g), (2, .int f), (3, .int w), (4, .int v), (5, .int ((Int32.ofNat i) + 1))]) (st' := []) (s' := T) rfl ?_
          have e8 := ih (i + 1) (by omega)
          rw [hT, tkSt_T (s := s) (S := 30) h28]
          rw [i32_s]
          refine yp_sel [0, 1, 2, 3, 4, 5] ?_
          exact e8
        · refine yp_run 4 (pc' := 39) (lv' := [(0, .ref 30), (1, .int g), (2, .int f), (3, .int w), (4, .int v), (5, .int (Int32.ofNat i))]) (st' := [.int v, .int (Int32.ofNat i), .ref 37]) (s' := T) rfl ?_
          refine yp_vi rfl rfl rfl rfl (c_rset rfl ?_)
          refine yp_run 4 (pc' := 49) (lv' := [(0, .ref 30), (1, .int g), (2, .int f), (3, .int w), (4, .int v), (5, .int (Int32.ofNat i))]) (st' := [.int w, .int (Int32.ofNat i), .ref 39]) (s' := (rset T 37 (Int32.ofNat i) v)) rfl ?_
          refine yp_vi rfl rfl rfl rfl (c_rset rfl ?_)
          refine yp_run 2 (pc' := 13) (lv' := [(0, .ref 30), (1, .int g), (2, .int f), (3, .int w), (4, .int v), (5, .int ((Int32.ofNat i) + 1))]) (st' := []) (s' := (rset (rset T 37 (Int32.ofNat i) v) 39 (Int32.ofNat i) w)) rfl ?_
          have e8 := ih (i + 1) (by omega)
          rw [rset_i (k := 37) (by show i < 8; omega), rset_i (k := 39) (by show i < 8; omega), hT]
          have e9 := tkSt_N (s := s) (S := 30) (v := v) (w := w) h28
          rw [← e9] at e8
          rw [i32_s]
          refine yp_sel [0, 1, 2, 3, 4, 5] ?_
          exact e8
  · have hz : s 52 0 = Int32.ofNat n := hz
    induction m with
    | zero =>
      intro i hi
      obtain ⟨T, hT⟩ : ∃ T, T = (tkSt s 52 g v w i) := ⟨_, rfl⟩
      rw [← hT]
      have hzT : T 52 0 = Int32.ofNat n := by rw [hT]; exact (congrFun (tkSt_ne (by decide) (by decide)) 0).trans hz
      refine yp_run 3 (pc' := 19) (lv' := [(0, .ref 52), (1, .int g), (2, .int f), (3, .int w), (4, .int v), (5, .int (Int32.ofNat i))]) (st' := [.int (T 52 0), .int (Int32.ofNat i)]) (s' := T) rfl ?_
      refine yp_icmp rfl rfl (fun h => ?_) (fun h => ?_)
      · rw [hT, show i = n by omega]
        exact kk
      · have h := xN (xc_ge _ _) h
        rw [hzT, i32_to (by omega), i32_to (by omega)] at h
        omega
    | succ m ih =>
      intro i hi
      obtain ⟨T, hT⟩ : ∃ T, T = (tkSt s 52 g v w i) := ⟨_, rfl⟩
      rw [← hT]
      have hzT : T 52 0 = Int32.ofNat n := by rw [hT]; exact (congrFun (tkSt_ne (by decide) (by decide)) 0).trans hz
      refine yp_run 3 (pc' := 19) (lv' := [(0, .ref 52), (1, .int g), (2, .int f), (3, .int w), (4, .int v), (5, .int (Int32.ofNat i))]) (st' := [.int (T 52 0), .int (Int32.ofNat i)]) (s' := T) rfl ?_
      refine yp_icmp rfl rfl (fun h => ?_) (fun h => ?_)
      · have h := xT (xc_ge _ _) h
        rw [hzT, i32_to (by omega), i32_to (by omega)] at h
        omega
      · refine yp_run 2 (pc' := 25) (lv' := [(0, .ref 52), (1, .int g), (2, .int f), (3, .int w), (4, .int v), (5, .int (Int32.ofNat i))]) (st' := [.int (Int32.ofNat i), .int g]) (s' := T) rfl ?_
        refine yp_sn rfl rfl rfl (c_hold ?_)
        refine yp_if rfl rfl (fun h28 => ?_) (fun h28 => ?_)
        · refine yp_run 2 (pc' := 13) (lv' := [(0, .ref 52), (1, .int g), (2, .int f), (3, .int w), (4, .int v), (5, .int ((Int32.ofNat i) + 1))]) (st' := []) (s' := T) rfl ?_
          have e8 := ih (i + 1) (by omega)
          rw [hT, tkSt_T (s := s) (S := 52) h28]
          rw [i32_s]
          refine yp_sel [0, 1, 2, 3, 4, 5] ?_
          exact e8
        · refine yp_run 4 (pc' := 39) (lv' := [(0, .ref 52), (1, .int g), (2, .int f), (3, .int w), (4, .int v), (5, .int (Int32.ofNat i))]) (st' := [.int v, .int (Int32.ofNat i), .ref 59]) (s' := T) rfl ?_
          refine yp_vi rfl rfl rfl rfl (c_rset rfl ?_)
          refine yp_run 4 (pc' := 49) (lv' := [(0, .ref 52), (1, .int g), (2, .int f), (3, .int w), (4, .int v), (5, .int (Int32.ofNat i))]) (st' := [.int w, .int (Int32.ofNat i), .ref 61]) (s' := (rset T 59 (Int32.ofNat i) v)) rfl ?_
          refine yp_vi rfl rfl rfl rfl (c_rset rfl ?_)
          refine yp_run 2 (pc' := 13) (lv' := [(0, .ref 52), (1, .int g), (2, .int f), (3, .int w), (4, .int v), (5, .int ((Int32.ofNat i) + 1))]) (st' := []) (s' := (rset (rset T 59 (Int32.ofNat i) v) 61 (Int32.ofNat i) w)) rfl ?_
          have e8 := ih (i + 1) (by omega)
          rw [rset_i (k := 59) (by show i < 8; omega), rset_i (k := 61) (by show i < 8; omega), hT]
          have e9 := tkSt_N (s := s) (S := 52) (v := v) (w := w) h28
          rw [← e9] at e8
          rw [i32_s]
          refine yp_sel [0, 1, 2, 3, 4, 5] ?_
          exact e8
theorem c_take {S n : Nat} {g f w : Int32} (hS : yss S) (hn : n ≤ 8) (hz : s S 0 = Int32.ofNat n) (kk : Φ none (tkSt s S g (2 * f + bc6 g - 1) w n)) : Yq sd 37 [.ref S, .int g, .int f, .int w] s Φ := by
  refine Yq.of rfl (Nat.le_of_ble_eq_true rfl) ?_
  rcases hS with rfl | rfl
  · have w1 : Yp sd 37 58 [(0, .ref 30), (1, .int g), (2, .int f), (3, .int w), (4, .int (2 * f + (bc6 g) - 1)), (5, .int (Int32.ofNat n))] [] (tkSt s 30 g (2 * f + bc6 g - 1) w n) Φ := by
      refine yp_rv rfl rfl ?_
      exact kk
    have w2 := lz_tk (by decide) hn hz w1 n 0 (Nat.zero_add _)
    rw [tkSt_0] at w2
    refine yp_run 2 (pc' := 2) (lv' := [(0, .ref 30), (1, .int g), (2, .int f), (3, .int w)]) (st' := [.int g, .int f]) (s' := s) rfl ?_
    refine yp_st rfl rfl (c_bits ?_)
    refine yp_sn rfl rfl rfl (c_inH ?_)
    refine yp_run 3 (pc' := 13) (lv' := [(0, .ref 30), (1, .int g), (2, .int f), (3, .int w), (4, .int (2 * f + (bc6 g) - 1)), (5, .int 0)]) (st' := []) (s' := s) rfl ?_
    exact w2
  · have w1 : Yp sd 37 58 [(0, .ref 52), (1, .int g), (2, .int f), (3, .int w), (4, .int (2 * f + (bc6 g) - 1)), (5, .int (Int32.ofNat n))] [] (tkSt s 52 g (2 * f + bc6 g - 1) w n) Φ := by
      refine yp_rv rfl rfl ?_
      exact kk
    have w2 := lz_tk (by decide) hn hz w1 n 0 (Nat.zero_add _)
    rw [tkSt_0] at w2
    refine yp_run 2 (pc' := 2) (lv' := [(0, .ref 52), (1, .int g), (2, .int f), (3, .int w)]) (st' := [.int g, .int f]) (s' := s) rfl ?_
    refine yp_st rfl rfl (c_bits ?_)
    refine yp_sn rfl rfl rfl (c_inH ?_)
    refine yp_run 3 (pc' := 13) (lv' := [(0, .ref 52), (1, .int g), (2, .int f), (3, .int w), (4, .int (2 * f + (bc6 g) - 1)), (5, .int 0)]) (st' := []) (s' := s) rfl ?_
    exact w2
end YO
end
section
/-! places over all -/
section YP2
variable {sd : Option (List Int32)} {μ pc : Nat} {lv : xL} {st : List Value} {s : yS} {Φ : Option Value → yS → Prop}
theorem and63 (x : Int32) : 0 ≤ (x &&& 63).toInt ∧ (x &&& 63).toInt ≤ 63 := by
  have h1 : (x &&& 63).toBitVec.toNat ≤ 63 := by
    have h2 : (x &&& 63).toBitVec.toNat = x.toBitVec.toNat &&& 63 := by
      rw [Int32.toBitVec_and, BitVec.toNat_and]
      rfl
    rw [h2]
    exact Nat.and_le_right
  have h3 : (x &&& 63).toInt = (x &&& 63).toBitVec.toInt := rfl
  rw [h3, BitVec.toInt_eq_toNat_of_lt (by omega)]
  omega
def bcN (g : Int32) : Nat := (bc6 g).toInt.toNat
theorem bcN_le (g : Int32) : bcN g ≤ 63 := by
  have := and63 (bc5 g)
  unfold bcN bc6
  omega
theorem bcN_ok (g : Int32) : bc6 g = Int32.ofNat (bcN g) := by
  have h := and63 (bc5 g)
  have h2 := bcN_le g
  apply Int32.toInt_inj.mp
  rw [i32_to (by omega)]
  unfold bcN bc6
  unfold bcN bc6 at h2
  omega
def pos (n D : Nat) (TT : Nat → Int32) (PL : Nat → Nat → Int32) (WG : Nat → Nat → Nat → Int32) (nx : Nat) (a : Int32 × Int32) : Int32 × Int32 × Int32 × Int32 := (bif xcmp .le (bc6 (hv a.1 (fun p => -TT p) n)) 1 then (bif xcmp .ne ((hv a.1 (fun p => -TT p) n) &&& a.2) 0 then (bif xcmp .le (bc6 (hv (hv a.1 (fun p => -TT p) n) (wpl D PL (Int32.ofNat nx)) n)) 1 then ((a.1 &&& ((hv (hv a.1 (fun p => -TT p) n) (wpl D PL (Int32.ofNat nx)) n) ^^^ (-1))), a.2, (hv (hv a.1 (fun p => -TT p) n) (wpl D PL (Int32.ofNat nx)) n), 10) else (bif xcmp .le (bc6 (bmk n D nx WG (hv (hv a.1 (fun p => -TT p) n) (wpl D PL (Int32.ofNat nx)) n) (n + 1 - nx))) 1 then ((a.1 &&& ((bmk n D nx WG (hv (hv a.1 (fun p => -TT p) n) (wpl D PL (Int32.ofNat nx)) n) (n + 1 - nx)) ^^^ (-1))), a.2, (bmk n D nx WG (hv (hv a.1 (fun p => -TT p) n) (wpl D PL (Int32.ofNat nx)) n) (n + 1 - nx)), 11) else ((a.1 &&& ((bmk n D nx WG (hv (hv a.1 (fun p => -TT p) n) (wpl D PL (Int32.ofNat nx)) n) (n + 1 - nx)) ^^^ (-1))), a.2, (bmk n D nx WG (hv (hv a.1 (fun p => -TT p) n) (wpl D PL (Int32.ofNat nx)) n) (n + 1 - nx)), 12))) else (bif xcmp .le (bc6 (hv (hv a.1 (fun p => -TT p) n) (wpl D PL (Int32.ofNat nx)) n)) 1 then ((a.1 &&& ((hv (hv a.1 (fun p => -TT p) n) (wpl D PL (Int32.ofNat nx)) n) ^^^ (-1))), a.2, (hv (hv a.1 (fun p => -TT p) n) (wpl D PL (Int32.ofNat nx)) n), 9) else (bif xcmp .le (bc6 (bmk n D nx WG (hv (hv a.1 (fun p => -TT p) n) (wpl D PL (Int32.ofNat nx)) n) (n + 1 - nx))) 1 then ((a.1 &&& ((bmk n D nx WG (hv (hv a.1 (fun p => -TT p) n) (wpl D PL (Int32.ofNat nx)) n) (n + 1 - nx)) ^^^ (-1))), a.2, (bmk n D nx WG (hv (hv a.1 (fun p => -TT p) n) (wpl D PL (Int32.ofNat nx)) n) (n + 1 - nx)), 11) else ((a.1 &&& ((bmk n D nx WG (hv (hv a.1 (fun p => -TT p) n) (wpl D PL (Int32.ofNat nx)) n) (n + 1 - nx)) ^^^ (-1))), a.2, (bmk n D nx WG (hv (hv a.1 (fun p => -TT p) n) (wpl D PL (Int32.ofNat nx)) n) (n + 1 - nx)), 12)))) else (bif xcmp .ne ((hv a.1 (fun p => -TT p) n) &&& (a.2 ||| (hv a.1 (fun p => -TT p) n))) 0 then (bif xcmp .le (bc6 (hv (hv a.1 (fun p => -TT p) n) (wpl D PL (Int32.ofNat nx)) n)) 1 then ((a.1 &&& ((hv (hv a.1 (fun p => -TT p) n) (wpl D PL (Int32.ofNat nx)) n) ^^^ (-1))), (a.2 ||| (hv a.1 (fun p => -TT p) n)), (hv (hv a.1 (fun p => -TT p) n) (wpl D PL (Int32.ofNat nx)) n), 10) else (bif xcmp .le (bc6 (bmk n D nx WG (hv (hv a.1 (fun p => -TT p) n) (wpl D PL (Int32.ofNat nx)) n) (n + 1 - nx))) 1 then ((a.1 &&& ((bmk n D nx WG (hv (hv a.1 (fun p => -TT p) n) (wpl D PL (Int32.ofNat nx)) n) (n + 1 - nx)) ^^^ (-1))), (a.2 ||| (hv a.1 (fun p => -TT p) n)), (bmk n D nx WG (hv (hv a.1 (fun p => -TT p) n) (wpl D PL (Int32.ofNat nx)) n) (n + 1 - nx)), 11) else ((a.1 &&& ((bmk n D nx WG (hv (hv a.1 (fun p => -TT p) n) (wpl D PL (Int32.ofNat nx)) n) (n + 1 - nx)) ^^^ (-1))), (a.2 ||| (hv a.1 (fun p => -TT p) n)), (bmk n D nx WG (hv (hv a.1 (fun p => -TT p) n) (wpl D PL (Int32.ofNat nx)) n) (n + 1 - nx)), 12))) else (bif xcmp .le (bc6 (hv (hv a.1 (fun p => -TT p) n) (wpl D PL (Int32.ofNat nx)) n)) 1 then ((a.1 &&& ((hv (hv a.1 (fun p => -TT p) n) (wpl D PL (Int32.ofNat nx)) n) ^^^ (-1))), (a.2 ||| (hv a.1 (fun p => -TT p) n)), (hv (hv a.1 (fun p => -TT p) n) (wpl D PL (Int32.ofNat nx)) n), 9) else (bif xcmp .le (bc6 (bmk n D nx WG (hv (hv a.1 (fun p => -TT p) n) (wpl D PL (Int32.ofNat nx)) n) (n + 1 - nx))) 1 then ((a.1 &&& ((bmk n D nx WG (hv (hv a.1 (fun p => -TT p) n) (wpl D PL (Int32.ofNat nx)) n) (n + 1 - nx)) ^^^ (-1))), (a.2 ||| (hv a.1 (fun p => -TT p) n)), (bmk n D nx WG (hv (hv a.1 (fun p => -TT p) n) (wpl D PL (Int32.ofNat nx)) n) (n + 1 - nx)), 11) else ((a.1 &&& ((bmk n D nx WG (hv (hv a.1 (fun p => -TT p) n) (wpl D PL (Int32.ofNat nx)) n) (n + 1 - nx)) ^^^ (-1))), (a.2 ||| (hv a.1 (fun p => -TT p) n)), (bmk n D nx WG (hv (hv a.1 (fun p => -TT p) n) (wpl D PL (Int32.ofNat nx)) n) (n + 1 - nx)), 12)))))
theorem pos_eq (n D : Nat) (TT : Nat → Int32) (PL : Nat → Nat → Int32) (WG : Nat → Nat → Nat → Int32) (nx : Nat) (a : Int32 × Int32) : pos n D TT PL WG nx a = (bif xcmp .le (bc6 (hv a.1 (fun p => -TT p) n)) 1 then (bif xcmp .ne ((hv a.1 (fun p => -TT p) n) &&& a.2) 0 then (bif xcmp .le (bc6 (hv (hv a.1 (fun p => -TT p) n) (wpl D PL (Int32.ofNat nx)) n)) 1 then ((a.1 &&& ((hv (hv a.1 (fun p => -TT p) n) (wpl D PL (Int32.ofNat nx)) n) ^^^ (-1))), a.2, (hv (hv a.1 (fun p => -TT p) n) (wpl D PL (Int32.ofNat nx)) n), 10) else (bif xcmp .le (bc6 (bmk n D nx WG (hv (hv a.1 (fun p => -TT p) n) (wpl D PL (Int32.ofNat nx)) n) (n + 1 - nx))) 1 then ((a.1 &&& ((bmk n D nx WG (hv (hv a.1 (fun p => -TT p) n) (wpl D PL (Int32.ofNat nx)) n) (n + 1 - nx)) ^^^ (-1))), a.2, (bmk n D nx WG (hv (hv a.1 (fun p => -TT p) n) (wpl D PL (Int32.ofNat nx)) n) (n + 1 - nx)), 11) else ((a.1 &&& ((bmk n D nx WG (hv (hv a.1 (fun p => -TT p) n) (wpl D PL (Int32.ofNat nx)) n) (n + 1 - nx)) ^^^ (-1))), a.2, (bmk n D nx WG (hv (hv a.1 (fun p => -TT p) n) (wpl D PL (Int32.ofNat nx)) n) (n + 1 - nx)), 12))) else (bif xcmp .le (bc6 (hv (hv a.1 (fun p => -TT p) n) (wpl D PL (Int32.ofNat nx)) n)) 1 then ((a.1 &&& ((hv (hv a.1 (fun p => -TT p) n) (wpl D PL (Int32.ofNat nx)) n) ^^^ (-1))), a.2, (hv (hv a.1 (fun p => -TT p) n) (wpl D PL (Int32.ofNat nx)) n), 9) else (bif xcmp .le (bc6 (bmk n D nx WG (hv (hv a.1 (fun p => -TT p) n) (wpl D PL (Int32.ofNat nx)) n) (n + 1 - nx))) 1 then ((a.1 &&& ((bmk n D nx WG (hv (hv a.1 (fun p => -TT p) n) (wpl D PL (Int32.ofNat nx)) n) (n + 1 - nx)) ^^^ (-1))), a.2, (bmk n D nx WG (hv (hv a.1 (fun p => -TT p) n) (wpl D PL (Int32.ofNat nx)) n) (n + 1 - nx)), 11) else ((a.1 &&& ((bmk n D nx WG (hv (hv a.1 (fun p => -TT p) n) (wpl D PL (Int32.ofNat nx)) n) (n + 1 - nx)) ^^^ (-1))), a.2, (bmk n D nx WG (hv (hv a.1 (fun p => -TT p) n) (wpl D PL (Int32.ofNat nx)) n) (n + 1 - nx)), 12)))) else (bif xcmp .ne ((hv a.1 (fun p => -TT p) n) &&& (a.2 ||| (hv a.1 (fun p => -TT p) n))) 0 then (bif xcmp .le (bc6 (hv (hv a.1 (fun p => -TT p) n) (wpl D PL (Int32.ofNat nx)) n)) 1 then ((a.1 &&& ((hv (hv a.1 (fun p => -TT p) n) (wpl D PL (Int32.ofNat nx)) n) ^^^ (-1))), (a.2 ||| (hv a.1 (fun p => -TT p) n)), (hv (hv a.1 (fun p => -TT p) n) (wpl D PL (Int32.ofNat nx)) n), 10) else (bif xcmp .le (bc6 (bmk n D nx WG (hv (hv a.1 (fun p => -TT p) n) (wpl D PL (Int32.ofNat nx)) n) (n + 1 - nx))) 1 then ((a.1 &&& ((bmk n D nx WG (hv (hv a.1 (fun p => -TT p) n) (wpl D PL (Int32.ofNat nx)) n) (n + 1 - nx)) ^^^ (-1))), (a.2 ||| (hv a.1 (fun p => -TT p) n)), (bmk n D nx WG (hv (hv a.1 (fun p => -TT p) n) (wpl D PL (Int32.ofNat nx)) n) (n + 1 - nx)), 11) else ((a.1 &&& ((bmk n D nx WG (hv (hv a.1 (fun p => -TT p) n) (wpl D PL (Int32.ofNat nx)) n) (n + 1 - nx)) ^^^ (-1))), (a.2 ||| (hv a.1 (fun p => -TT p) n)), (bmk n D nx WG (hv (hv a.1 (fun p => -TT p) n) (wpl D PL (Int32.ofNat nx)) n) (n + 1 - nx)), 12))) else (bif xcmp .le (bc6 (hv (hv a.1 (fun p => -TT p) n) (wpl D PL (Int32.ofNat nx)) n)) 1 then ((a.1 &&& ((hv (hv a.1 (fun p => -TT p) n) (wpl D PL (Int32.ofNat nx)) n) ^^^ (-1))), (a.2 ||| (hv a.1 (fun p => -TT p) n)), (hv (hv a.1 (fun p => -TT p) n) (wpl D PL (Int32.ofNat nx)) n), 9) else (bif xcmp .le (bc6 (bmk n D nx WG (hv (hv a.1 (fun p => -TT p) n) (wpl D PL (Int32.ofNat nx)) n) (n + 1 - nx))) 1 then ((a.1 &&& ((bmk n D nx WG (hv (hv a.1 (fun p => -TT p) n) (wpl D PL (Int32.ofNat nx)) n) (n + 1 - nx)) ^^^ (-1))), (a.2 ||| (hv a.1 (fun p => -TT p) n)), (bmk n D nx WG (hv (hv a.1 (fun p => -TT p) n) (wpl D PL (Int32.ofNat nx)) n) (n + 1 - nx)), 11) else ((a.1 &&& ((bmk n D nx WG (hv (hv a.1 (fun p => -TT p) n) (wpl D PL (Int32.ofNat nx)) n) (n + 1 - nx)) ^^^ (-1))), (a.2 ||| (hv a.1 (fun p => -TT p) n)), (bmk n D nx WG (hv (hv a.1 (fun p => -TT p) n) (wpl D PL (Int32.ofNat nx)) n) (n + 1 - nx)), 12))))) := rfl
/-- the places of some are given -/
def poE (g v : Int32) (E : Nat → Int32) (p : Nat) : Int32 := bif xcmp .eq (hd g (Int32.ofNat p)) 0 then E p else v
def poR (n D : Nat) (TT : Nat → Int32) (PL : Nat → Nat → Int32) (WG : Nat → Nat → Nat → Int32) : Nat → Nat → Int32 × Int32 → (Nat → Int32) × (Nat → Int32) → (Nat → Int32) × (Nat → Int32)
  | 0, _, _, e => e
  | m + 1, nx, a, e => bif xcmp .eq a.1 0 then e else
    poR n D TT PL WG m (nx + bcN (pos n D TT PL WG nx a).2.2.1) ((pos n D TT PL WG nx a).1, (pos n D TT PL WG nx a).2.1) (poE (pos n D TT PL WG nx a).2.2.1 (2 * Int32.ofNat nx + bc6 (pos n D TT PL WG nx a).2.2.1 - 1) e.1, poE (pos n D TT PL WG nx a).2.2.1 (pos n D TT PL WG nx a).2.2.2 e.2)
theorem poR_0 {n D : Nat} {TT : Nat → Int32} {PL : Nat → Nat → Int32} {WG : Nat → Nat → Nat → Int32} {m nx : Nat} {l t : Int32} {e : (Nat → Int32) × (Nat → Int32)} (hl : xcmp .eq l 0 = true) : poR n D TT PL WG m nx (l, t) e = e := by
  cases m with
  | zero => rfl
  | succ m =>
    show (bif xcmp .eq l 0 then e else _) = e
    rw [hl]
    rfl
theorem poR_s {n D : Nat} {TT : Nat → Int32} {PL : Nat → Nat → Int32} {WG : Nat → Nat → Nat → Int32} {m nx : Nat} {l t : Int32} {e : (Nat → Int32) × (Nat → Int32)} (hl : xcmp .eq l 0 = false) : poR n D TT PL WG (m + 1) nx (l, t) e = poR n D TT PL WG m (nx + bcN (pos n D TT PL WG nx (l, t)).2.2.1) ((pos n D TT PL WG nx (l, t)).1, (pos n D TT PL WG nx (l, t)).2.1) (poE (pos n D TT PL WG nx (l, t)).2.2.1 (2 * Int32.ofNat nx + bc6 (pos n D TT PL WG nx (l, t)).2.2.1 - 1) e.1, poE (pos n D TT PL WG nx (l, t)).2.2.1 (pos n D TT PL WG nx (l, t)).2.2.2 e.2) := by
  show (bif xcmp .eq l 0 then e else _) = _
  rw [hl]
  rfl
theorem lz_po {S n D : Nat} {TT : Nat → Int32} {PL : Nat → Nat → Int32} {WG : Nat → Nat → Nat → Int32} (hS : yss S) (hn : n ≤ 8) (hD : D ≤ 5) (hz : s S 0 = Int32.ofNat n) (hD1 : s S 1 = Int32.ofNat D) (hTT : ∀ p, p < n → s (S + 6) p = TT p) (hPL : ∀ d p, d < D → p < n → s (S + 2) (d * 8 + p) = PL d p) (hWG : ∀ d p q, d < D → p < n → 1 ≤ q → q ≤ n → s (S + 15) ((d * 8 + p) * 9 + q) = WG d p q) :
    ∀ (m i nx : Nat) (l t : Int32) (E R : Nat → Int32) (T : yS), i + m = n → 1 ≤ nx → nx ≤ 1 + 63 * i → (∀ k, k ≠ S + 8 → k ≠ S + 10 → k ≠ S + 21 → T k = s k) → (∀ p, p < n → T (S + 8) p = E p) → (∀ p, p < n → T (S + 10) p = R p) →
    (∀ T' : yS, (∀ k, k ≠ S + 8 → k ≠ S + 10 → k ≠ S + 21 → T' k = s k) → (∀ p, p < n → T' (S + 8) p = (poR n D TT PL WG m nx (l, t) (E, R)).1 p) → (∀ p, p < n → T' (S + 10) p = (poR n D TT PL WG m nx (l, t) (E, R)).2 p) → Φ none T') →
    Yp sd 31 16 [(0, .ref S), (1, .int l), (2, .int t), (3, .int (Int32.ofNat nx)), (4, .int (Int32.ofNat i))] [] T Φ := by
  rcases hS with rfl | rfl
  · have hz : s 30 0 = Int32.ofNat n := hz
    have hD1 : s 30 1 = Int32.ofNat D := hD1
    intro m
    induction m with
    | zero =>
      intro i nx l t E R T hi h1x h2x fr hE hR kk
      have hzT : T 30 0 = Int32.ofNat n := (congrFun (fr _ (by decide) (by decide) (by decide)) 0).trans hz
      refine yp_run 3 (pc' := 22) (lv' := [(0, .ref 30), (1, .int l), (2, .int t), (3, .int (Int32.ofNat nx)), (4, .int (Int32.ofNat i))]) (st' := [.int (T 30 0), .int (Int32.ofNat i)]) (s' := T) rfl ?_
      refine yp_icmp rfl rfl (fun h => ?_) (fun h => ?_)
      · refine yp_sel [] ?_
        refine yp_rv rfl rfl ?_
        exact kk T fr hE hR
      · have h := xN (xc_ge _ _) h
        rw [hzT, i32_to (by omega), i32_to (by omega)] at h
        omega
    | succ m ih =>
      intro i nx l t E R T hi h1x h2x fr hE hR kk
      have hzT : T 30 0 = Int32.ofNat n := (congrFun (fr _ (by decide) (by decide) (by decide)) 0).trans hz
      refine yp_run 3 (pc' := 22) (lv' := [(0, .ref 30), (1, .int l), (2, .int t), (3, .int (Int32.ofNat nx)), (4, .int (Int32.ofNat i))]) (st' := [.int (T 30 0), .int (Int32.ofNat i)]) (s' := T) rfl ?_
      refine yp_icmp rfl rfl (fun h => ?_) (fun h => ?_)
      · have h := xT (xc_ge _ _) h
        rw [hzT, i32_to (by omega), i32_to (by omega)] at h
        omega
      · refine yp_run 1 (pc' := 26) (lv' := [(0, .ref 30), (1, .int l), (2, .int t), (3, .int (Int32.ofNat nx)), (4, .int (Int32.ofNat i))]) (st' := [.int l]) (s' := T) rfl ?_
        refine yp_if rfl rfl (fun h26 => ?_) (fun h26 => ?_)
        · refine yp_sel [] ?_
          refine yp_rv rfl rfl ?_
          exact kk T fr (fun p hp => by rw [poR_0 h26]; exact hE p hp) (fun p hp => by rw [poR_0 h26]; exact hR p hp)
        · refine yp_run 2 (pc' := 31) (lv' := [(0, .ref 30), (1, .int l), (2, .int t), (3, .int (Int32.ofNat nx)), (4, .int (Int32.ofNat i))]) (st' := [.int l, .ref 30]) (s' := T) rfl ?_
          have u0 : T 30 0 = Int32.ofNat n := (congrFun (fr _ (by decide) (by decide) (by decide)) 0).trans hz
          have u1 : T 30 1 = Int32.ofNat D := (congrFun (fr _ (by decide) (by decide) (by decide)) 1).trans hD1
          refine yp_vi rfl rfl rfl rfl (c_btot (TT := TT) (by decide) hn u0 (fun p hp => (congrFun (fr _ (by decide) (by decide) (by decide)) p).trans (hTT p hp)) ?_)
          obtain ⟨T1, hT1⟩ : ∃ X, X = wr T 51 0 n (fun p => -TT p) := ⟨_, rfl⟩
          rw [← hT1]
          have f1 : ∀ k, k ≠ 51 → T1 k = T k := fun k q => by rw [hT1]; exact wr_ne q
          refine yp_run 2 (pc' := 38) (lv' := [(0, .ref 30), (1, .int l), (2, .int t), (3, .int (Int32.ofNat nx)), (4, .int (Int32.ofNat i)), (5, .int (hv l (fun p => -TT p) n))]) (st' := [.int (hv l (fun p => -TT p) n)]) (s' := T1) rfl ?_
          refine yp_st rfl rfl (c_bits ?_)
          refine yp_run 1 (pc' := 42) (lv' := [(0, .ref 30), (1, .int l), (2, .int t), (3, .int (Int32.ofNat nx)), (4, .int (Int32.ofNat i)), (5, .int (hv l (fun p => -TT p) n))]) (st' := [.int 1, .int (bc6 (hv l (fun p => -TT p) n))]) (s' := T1) rfl ?_
          refine yp_icmp rfl rfl (fun h42 => ?_) (fun h42 => ?_)
          · refine yp_run 3 (pc' := 54) (lv' := [(0, .ref 30), (1, .int l), (2, .int t), (3, .int (Int32.ofNat nx)), (4, .int (Int32.ofNat i)), (5, .int (hv l (fun p => -TT p) n))]) (st' := [.int ((hv l (fun p => -TT p) n) &&& t)]) (s' := T1) rfl ?_
            refine yp_if rfl rfl (fun h54 => ?_) (fun h54 => ?_)
            · refine yp_run 5 (pc' := 70) (lv' := [(0, .ref 30), (1, .int l), (2, .int t), (3, .int (Int32.ofNat nx)), (4, .int (Int32.ofNat i)), (5, .int (hv l (fun p => -TT p) n)), (6, .int 10)]) (st' := [.int (Int32.ofNat nx), .int (hv l (fun p => -TT p) n), .ref 30]) (s' := T1) rfl ?_
              have v0 : T1 30 0 = Int32.ofNat n := (congrFun (f1 _ (by decide)) 0).trans u0
              have v1 : T1 30 1 = Int32.ofNat D := (congrFun (f1 _ (by decide)) 1).trans u1
              refine yp_vi rfl rfl rfl rfl (c_bplc (PL := PL) (by decide) hn hD v0 v1 (fun d p h1 h2 => (congrFun ((f1 _ (by decide)).trans (fr _ (by decide) (by decide) (by decide))) _).trans (hPL d p h1 h2)) ?_)
              obtain ⟨T2, hT2⟩ : ∃ X, X = wr T1 51 0 n (wpl D PL (Int32.ofNat nx)) := ⟨_, rfl⟩
              rw [← hT2]
              have f2 : ∀ k, k ≠ 51 → T2 k = T k := fun k q => by rw [hT2]; exact (wr_ne q).trans (f1 k q)
              refine yp_run 2 (pc' := 77) (lv' := [(0, .ref 30), (1, .int l), (2, .int t), (3, .int (Int32.ofNat nx)), (4, .int (Int32.ofNat i)), (5, .int (hv (hv l (fun p => -TT p) n) (wpl D PL (Int32.ofNat nx)) n)), (6, .int 10)]) (st' := [.int (hv (hv l (fun p => -TT p) n) (wpl D PL (Int32.ofNat nx)) n)]) (s' := T2) rfl ?_
              refine yp_st rfl rfl (c_bits ?_)
              refine yp_run 1 (pc' := 81) (lv' := [(0, .ref 30), (1, .int l), (2, .int t), (3, .int (Int32.ofNat nx)), (4, .int (Int32.ofNat i)), (5, .int (hv (hv l (fun p => -TT p) n) (wpl D PL (Int32.ofNat nx)) n)), (6, .int 10)]) (st' := [.int 1, .int (bc6 (hv (hv l (fun p => -TT p) n) (wpl D PL (Int32.ofNat nx)) n))]) (s' := T2) rfl ?_
              refine yp_icmp rfl rfl (fun h81 => ?_) (fun h81 => ?_)
              · refine yp_run 4 (pc' := 117) (lv' := [(0, .ref 30), (1, .int l), (2, .int t), (3, .int (Int32.ofNat nx)), (4, .int (Int32.ofNat i)), (5, .int (hv (hv l (fun p => -TT p) n) (wpl D PL (Int32.ofNat nx)) n)), (6, .int 10)]) (st' := [.int 10, .int (Int32.ofNat nx), .int (hv (hv l (fun p => -TT p) n) (wpl D PL (Int32.ofNat nx)) n), .ref 30]) (s' := T2) rfl ?_
                have y0 : T2 30 0 = Int32.ofNat n := (congrFun (f2 _ (by decide)) 0).trans u0
                refine yp_vi rfl rfl rfl rfl (c_take (w := 10) (by decide) hn y0 ?_)
                obtain ⟨T4, hT4⟩ : ∃ X, X = tkSt T2 30 (hv (hv l (fun p => -TT p) n) (wpl D PL (Int32.ofNat nx)) n) (2 * (Int32.ofNat nx) + bc6 (hv (hv l (fun p => -TT p) n) (wpl D PL (Int32.ofNat nx)) n) - 1) 10 n := ⟨_, rfl⟩
                rw [← hT4]
                have g4 : ∀ k, k ≠ 38 → k ≠ 40 → k ≠ 51 → T4 k = s k := fun k a b c => by rw [hT4]; exact (tkSt_ne a b).trans ((f2 k c).trans (fr k a b c))
                have gE : ∀ p, p < n → T4 38 p = bif xcmp .eq (hd (hv (hv l (fun p => -TT p) n) (wpl D PL (Int32.ofNat nx)) n) (Int32.ofNat p)) 0 then E p else 2 * Int32.ofNat nx + bc6 (hv (hv l (fun p => -TT p) n) (wpl D PL (Int32.ofNat nx)) n) - 1 := fun p hp => by
                  rw [hT4]
                  unfold tkSt
                  rw [wr_ne (by decide), wr_in (Nat.zero_le _) hp]
                  unfold tkf
                  rw [show T2 (30 + 8) p = E p from (congrFun (f2 _ (by decide)) p).trans (hE p hp)]
                have gR : ∀ p, p < n → T4 40 p = bif xcmp .eq (hd (hv (hv l (fun p => -TT p) n) (wpl D PL (Int32.ofNat nx)) n) (Int32.ofNat p)) 0 then R p else 10 := fun p hp => by
                  rw [hT4]
                  unfold tkSt
                  rw [show 40 = 30 + 10 from rfl, wr_in (Nat.zero_le _) hp]
                  unfold tkf
                  rw [show T2 (30 + 10) p = R p from (congrFun (f2 _ (by decide)) p).trans (hR p hp)]
                refine yp_run 2 (pc' := 123) (lv' := [(0, .ref 30), (1, .int l), (2, .int t), (3, .int (Int32.ofNat nx)), (4, .int (Int32.ofNat i)), (5, .int (hv (hv l (fun p => -TT p) n) (wpl D PL (Int32.ofNat nx)) n)), (6, .int 10)]) (st' := [.int (hv (hv l (fun p => -TT p) n) (wpl D PL (Int32.ofNat nx)) n), .int (Int32.ofNat nx)]) (s' := T4) rfl ?_
                refine yp_st rfl rfl (c_bits ?_)
                refine yp_run 10 (pc' := 16) (lv' := [(0, .ref 30), (1, .int (l &&& ((hv (hv l (fun p => -TT p) n) (wpl D PL (Int32.ofNat nx)) n) ^^^ (-1)))), (2, .int t), (3, .int ((Int32.ofNat nx) + (bc6 (hv (hv l (fun p => -TT p) n) (wpl D PL (Int32.ofNat nx)) n)))), (4, .int ((Int32.ofNat i) + 1)), (5, .int (hv (hv l (fun p => -TT p) n) (wpl D PL (Int32.ofNat nx)) n)), (6, .int 10)]) (st' := []) (s' := T4) rfl ?_
                have e9 : pos n D TT PL WG nx (l, t) = ((l &&& ((hv (hv l (fun p => -TT p) n) (wpl D PL (Int32.ofNat nx)) n) ^^^ (-1))), t, (hv (hv l (fun p => -TT p) n) (wpl D PL (Int32.ofNat nx)) n), 10) := by
                  refine (pos_eq n D TT PL WG nx (l, t)).trans ?_
                  simp only [h42, h54, h81, cond_true, cond_false]
                have e7 := bcN_ok (hv (hv l (fun p => -TT p) n) (wpl D PL (Int32.ofNat nx)) n)
                have e6 := bcN_le (hv (hv l (fun p => -TT p) n) (wpl D PL (Int32.ofNat nx)) n)
                rw [i32_s, show Int32.ofNat nx + bc6 (hv (hv l (fun p => -TT p) n) (wpl D PL (Int32.ofNat nx)) n) = Int32.ofNat (nx + bcN (hv (hv l (fun p => -TT p) n) (wpl D PL (Int32.ofNat nx)) n)) from by rw [e7, Int32.ofNat_add]]
                refine yp_sel [0, 1, 2, 3, 4] ?_
                refine ih (i + 1) (nx + bcN (hv (hv l (fun p => -TT p) n) (wpl D PL (Int32.ofNat nx)) n)) _ _ _ _ T4 (by omega) (by omega) (by omega) g4 gE gR (fun T9 a1 a2 a3 => kk T9 a1 ?_ ?_)
                · intro p hp
                  rw [a2 p hp]
                  refine congrFun (congrArg Prod.fst ?_) p
                  refine Eq.symm ?_
                  refine (poR_s (hl := h26)).trans ?_
                  rw [e9]
                  rfl
                · intro p hp
                  rw [a3 p hp]
                  refine congrFun (congrArg Prod.snd ?_) p
                  refine Eq.symm ?_
                  refine (poR_s (hl := h26)).trans ?_
                  rw [e9]
                  rfl
              · refine yp_run 3 (pc' := 88) (lv' := [(0, .ref 30), (1, .int l), (2, .int t), (3, .int (Int32.ofNat nx)), (4, .int (Int32.ofNat i)), (5, .int (hv (hv l (fun p => -TT p) n) (wpl D PL (Int32.ofNat nx)) n)), (6, .int 10)]) (st' := [.int (Int32.ofNat nx), .int (hv (hv l (fun p => -TT p) n) (wpl D PL (Int32.ofNat nx)) n), .ref 30]) (s' := T2) rfl ?_
                have v0 : T2 30 0 = Int32.ofNat n := (congrFun (f2 _ (by decide)) 0).trans u0
                have v1 : T2 30 1 = Int32.ofNat D := (congrFun (f2 _ (by decide)) 1).trans u1
                refine yp_vi rfl rfl rfl rfl (c_bmrk (WG := WG) (by decide) hn hD h1x (by omega) v0 v1 (fun d p q h1 h2 h3 h4 => (congrFun ((f2 _ (by decide)).trans (fr _ (by decide) (by decide) (by decide))) _).trans (hWG d p q h1 h2 h3 h4)) ?_)
                obtain ⟨T3, hT3⟩ : ∃ X, X = bmSt T2 30 n D nx WG (n + 1 - nx) := ⟨_, rfl⟩
                rw [← hT3]
                have f3 : ∀ k, k ≠ 51 → T3 k = T k := fun k q => by rw [hT3]; exact (bmSt_ne q).trans (f2 k q)
                refine yp_run 2 (pc' := 95) (lv' := [(0, .ref 30), (1, .int l), (2, .int t), (3, .int (Int32.ofNat nx)), (4, .int (Int32.ofNat i)), (5, .int (bmk n D nx WG (hv (hv l (fun p => -TT p) n) (wpl D PL (Int32.ofNat nx)) n) (n + 1 - nx))), (6, .int 10)]) (st' := [.int (bmk n D nx WG (hv (hv l (fun p => -TT p) n) (wpl D PL (Int32.ofNat nx)) n) (n + 1 - nx))]) (s' := T3) rfl ?_
                refine yp_st rfl rfl (c_bits ?_)
                refine yp_run 1 (pc' := 99) (lv' := [(0, .ref 30), (1, .int l), (2, .int t), (3, .int (Int32.ofNat nx)), (4, .int (Int32.ofNat i)), (5, .int (bmk n D nx WG (hv (hv l (fun p => -TT p) n) (wpl D PL (Int32.ofNat nx)) n) (n + 1 - nx))), (6, .int 10)]) (st' := [.int 1, .int (bc6 (bmk n D nx WG (hv (hv l (fun p => -TT p) n) (wpl D PL (Int32.ofNat nx)) n) (n + 1 - nx)))]) (s' := T3) rfl ?_
                refine yp_icmp rfl rfl (fun h99 => ?_) (fun h99 => ?_)
                · refine yp_run 6 (pc' := 117) (lv' := [(0, .ref 30), (1, .int l), (2, .int t), (3, .int (Int32.ofNat nx)), (4, .int (Int32.ofNat i)), (5, .int (bmk n D nx WG (hv (hv l (fun p => -TT p) n) (wpl D PL (Int32.ofNat nx)) n) (n + 1 - nx))), (6, .int 11)]) (st' := [.int 11, .int (Int32.ofNat nx), .int (bmk n D nx WG (hv (hv l (fun p => -TT p) n) (wpl D PL (Int32.ofNat nx)) n) (n + 1 - nx)), .ref 30]) (s' := T3) rfl ?_
                  have y0 : T3 30 0 = Int32.ofNat n := (congrFun (f3 _ (by decide)) 0).trans u0
                  refine yp_vi rfl rfl rfl rfl (c_take (w := 11) (by decide) hn y0 ?_)
                  obtain ⟨T4, hT4⟩ : ∃ X, X = tkSt T3 30 (bmk n D nx WG (hv (hv l (fun p => -TT p) n) (wpl D PL (Int32.ofNat nx)) n) (n + 1 - nx)) (2 * (Int32.ofNat nx) + bc6 (bmk n D nx WG (hv (hv l (fun p => -TT p) n) (wpl D PL (Int32.ofNat nx)) n) (n + 1 - nx)) - 1) 11 n := ⟨_, rfl⟩
                  rw [← hT4]
                  have g4 : ∀ k, k ≠ 38 → k ≠ 40 → k ≠ 51 → T4 k = s k := fun k a b c => by rw [hT4]; exact (tkSt_ne a b).trans ((f3 k c).trans (fr k a b c))
                  have gE : ∀ p, p < n → T4 38 p = bif xcmp .eq (hd (bmk n D nx WG (hv (hv l (fun p => -TT p) n) (wpl D PL (Int32.ofNat nx)) n) (n + 1 - nx)) (Int32.ofNat p)) 0 then E p else 2 * Int32.ofNat nx + bc6 (bmk n D nx WG (hv (hv l (fun p => -TT p) n) (wpl D PL (Int32.ofNat nx)) n) (n + 1 - nx)) - 1 := fun p hp => by
                    rw [hT4]
                    unfold tkSt
                    rw [wr_ne (by decide), wr_in (Nat.zero_le _) hp]
                    unfold tkf
                    rw [show T3 (30 + 8) p = E p from (congrFun (f3 _ (by decide)) p).trans (hE p hp)]
                  have gR : ∀ p, p < n → T4 40 p = bif xcmp .eq (hd (bmk n D nx WG (hv (hv l (fun p => -TT p) n) (wpl D PL (Int32.ofNat nx)) n) (n + 1 - nx)) (Int32.ofNat p)) 0 then R p else 11 := fun p hp => by
                    rw [hT4]
                    unfold tkSt
                    rw [show 40 = 30 + 10 from rfl, wr_in (Nat.zero_le _) hp]
                    unfold tkf
                    rw [show T3 (30 + 10) p = R p from (congrFun (f3 _ (by decide)) p).trans (hR p hp)]
                  refine yp_run 2 (pc' := 123) (lv' := [(0, .ref 30), (1, .int l), (2, .int t), (3, .int (Int32.ofNat nx)), (4, .int (Int32.ofNat i)), (5, .int (bmk n D nx WG (hv (hv l (fun p => -TT p) n) (wpl D PL (Int32.ofNat nx)) n) (n + 1 - nx))), (6, .int 11)]) (st' := [.int (bmk n D nx WG (hv (hv l (fun p => -TT p) n) (wpl D PL (Int32.ofNat nx)) n) (n + 1 - nx)), .int (Int32.ofNat nx)]) (s' := T4) rfl ?_
                  refine yp_st rfl rfl (c_bits ?_)
                  refine yp_run 10 (pc' := 16) (lv' := [(0, .ref 30), (1, .int (l &&& ((bmk n D nx WG (hv (hv l (fun p => -TT p) n) (wpl D PL (Int32.ofNat nx)) n) (n + 1 - nx)) ^^^ (-1)))), (2, .int t), (3, .int ((Int32.ofNat nx) + (bc6 (bmk n D nx WG (hv (hv l (fun p => -TT p) n) (wpl D PL (Int32.ofNat nx)) n) (n + 1 - nx))))), (4, .int ((Int32.ofNat i) + 1)), (5, .int (bmk n D nx WG (hv (hv l (fun p => -TT p) n) (wpl D PL (Int32.ofNat nx)) n) (n + 1 - nx))), (6, .int 11)]) (st' := []) (s' := T4) rfl ?_
                  have e9 : pos n D TT PL WG nx (l, t) = ((l &&& ((bmk n D nx WG (hv (hv l (fun p => -TT p) n) (wpl D PL (Int32.ofNat nx)) n) (n + 1 - nx)) ^^^ (-1))), t, (bmk n D nx WG (hv (hv l (fun p => -TT p) n) (wpl D PL (Int32.ofNat nx)) n) (n + 1 - nx)), 11) := by
                    refine (pos_eq n D TT PL WG nx (l, t)).trans ?_
                    simp only [h42, h54, h81, h99, cond_true, cond_false]
                  have e7 := bcN_ok (bmk n D nx WG (hv (hv l (fun p => -TT p) n) (wpl D PL (Int32.ofNat nx)) n) (n + 1 - nx))
                  have e6 := bcN_le (bmk n D nx WG (hv (hv l (fun p => -TT p) n) (wpl D PL (Int32.ofNat nx)) n) (n + 1 - nx))
                  rw [i32_s, show Int32.ofNat nx + bc6 (bmk n D nx WG (hv (hv l (fun p => -TT p) n) (wpl D PL (Int32.ofNat nx)) n) (n + 1 - nx)) = Int32.ofNat (nx + bcN (bmk n D nx WG (hv (hv l (fun p => -TT p) n) (wpl D PL (Int32.ofNat nx)) n) (n + 1 - nx))) from by rw [e7, Int32.ofNat_add]]
                  refine yp_sel [0, 1, 2, 3, 4] ?_
                  refine ih (i + 1) (nx + bcN (bmk n D nx WG (hv (hv l (fun p => -TT p) n) (wpl D PL (Int32.ofNat nx)) n) (n + 1 - nx))) _ _ _ _ T4 (by omega) (by omega) (by omega) g4 gE gR (fun T9 a1 a2 a3 => kk T9 a1 ?_ ?_)
                  · intro p hp
                    rw [a2 p hp]
                    refine congrFun (congrArg Prod.fst ?_) p
                    refine Eq.symm ?_
                    refine (poR_s (hl := h26)).trans ?_
                    rw [e9]
                    rfl
                  · intro p hp
                    rw [a3 p hp]
                    refine congrFun (congrArg Prod.snd ?_) p
                    refine Eq.symm ?_
                    refine (poR_s (hl := h26)).trans ?_
                    rw [e9]
                    rfl
                · refine yp_run 7 (pc' := 117) (lv' := [(0, .ref 30), (1, .int l), (2, .int t), (3, .int (Int32.ofNat nx)), (4, .int (Int32.ofNat i)), (5, .int (bmk n D nx WG (hv (hv l (fun p => -TT p) n) (wpl D PL (Int32.ofNat nx)) n) (n + 1 - nx))), (6, .int 12)]) (st' := [.int 12, .int (Int32.ofNat nx), .int (bmk n D nx WG (hv (hv l (fun p => -TT p) n) (wpl D PL (Int32.ofNat nx)) n) (n + 1 - nx)), .ref 30]) (s' := T3) rfl ?_
                  have y0 : T3 30 0 = Int32.ofNat n := (congrFun (f3 _ (by decide)) 0).trans u0
                  refine yp_vi rfl rfl rfl rfl (c_take (w := 12) (by decide) hn y0 ?_)
                  obtain ⟨T4, hT4⟩ : ∃ X, X = tkSt T3 30 (bmk n D nx WG (hv (hv l (fun p => -TT p) n) (wpl D PL (Int32.ofNat nx)) n) (n + 1 - nx)) (2 * (Int32.ofNat nx) + bc6 (bmk n D nx WG (hv (hv l (fun p => -TT p) n) (wpl D PL (Int32.ofNat nx)) n) (n + 1 - nx)) - 1) 12 n := ⟨_, rfl⟩
                  rw [← hT4]
                  have g4 : ∀ k, k ≠ 38 → k ≠ 40 → k ≠ 51 → T4 k = s k := fun k a b c => by rw [hT4]; exact (tkSt_ne a b).trans ((f3 k c).trans (fr k a b c))
                  have gE : ∀ p, p < n → T4 38 p = bif xcmp .eq (hd (bmk n D nx WG (hv (hv l (fun p => -TT p) n) (wpl D PL (Int32.ofNat nx)) n) (n + 1 - nx)) (Int32.ofNat p)) 0 then E p else 2 * Int32.ofNat nx + bc6 (bmk n D nx WG (hv (hv l (fun p => -TT p) n) (wpl D PL (Int32.ofNat nx)) n) (n + 1 - nx)) - 1 := fun p hp => by
                    rw [hT4]
                    unfold tkSt
                    rw [wr_ne (by decide), wr_in (Nat.zero_le _) hp]
                    unfold tkf
                    rw [show T3 (30 + 8) p = E p from (congrFun (f3 _ (by decide)) p).trans (hE p hp)]
                  have gR : ∀ p, p < n → T4 40 p = bif xcmp .eq (hd (bmk n D nx WG (hv (hv l (fun p => -TT p) n) (wpl D PL (Int32.ofNat nx)) n) (n + 1 - nx)) (Int32.ofNat p)) 0 then R p else 12 := fun p hp => by
                    rw [hT4]
                    unfold tkSt
                    rw [show 40 = 30 + 10 from rfl, wr_in (Nat.zero_le _) hp]
                    unfold tkf
                    rw [show T3 (30 + 10) p = R p from (congrFun (f3 _ (by decide)) p).trans (hR p hp)]
                  refine yp_run 2 (pc' := 123) (lv' := [(0, .ref 30), (1, .int l), (2, .int t), (3, .int (Int32.ofNat nx)), (4, .int (Int32.ofNat i)), (5, .int (bmk n D nx WG (hv (hv l (fun p => -TT p) n) (wpl D PL (Int32.ofNat nx)) n) (n + 1 - nx))), (6, .int 12)]) (st' := [.int (bmk n D nx WG (hv (hv l (fun p => -TT p) n) (wpl D PL (Int32.ofNat nx)) n) (n + 1 - nx)), .int (Int32.ofNat nx)]) (s' := T4) rfl ?_
                  refine yp_st rfl rfl (c_bits ?_)
                  refine yp_run 10 (pc' := 16) (lv' := [(0, .ref 30), (1, .int (l &&& ((bmk n D nx WG (hv (hv l (fun p => -TT p) n) (wpl D PL (Int32.ofNat nx)) n) (n + 1 - nx)) ^^^ (-1)))), (2, .int t), (3, .int ((Int32.ofNat nx) + (bc6 (bmk n D nx WG (hv (hv l (fun p => -TT p) n) (wpl D PL (Int32.ofNat nx)) n) (n + 1 - nx))))), (4, .int ((Int32.ofNat i) + 1)), (5, .int (bmk n D nx WG (hv (hv l (fun p => -TT p) n) (wpl D PL (Int32.ofNat nx)) n) (n + 1 - nx))), (6, .int 12)]) (st' := []) (s' := T4) rfl ?_
                  have e9 : pos n D TT PL WG nx (l, t) = ((l &&& ((bmk n D nx WG (hv (hv l (fun p => -TT p) n) (wpl D PL (Int32.ofNat nx)) n) (n + 1 - nx)) ^^^ (-1))), t, (bmk n D nx WG (hv (hv l (fun p => -TT p) n) (wpl D PL (Int32.ofNat nx)) n) (n + 1 - nx)), 12) := by
                    refine (pos_eq n D TT PL WG nx (l, t)).trans ?_
                    simp only [h42, h54, h81, h99, cond_true, cond_false]
                  have e7 := bcN_ok (bmk n D nx WG (hv (hv l (fun p => -TT p) n) (wpl D PL (Int32.ofNat nx)) n) (n + 1 - nx))
                  have e6 := bcN_le (bmk n D nx WG (hv (hv l (fun p => -TT p) n) (wpl D PL (Int32.ofNat nx)) n) (n + 1 - nx))
                  rw [i32_s, show Int32.ofNat nx + bc6 (bmk n D nx WG (hv (hv l (fun p => -TT p) n) (wpl D PL (Int32.ofNat nx)) n) (n + 1 - nx)) = Int32.ofNat (nx + bcN (bmk n D nx WG (hv (hv l (fun p => -TT p) n) (wpl D PL (Int32.ofNat nx)) n) (n + 1 - nx))) from by rw [e7, Int32.ofNat_add]]
                  refine yp_sel [0, 1, 2, 3, 4] ?_
                  refine ih (i + 1) (nx + bcN (bmk n D nx WG (hv (hv l (fun p => -TT p) n) (wpl D PL (Int32.ofNat nx)) n) (n + 1 - nx))) _ _ _ _ T4 (by omega) (by omega) (by omega) g4 gE gR (fun T9 a1 a2 a3 => kk T9 a1 ?_ ?_)
                  · intro p hp
                    rw [a2 p hp]
                    refine congrFun (congrArg Prod.fst ?_) p
                    refine Eq.symm ?_
                    refine (poR_s (hl := h26)).trans ?_
                    rw [e9]
                    rfl
                  · intro p hp
                    rw [a3 p hp]
                    refine congrFun (congrArg Prod.snd ?_) p
                    refine Eq.symm ?_
                    refine (poR_s (hl := h26)).trans ?_
                    rw [e9]
                    rfl
            · refine yp_run 6 (pc' := 70) (lv' := [(0, .ref 30), (1, .int l), (2, .int t), (3, .int (Int32.ofNat nx)), (4, .int (Int32.ofNat i)), (5, .int (hv l (fun p => -TT p) n)), (6, .int 9)]) (st' := [.int (Int32.ofNat nx), .int (hv l (fun p => -TT p) n), .ref 30]) (s' := T1) rfl ?_
              have v0 : T1 30 0 = Int32.ofNat n := (congrFun (f1 _ (by decide)) 0).trans u0
              have v1 : T1 30 1 = Int32.ofNat D := (congrFun (f1 _ (by decide)) 1).trans u1
              refine yp_vi rfl rfl rfl rfl (c_bplc (PL := PL) (by decide) hn hD v0 v1 (fun d p h1 h2 => (congrFun ((f1 _ (by decide)).trans (fr _ (by decide) (by decide) (by decide))) _).trans (hPL d p h1 h2)) ?_)
              obtain ⟨T2, hT2⟩ : ∃ X, X = wr T1 51 0 n (wpl D PL (Int32.ofNat nx)) := ⟨_, rfl⟩
              rw [← hT2]
              have f2 : ∀ k, k ≠ 51 → T2 k = T k := fun k q => by rw [hT2]; exact (wr_ne q).trans (f1 k q)
              refine yp_run 2 (pc' := 77) (lv' := [(0, .ref 30), (1, .int l), (2, .int t), (3, .int (Int32.ofNat nx)), (4, .int (Int32.ofNat i)), (5, .int (hv (hv l (fun p => -TT p) n) (wpl D PL (Int32.ofNat nx)) n)), (6, .int 9)]) (st' := [.int (hv (hv l (fun p => -TT p) n) (wpl D PL (Int32.ofNat nx)) n)]) (s' := T2) rfl ?_
              refine yp_st rfl rfl (c_bits ?_)
              refine yp_run 1 (pc' := 81) (lv' := [(0, .ref 30), (1, .int l), (2, .int t), (3, .int (Int32.ofNat nx)), (4, .int (Int32.ofNat i)), (5, .int (hv (hv l (fun p => -TT p) n) (wpl D PL (Int32.ofNat nx)) n)), (6, .int 9)]) (st' := [.int 1, .int (bc6 (hv (hv l (fun p => -TT p) n) (wpl D PL (Int32.ofNat nx)) n))]) (s' := T2) rfl ?_
              refine yp_icmp rfl rfl (fun h81 => ?_) (fun h81 => ?_)
              · refine yp_run 4 (pc' := 117) (lv' := [(0, .ref 30), (1, .int l), (2, .int t), (3, .int (Int32.ofNat nx)), (4, .int (Int32.ofNat i)), (5, .int (hv (hv l (fun p => -TT p) n) (wpl D PL (Int32.ofNat nx)) n)), (6, .int 9)]) (st' := [.int 9, .int (Int32.ofNat nx), .int (hv (hv l (fun p => -TT p) n) (wpl D PL (Int32.ofNat nx)) n), .ref 30]) (s' := T2) rfl ?_
                have y0 : T2 30 0 = Int32.ofNat n := (congrFun (f2 _ (by decide)) 0).trans u0
                refine yp_vi rfl rfl rfl rfl (c_take (w := 9) (by decide) hn y0 ?_)
                obtain ⟨T4, hT4⟩ : ∃ X, X = tkSt T2 30 (hv (hv l (fun p => -TT p) n) (wpl D PL (Int32.ofNat nx)) n) (2 * (Int32.ofNat nx) + bc6 (hv (hv l (fun p => -TT p) n) (wpl D PL (Int32.ofNat nx)) n) - 1) 9 n := ⟨_, rfl⟩
                rw [← hT4]
                have g4 : ∀ k, k ≠ 38 → k ≠ 40 → k ≠ 51 → T4 k = s k := fun k a b c => by rw [hT4]; exact (tkSt_ne a b).trans ((f2 k c).trans (fr k a b c))
                have gE : ∀ p, p < n → T4 38 p = bif xcmp .eq (hd (hv (hv l (fun p => -TT p) n) (wpl D PL (Int32.ofNat nx)) n) (Int32.ofNat p)) 0 then E p else 2 * Int32.ofNat nx + bc6 (hv (hv l (fun p => -TT p) n) (wpl D PL (Int32.ofNat nx)) n) - 1 := fun p hp => by
                  rw [hT4]
                  unfold tkSt
                  rw [wr_ne (by decide), wr_in (Nat.zero_le _) hp]
                  unfold tkf
                  rw [show T2 (30 + 8) p = E p from (congrFun (f2 _ (by decide)) p).trans (hE p hp)]
                have gR : ∀ p, p < n → T4 40 p = bif xcmp .eq (hd (hv (hv l (fun p => -TT p) n) (wpl D PL (Int32.ofNat nx)) n) (Int32.ofNat p)) 0 then R p else 9 := fun p hp => by
                  rw [hT4]
                  unfold tkSt
                  rw [show 40 = 30 + 10 from rfl, wr_in (Nat.zero_le _) hp]
                  unfold tkf
                  rw [show T2 (30 + 10) p = R p from (congrFun (f2 _ (by decide)) p).trans (hR p hp)]
                refine yp_run 2 (pc' := 123) (lv' := [(0, .ref 30), (1, .int l), (2, .int t), (3, .int (Int32.ofNat nx)), (4, .int (Int32.ofNat i)), (5, .int (hv (hv l (fun p => -TT p) n) (wpl D PL (Int32.ofNat nx)) n)), (6, .int 9)]) (st' := [.int (hv (hv l (fun p => -TT p) n) (wpl D PL (Int32.ofNat nx)) n), .int (Int32.ofNat nx)]) (s' := T4) rfl ?_
                refine yp_st rfl rfl (c_bits ?_)
                refine yp_run 10 (pc' := 16) (lv' := [(0, .ref 30), (1, .int (l &&& ((hv (hv l (fun p => -TT p) n) (wpl D PL (Int32.ofNat nx)) n) ^^^ (-1)))), (2, .int t), (3, .int ((Int32.ofNat nx) + (bc6 (hv (hv l (fun p => -TT p) n) (wpl D PL (Int32.ofNat nx)) n)))), (4, .int ((Int32.ofNat i) + 1)), (5, .int (hv (hv l (fun p => -TT p) n) (wpl D PL (Int32.ofNat nx)) n)), (6, .int 9)]) (st' := []) (s' := T4) rfl ?_
                have e9 : pos n D TT PL WG nx (l, t) = ((l &&& ((hv (hv l (fun p => -TT p) n) (wpl D PL (Int32.ofNat nx)) n) ^^^ (-1))), t, (hv (hv l (fun p => -TT p) n) (wpl D PL (Int32.ofNat nx)) n), 9) := by
                  refine (pos_eq n D TT PL WG nx (l, t)).trans ?_
                  simp only [h42, h54, h81, cond_true, cond_false]
                have e7 := bcN_ok (hv (hv l (fun p => -TT p) n) (wpl D PL (Int32.ofNat nx)) n)
                have e6 := bcN_le (hv (hv l (fun p => -TT p) n) (wpl D PL (Int32.ofNat nx)) n)
                rw [i32_s, show Int32.ofNat nx + bc6 (hv (hv l (fun p => -TT p) n) (wpl D PL (Int32.ofNat nx)) n) = Int32.ofNat (nx + bcN (hv (hv l (fun p => -TT p) n) (wpl D PL (Int32.ofNat nx)) n)) from by rw [e7, Int32.ofNat_add]]
                refine yp_sel [0, 1, 2, 3, 4] ?_
                refine ih (i + 1) (nx + bcN (hv (hv l (fun p => -TT p) n) (wpl D PL (Int32.ofNat nx)) n)) _ _ _ _ T4 (by omega) (by omega) (by omega) g4 gE gR (fun T9 a1 a2 a3 => kk T9 a1 ?_ ?_)
                · intro p hp
                  rw [a2 p hp]
                  refine congrFun (congrArg Prod.fst ?_) p
                  refine Eq.symm ?_
                  refine (poR_s (hl := h26)).trans ?_
                  rw [e9]
                  rfl
                · intro p hp
                  rw [a3 p hp]
                  refine congrFun (congrArg Prod.snd ?_) p
                  refine Eq.symm ?_
                  refine (poR_s (hl := h26)).trans ?_
                  rw [e9]
                  rfl
              · refine yp_run 3 (pc' := 88) (lv' := [(0, .ref 30), (1, .int l), (2, .int t), (3, .int (Int32.ofNat nx)), (4, .int (Int32.ofNat i)), (5, .int (hv (hv l (fun p => -TT p) n) (wpl D PL (Int32.ofNat nx)) n)), (6, .int 9)]) (st' := [.int (Int32.ofNat nx), .int (hv (hv l (fun p => -TT p) n) (wpl D PL (Int32.ofNat nx)) n), .ref 30]) (s' := T2) rfl ?_
                have v0 : T2 30 0 = Int32.ofNat n := (congrFun (f2 _ (by decide)) 0).trans u0
                have v1 : T2 30 1 = Int32.ofNat D := (congrFun (f2 _ (by decide)) 1).trans u1
                refine yp_vi rfl rfl rfl rfl (c_bmrk (WG := WG) (by decide) hn hD h1x (by omega) v0 v1 (fun d p q h1 h2 h3 h4 => (congrFun ((f2 _ (by decide)).trans (fr _ (by decide) (by decide) (by decide))) _).trans (hWG d p q h1 h2 h3 h4)) ?_)
                obtain ⟨T3, hT3⟩ : ∃ X, X = bmSt T2 30 n D nx WG (n + 1 - nx) := ⟨_, rfl⟩
                rw [← hT3]
                have f3 : ∀ k, k ≠ 51 → T3 k = T k := fun k q => by rw [hT3]; exact (bmSt_ne q).trans (f2 k q)
                refine yp_run 2 (pc' := 95) (lv' := [(0, .ref 30), (1, .int l), (2, .int t), (3, .int (Int32.ofNat nx)), (4, .int (Int32.ofNat i)), (5, .int (bmk n D nx WG (hv (hv l (fun p => -TT p) n) (wpl D PL (Int32.ofNat nx)) n) (n + 1 - nx))), (6, .int 9)]) (st' := [.int (bmk n D nx WG (hv (hv l (fun p => -TT p) n) (wpl D PL (Int32.ofNat nx)) n) (n + 1 - nx))]) (s' := T3) rfl ?_
                refine yp_st rfl rfl (c_bits ?_)
                refine yp_run 1 (pc' := 99) (lv' := [(0, .ref 30), (1, .int l), (2, .int t), (3, .int (Int32.ofNat nx)), (4, .int (Int32.ofNat i)), (5, .int (bmk n D nx WG (hv (hv l (fun p => -TT p) n) (wpl D PL (Int32.ofNat nx)) n) (n + 1 - nx))), (6, .int 9)]) (st' := [.int 1, .int (bc6 (bmk n D nx WG (hv (hv l (fun p => -TT p) n) (wpl D PL (Int32.ofNat nx)) n) (n + 1 - nx)))]) (s' := T3) rfl ?_
                refine yp_icmp rfl rfl (fun h99 => ?_) (fun h99 => ?_)
                · refine yp_run 6 (pc' := 117) (lv' := [(0, .ref 30), (1, .int l), (2, .int t), (3, .int (Int32.ofNat nx)), (4, .int (Int32.ofNat i)), (5, .int (bmk n D nx WG (hv (hv l (fun p => -TT p) n) (wpl D PL (Int32.ofNat nx)) n) (n + 1 - nx))), (6, .int 11)]) (st' := [.int 11, .int (Int32.ofNat nx), .int (bmk n D nx WG (hv (hv l (fun p => -TT p) n) (wpl D PL (Int32.ofNat nx)) n) (n + 1 - nx)), .ref 30]) (s' := T3) rfl ?_
                  have y0 : T3 30 0 = Int32.ofNat n := (congrFun (f3 _ (by decide)) 0).trans u0
                  refine yp_vi rfl rfl rfl rfl (c_take (w := 11) (by decide) hn y0 ?_)
                  obtain ⟨T4, hT4⟩ : ∃ X, X = tkSt T3 30 (bmk n D nx WG (hv (hv l (fun p => -TT p) n) (wpl D PL (Int32.ofNat nx)) n) (n + 1 - nx)) (2 * (Int32.ofNat nx) + bc6 (bmk n D nx WG (hv (hv l (fun p => -TT p) n) (wpl D PL (Int32.ofNat nx)) n) (n + 1 - nx)) - 1) 11 n := ⟨_, rfl⟩
                  rw [← hT4]
                  have g4 : ∀ k, k ≠ 38 → k ≠ 40 → k ≠ 51 → T4 k = s k := fun k a b c => by rw [hT4]; exact (tkSt_ne a b).trans ((f3 k c).trans (fr k a b c))
                  have gE : ∀ p, p < n → T4 38 p = bif xcmp .eq (hd (bmk n D nx WG (hv (hv l (fun p => -TT p) n) (wpl D PL (Int32.ofNat nx)) n) (n + 1 - nx)) (Int32.ofNat p)) 0 then E p else 2 * Int32.ofNat nx + bc6 (bmk n D nx WG (hv (hv l (fun p => -TT p) n) (wpl D PL (Int32.ofNat nx)) n) (n + 1 - nx)) - 1 := fun p hp => by
                    rw [hT4]
                    unfold tkSt
                    rw [wr_ne (by decide), wr_in (Nat.zero_le _) hp]
                    unfold tkf
                    rw [show T3 (30 + 8) p = E p from (congrFun (f3 _ (by decide)) p).trans (hE p hp)]
                  have gR : ∀ p, p < n → T4 40 p = bif xcmp .eq (hd (bmk n D nx WG (hv (hv l (fun p => -TT p) n) (wpl D PL (Int32.ofNat nx)) n) (n + 1 - nx)) (Int32.ofNat p)) 0 then R p else 11 := fun p hp => by
                    rw [hT4]
                    unfold tkSt
                    rw [show 40 = 30 + 10 from rfl, wr_in (Nat.zero_le _) hp]
                    unfold tkf
                    rw [show T3 (30 + 10) p = R p from (congrFun (f3 _ (by decide)) p).trans (hR p hp)]
                  refine yp_run 2 (pc' := 123) (lv' := [(0, .ref 30), (1, .int l), (2, .int t), (3, .int (Int32.ofNat nx)), (4, .int (Int32.ofNat i)), (5, .int (bmk n D nx WG (hv (hv l (fun p => -TT p) n) (wpl D PL (Int32.ofNat nx)) n) (n + 1 - nx))), (6, .int 11)]) (st' := [.int (bmk n D nx WG (hv (hv l (fun p => -TT p) n) (wpl D PL (Int32.ofNat nx)) n) (n + 1 - nx)), .int (Int32.ofNat nx)]) (s' := T4) rfl ?_
                  refine yp_st rfl rfl (c_bits ?_)
                  refine yp_run 10 (pc' := 16) (lv' := [(0, .ref 30), (1, .int (l &&& ((bmk n D nx WG (hv (hv l (fun p => -TT p) n) (wpl D PL (Int32.ofNat nx)) n) (n + 1 - nx)) ^^^ (-1)))), (2, .int t), (3, .int ((Int32.ofNat nx) + (bc6 (bmk n D nx WG (hv (hv l (fun p => -TT p) n) (wpl D PL (Int32.ofNat nx)) n) (n + 1 - nx))))), (4, .int ((Int32.ofNat i) + 1)), (5, .int (bmk n D nx WG (hv (hv l (fun p => -TT p) n) (wpl D PL (Int32.ofNat nx)) n) (n + 1 - nx))), (6, .int 11)]) (st' := []) (s' := T4) rfl ?_
                  have e9 : pos n D TT PL WG nx (l, t) = ((l &&& ((bmk n D nx WG (hv (hv l (fun p => -TT p) n) (wpl D PL (Int32.ofNat nx)) n) (n + 1 - nx)) ^^^ (-1))), t, (bmk n D nx WG (hv (hv l (fun p => -TT p) n) (wpl D PL (Int32.ofNat nx)) n) (n + 1 - nx)), 11) := by
                    refine (pos_eq n D TT PL WG nx (l, t)).trans ?_
                    simp only [h42, h54, h81, h99, cond_true, cond_false]
                  have e7 := bcN_ok (bmk n D nx WG (hv (hv l (fun p => -TT p) n) (wpl D PL (Int32.ofNat nx)) n) (n + 1 - nx))
                  have e6 := bcN_le (bmk n D nx WG (hv (hv l (fun p => -TT p) n) (wpl D PL (Int32.ofNat nx)) n) (n + 1 - nx))
                  rw [i32_s, show Int32.ofNat nx + bc6 (bmk n D nx WG (hv (hv l (fun p => -TT p) n) (wpl D PL (Int32.ofNat nx)) n) (n + 1 - nx)) = Int32.ofNat (nx + bcN (bmk n D nx WG (hv (hv l (fun p => -TT p) n) (wpl D PL (Int32.ofNat nx)) n) (n + 1 - nx))) from by rw [e7, Int32.ofNat_add]]
                  refine yp_sel [0, 1, 2, 3, 4] ?_
                  refine ih (i + 1) (nx + bcN (bmk n D nx WG (hv (hv l (fun p => -TT p) n) (wpl D PL (Int32.ofNat nx)) n) (n + 1 - nx))) _ _ _ _ T4 (by omega) (by omega) (by omega) g4 gE gR (fun T9 a1 a2 a3 => kk T9 a1 ?_ ?_)
                  · intro p hp
                    rw [a2 p hp]
                    refine congrFun (congrArg Prod.fst ?_) p
                    refine Eq.symm ?_
                    refine (poR_s (hl := h26)).trans ?_
                    rw [e9]
                    rfl
                  · intro p hp
                    rw [a3 p hp]
                    refine congrFun (congrArg Prod.snd ?_) p
                    refine Eq.symm ?_
                    refine (poR_s (hl := h26)).trans ?_
                    rw [e9]
                    rfl
                · refine yp_run 7 (pc' := 117) (lv' := [(0, .ref 30), (1, .int l), (2, .int t), (3, .int (Int32.ofNat nx)), (4, .int (Int32.ofNat i)), (5, .int (bmk n D nx WG (hv (hv l (fun p => -TT p) n) (wpl D PL (Int32.ofNat nx)) n) (n + 1 - nx))), (6, .int 12)]) (st' := [.int 12, .int (Int32.ofNat nx), .int (bmk n D nx WG (hv (hv l (fun p => -TT p) n) (wpl D PL (Int32.ofNat nx)) n) (n + 1 - nx)), .ref 30]) (s' := T3) rfl ?_
                  have y0 : T3 30 0 = Int32.ofNat n := (congrFun (f3 _ (by decide)) 0).trans u0
                  refine yp_vi rfl rfl rfl rfl (c_take (w := 12) (by decide) hn y0 ?_)
                  obtain ⟨T4, hT4⟩ : ∃ X, X = tkSt T3 30 (bmk n D nx WG (hv (hv l (fun p => -TT p) n) (wpl D PL (Int32.ofNat nx)) n) (n + 1 - nx)) (2 * (Int32.ofNat nx) + bc6 (bmk n D nx WG (hv (hv l (fun p => -TT p) n) (wpl D PL (Int32.ofNat nx)) n) (n + 1 - nx)) - 1) 12 n := ⟨_, rfl⟩
                  rw [← hT4]
                  have g4 : ∀ k, k ≠ 38 → k ≠ 40 → k ≠ 51 → T4 k = s k := fun k a b c => by rw [hT4]; exact (tkSt_ne a b).trans ((f3 k c).trans (fr k a b c))
                  have gE : ∀ p, p < n → T4 38 p = bif xcmp .eq (hd (bmk n D nx WG (hv (hv l (fun p => -TT p) n) (wpl D PL (Int32.ofNat nx)) n) (n + 1 - nx)) (Int32.ofNat p)) 0 then E p else 2 * Int32.ofNat nx + bc6 (bmk n D nx WG (hv (hv l (fun p => -TT p) n) (wpl D PL (Int32.ofNat nx)) n) (n + 1 - nx)) - 1 := fun p hp => by
                    rw [hT4]
                    unfold tkSt
                    rw [wr_ne (by decide), wr_in (Nat.zero_le _) hp]
                    unfold tkf
                    rw [show T3 (30 + 8) p = E p from (congrFun (f3 _ (by decide)) p).trans (hE p hp)]
                  have gR : ∀ p, p < n → T4 40 p = bif xcmp .eq (hd (bmk n D nx WG (hv (hv l (fun p => -TT p) n) (wpl D PL (Int32.ofNat nx)) n) (n + 1 - nx)) (Int32.ofNat p)) 0 then R p else 12 := fun p hp => by
                    rw [hT4]
                    unfold tkSt
                    rw [show 40 = 30 + 10 from rfl, wr_in (Nat.zero_le _) hp]
                    unfold tkf
                    rw [show T3 (30 + 10) p = R p from (congrFun (f3 _ (by decide)) p).trans (hR p hp)]
                  refine yp_run 2 (pc' := 123) (lv' := [(0, .ref 30), (1, .int l), (2, .int t), (3, .int (Int32.ofNat nx)), (4, .int (Int32.ofNat i)), (5, .int (bmk n D nx WG (hv (hv l (fun p => -TT p) n) (wpl D PL (Int32.ofNat nx)) n) (n + 1 - nx))), (6, .int 12)]) (st' := [.int (bmk n D nx WG (hv (hv l (fun p => -TT p) n) (wpl D PL (Int32.ofNat nx)) n) (n + 1 - nx)), .int (Int32.ofNat nx)]) (s' := T4) rfl ?_
                  refine yp_st rfl rfl (c_bits ?_)
                  refine yp_run 10 (pc' := 16) (lv' := [(0, .ref 30), (1, .int (l &&& ((bmk n D nx WG (hv (hv l (fun p => -TT p) n) (wpl D PL (Int32.ofNat nx)) n) (n + 1 - nx)) ^^^ (-1)))), (2, .int t), (3, .int ((Int32.ofNat nx) + (bc6 (bmk n D nx WG (hv (hv l (fun p => -TT p) n) (wpl D PL (Int32.ofNat nx)) n) (n + 1 - nx))))), (4, .int ((Int32.ofNat i) + 1)), (5, .int (bmk n D nx WG (hv (hv l (fun p => -TT p) n) (wpl D PL (Int32.ofNat nx)) n) (n + 1 - nx))), (6, .int 12)]) (st' := []) (s' := T4) rfl ?_
                  have e9 : pos n D TT PL WG nx (l, t) = ((l &&& ((bmk n D nx WG (hv (hv l (fun p => -TT p) n) (wpl D PL (Int32.ofNat nx)) n) (n + 1 - nx)) ^^^ (-1))), t, (bmk n D nx WG (hv (hv l (fun p => -TT p) n) (wpl D PL (Int32.ofNat nx)) n) (n + 1 - nx)), 12) := by
                    refine (pos_eq n D TT PL WG nx (l, t)).trans ?_
                    simp only [h42, h54, h81, h99, cond_true, cond_false]
                  have e7 := bcN_ok (bmk n D nx WG (hv (hv l (fun p => -TT p) n) (wpl D PL (Int32.ofNat nx)) n) (n + 1 - nx))
                  have e6 := bcN_le (bmk n D nx WG (hv (hv l (fun p => -TT p) n) (wpl D PL (Int32.ofNat nx)) n) (n + 1 - nx))
                  rw [i32_s, show Int32.ofNat nx + bc6 (bmk n D nx WG (hv (hv l (fun p => -TT p) n) (wpl D PL (Int32.ofNat nx)) n) (n + 1 - nx)) = Int32.ofNat (nx + bcN (bmk n D nx WG (hv (hv l (fun p => -TT p) n) (wpl D PL (Int32.ofNat nx)) n) (n + 1 - nx))) from by rw [e7, Int32.ofNat_add]]
                  refine yp_sel [0, 1, 2, 3, 4] ?_
                  refine ih (i + 1) (nx + bcN (bmk n D nx WG (hv (hv l (fun p => -TT p) n) (wpl D PL (Int32.ofNat nx)) n) (n + 1 - nx))) _ _ _ _ T4 (by omega) (by omega) (by omega) g4 gE gR (fun T9 a1 a2 a3 => kk T9 a1 ?_ ?_)
                  · intro p hp
                    rw [a2 p hp]
                    refine congrFun (congrArg Prod.fst ?_) p
                    refine Eq.symm ?_
                    refine (poR_s (hl := h26)).trans ?_
                    rw [e9]
                    rfl
                  · intro p hp
                    rw [a3 p hp]
                    refine congrFun (congrArg Prod.snd ?_) p
                    refine Eq.symm ?_
                    refine (poR_s (hl := h26)).trans ?_
                    rw [e9]
                    rfl
          · refine yp_run 7 (pc' := 54) (lv' := [(0, .ref 30), (1, .int l), (2, .int (t ||| (hv l (fun p => -TT p) n))), (3, .int (Int32.ofNat nx)), (4, .int (Int32.ofNat i)), (5, .int (hv l (fun p => -TT p) n))]) (st' := [.int ((hv l (fun p => -TT p) n) &&& (t ||| (hv l (fun p => -TT p) n)))]) (s' := T1) rfl ?_
            refine yp_if rfl rfl (fun h54 => ?_) (fun h54 => ?_)
            · refine yp_run 5 (pc' := 70) (lv' := [(0, .ref 30), (1, .int l), (2, .int (t ||| (hv l (fun p => -TT p) n))), (3, .int (Int32.ofNat nx)), (4, .int (Int32.ofNat i)), (5, .int (hv l (fun p => -TT p) n)), (6, .int 10)]) (st' := [.int (Int32.ofNat nx), .int (hv l (fun p => -TT p) n), .ref 30]) (s' := T1) rfl ?_
              have v0 : T1 30 0 = Int32.ofNat n := (congrFun (f1 _ (by decide)) 0).trans u0
              have v1 : T1 30 1 = Int32.ofNat D := (congrFun (f1 _ (by decide)) 1).trans u1
              refine yp_vi rfl rfl rfl rfl (c_bplc (PL := PL) (by decide) hn hD v0 v1 (fun d p h1 h2 => (congrFun ((f1 _ (by decide)).trans (fr _ (by decide) (by decide) (by decide))) _).trans (hPL d p h1 h2)) ?_)
              obtain ⟨T2, hT2⟩ : ∃ X, X = wr T1 51 0 n (wpl D PL (Int32.ofNat nx)) := ⟨_, rfl⟩
              rw [← hT2]
              have f2 : ∀ k, k ≠ 51 → T2 k = T k := fun k q => by rw [hT2]; exact (wr_ne q).trans (f1 k q)
              refine yp_run 2 (pc' := 77) (lv' := [(0, .ref 30), (1, .int l), (2, .int (t ||| (hv l (fun p => -TT p) n))), (3, .int (Int32.ofNat nx)), (4, .int (Int32.ofNat i)), (5, .int (hv (hv l (fun p => -TT p) n) (wpl D PL (Int32.ofNat nx)) n)), (6, .int 10)]) (st' := [.int (hv (hv l (fun p => -TT p) n) (wpl D PL (Int32.ofNat nx)) n)]) (s' := T2) rfl ?_
              refine yp_st rfl rfl (c_bits ?_)
              refine yp_run 1 (pc' := 81) (lv' := [(0, .ref 30), (1, .int l), (2, .int (t ||| (hv l (fun p => -TT p) n))), (3, .int (Int32.ofNat nx)), (4, .int (Int32.ofNat i)), (5, .int (hv (hv l (fun p => -TT p) n) (wpl D PL (Int32.ofNat nx)) n)), (6, .int 10)]) (st' := [.int 1, .int (bc6 (hv (hv l (fun p => -TT p) n) (wpl D PL (Int32.ofNat nx)) n))]) (s' := T2) rfl ?_
              refine yp_icmp rfl rfl (fun h81 => ?_) (fun h81 => ?_)
              · refine yp_run 4 (pc' := 117) (lv' := [(0, .ref 30), (1, .int l), (2, .int (t ||| (hv l (fun p => -TT p) n))), (3, .int (Int32.ofNat nx)), (4, .int (Int32.ofNat i)), (5, .int (hv (hv l (fun p => -TT p) n) (wpl D PL (Int32.ofNat nx)) n)), (6, .int 10)]) (st' := [.int 10, .int (Int32.ofNat nx), .int (hv (hv l (fun p => -TT p) n) (wpl D PL (Int32.ofNat nx)) n), .ref 30]) (s' := T2) rfl ?_
                have y0 : T2 30 0 = Int32.ofNat n := (congrFun (f2 _ (by decide)) 0).trans u0
                refine yp_vi rfl rfl rfl rfl (c_take (w := 10) (by decide) hn y0 ?_)
                obtain ⟨T4, hT4⟩ : ∃ X, X = tkSt T2 30 (hv (hv l (fun p => -TT p) n) (wpl D PL (Int32.ofNat nx)) n) (2 * (Int32.ofNat nx) + bc6 (hv (hv l (fun p => -TT p) n) (wpl D PL (Int32.ofNat nx)) n) - 1) 10 n := ⟨_, rfl⟩
                rw [← hT4]
                have g4 : ∀ k, k ≠ 38 → k ≠ 40 → k ≠ 51 → T4 k = s k := fun k a b c => by rw [hT4]; exact (tkSt_ne a b).trans ((f2 k c).trans (fr k a b c))
                have gE : ∀ p, p < n → T4 38 p = bif xcmp .eq (hd (hv (hv l (fun p => -TT p) n) (wpl D PL (Int32.ofNat nx)) n) (Int32.ofNat p)) 0 then E p else 2 * Int32.ofNat nx + bc6 (hv (hv l (fun p => -TT p) n) (wpl D PL (Int32.ofNat nx)) n) - 1 := fun p hp => by
                  rw [hT4]
                  unfold tkSt
                  rw [wr_ne (by decide), wr_in (Nat.zero_le _) hp]
                  unfold tkf
                  rw [show T2 (30 + 8) p = E p from (congrFun (f2 _ (by decide)) p).trans (hE p hp)]
                have gR : ∀ p, p < n → T4 40 p = bif xcmp .eq (hd (hv (hv l (fun p => -TT p) n) (wpl D PL (Int32.ofNat nx)) n) (Int32.ofNat p)) 0 then R p else 10 := fun p hp => by
                  rw [hT4]
                  unfold tkSt
                  rw [show 40 = 30 + 10 from rfl, wr_in (Nat.zero_le _) hp]
                  unfold tkf
                  rw [show T2 (30 + 10) p = R p from (congrFun (f2 _ (by decide)) p).trans (hR p hp)]
                refine yp_run 2 (pc' := 123) (lv' := [(0, .ref 30), (1, .int l), (2, .int (t ||| (hv l (fun p => -TT p) n))), (3, .int (Int32.ofNat nx)), (4, .int (Int32.ofNat i)), (5, .int (hv (hv l (fun p => -TT p) n) (wpl D PL (Int32.ofNat nx)) n)), (6, .int 10)]) (st' := [.int (hv (hv l (fun p => -TT p) n) (wpl D PL (Int32.ofNat nx)) n), .int (Int32.ofNat nx)]) (s' := T4) rfl ?_
                refine yp_st rfl rfl (c_bits ?_)
                refine yp_run 10 (pc' := 16) (lv' := [(0, .ref 30), (1, .int (l &&& ((hv (hv l (fun p => -TT p) n) (wpl D PL (Int32.ofNat nx)) n) ^^^ (-1)))), (2, .int (t ||| (hv l (fun p => -TT p) n))), (3, .int ((Int32.ofNat nx) + (bc6 (hv (hv l (fun p => -TT p) n) (wpl D PL (Int32.ofNat nx)) n)))), (4, .int ((Int32.ofNat i) + 1)), (5, .int (hv (hv l (fun p => -TT p) n) (wpl D PL (Int32.ofNat nx)) n)), (6, .int 10)]) (st' := []) (s' := T4) rfl ?_
                have e9 : pos n D TT PL WG nx (l, t) = ((l &&& ((hv (hv l (fun p => -TT p) n) (wpl D PL (Int32.ofNat nx)) n) ^^^ (-1))), (t ||| (hv l (fun p => -TT p) n)), (hv (hv l (fun p => -TT p) n) (wpl D PL (Int32.ofNat nx)) n), 10) := by
                  refine (pos_eq n D TT PL WG nx (l, t)).trans ?_
                  simp only [h42, h54, h81, cond_true, cond_false]
                have e7 := bcN_ok (hv (hv l (fun p => -TT p) n) (wpl D PL (Int32.ofNat nx)) n)
                have e6 := bcN_le (hv (hv l (fun p => -TT p) n) (wpl D PL (Int32.ofNat nx)) n)
                rw [i32_s, show Int32.ofNat nx + bc6 (hv (hv l (fun p => -TT p) n) (wpl D PL (Int32.ofNat nx)) n) = Int32.ofNat (nx + bcN (hv (hv l (fun p => -TT p) n) (wpl D PL (Int32.ofNat nx)) n)) from by rw [e7, Int32.ofNat_add]]
                refine yp_sel [0, 1, 2, 3, 4] ?_
                refine ih (i + 1) (nx + bcN (hv (hv l (fun p => -TT p) n) (wpl D PL (Int32.ofNat nx)) n)) _ _ _ _ T4 (by omega) (by omega) (by omega) g4 gE gR (fun T9 a1 a2 a3 => kk T9 a1 ?_ ?_)
                · intro p hp
                  rw [a2 p hp]
                  refine congrFun (congrArg Prod.fst ?_) p
                  refine Eq.symm ?_
                  refine (poR_s (hl := h26)).trans ?_
                  rw [e9]
                  rfl
                · intro p hp
                  rw [a3 p hp]
                  refine congrFun (congrArg Prod.snd ?_) p
                  refine Eq.symm ?_
                  refine (poR_s (hl := h26)).trans ?_
                  rw [e9]
                  rfl
              · refine yp_run 3 (pc' := 88) (lv' := [(0, .ref 30), (1, .int l), (2, .int (t ||| (hv l (fun p => -TT p) n))), (3, .int (Int32.ofNat nx)), (4, .int (Int32.ofNat i)), (5, .int (hv (hv l (fun p => -TT p) n) (wpl D PL (Int32.ofNat nx)) n)), (6, .int 10)]) (st' := [.int (Int32.ofNat nx), .int (hv (hv l (fun p => -TT p) n) (wpl D PL (Int32.ofNat nx)) n), .ref 30]) (s' := T2) rfl ?_
                have v0 : T2 30 0 = Int32.ofNat n := (congrFun (f2 _ (by decide)) 0).trans u0
                have v1 : T2 30 1 = Int32.ofNat D := (congrFun (f2 _ (by decide)) 1).trans u1
                refine yp_vi rfl rfl rfl rfl (c_bmrk (WG := WG) (by decide) hn hD h1x (by omega) v0 v1 (fun d p q h1 h2 h3 h4 => (congrFun ((f2 _ (by decide)).trans (fr _ (by decide) (by decide) (by decide))) _).trans (hWG d p q h1 h2 h3 h4)) ?_)
                obtain ⟨T3, hT3⟩ : ∃ X, X = bmSt T2 30 n D nx WG (n + 1 - nx) := ⟨_, rfl⟩
                rw [← hT3]
                have f3 : ∀ k, k ≠ 51 → T3 k = T k := fun k q => by rw [hT3]; exact (bmSt_ne q).trans (f2 k q)
                refine yp_run 2 (pc' := 95) (lv' := [(0, .ref 30), (1, .int l), (2, .int (t ||| (hv l (fun p => -TT p) n))), (3, .int (Int32.ofNat nx)), (4, .int (Int32.ofNat i)), (5, .int (bmk n D nx WG (hv (hv l (fun p => -TT p) n) (wpl D PL (Int32.ofNat nx)) n) (n + 1 - nx))), (6, .int 10)]) (st' := [.int (bmk n D nx WG (hv (hv l (fun p => -TT p) n) (wpl D PL (Int32.ofNat nx)) n) (n + 1 - nx))]) (s' := T3) rfl ?_
                refine yp_st rfl rfl (c_bits ?_)
                refine yp_run 1 (pc' := 99) (lv' := [(0, .ref 30), (1, .int l), (2, .int (t ||| (hv l (fun p => -TT p) n))), (3, .int (Int32.ofNat nx)), (4, .int (Int32.ofNat i)), (5, .int (bmk n D nx WG (hv (hv l (fun p => -TT p) n) (wpl D PL (Int32.ofNat nx)) n) (n + 1 - nx))), (6, .int 10)]) (st' := [.int 1, .int (bc6 (bmk n D nx WG (hv (hv l (fun p => -TT p) n) (wpl D PL (Int32.ofNat nx)) n) (n + 1 - nx)))]) (s' := T3) rfl ?_
                refine yp_icmp rfl rfl (fun h99 => ?_) (fun h99 => ?_)
                · refine yp_run 6 (pc' := 117) (lv' := [(0, .ref 30), (1, .int l), (2, .int (t ||| (hv l (fun p => -TT p) n))), (3, .int (Int32.ofNat nx)), (4, .int (Int32.ofNat i)), (5, .int (bmk n D nx WG (hv (hv l (fun p => -TT p) n) (wpl D PL (Int32.ofNat nx)) n) (n + 1 - nx))), (6, .int 11)]) (st' := [.int 11, .int (Int32.ofNat nx), .int (bmk n D nx WG (hv (hv l (fun p => -TT p) n) (wpl D PL (Int32.ofNat nx)) n) (n + 1 - nx)), .ref 30]) (s' := T3) rfl ?_
                  have y0 : T3 30 0 = Int32.ofNat n := (congrFun (f3 _ (by decide)) 0).trans u0
                  refine yp_vi rfl rfl rfl rfl (c_take (w := 11) (by decide) hn y0 ?_)
                  obtain ⟨T4, hT4⟩ : ∃ X, X = tkSt T3 30 (bmk n D nx WG (hv (hv l (fun p => -TT p) n) (wpl D PL (Int32.ofNat nx)) n) (n + 1 - nx)) (2 * (Int32.ofNat nx) + bc6 (bmk n D nx WG (hv (hv l (fun p => -TT p) n) (wpl D PL (Int32.ofNat nx)) n) (n + 1 - nx)) - 1) 11 n := ⟨_, rfl⟩
                  rw [← hT4]
                  have g4 : ∀ k, k ≠ 38 → k ≠ 40 → k ≠ 51 → T4 k = s k := fun k a b c => by rw [hT4]; exact (tkSt_ne a b).trans ((f3 k c).trans (fr k a b c))
                  have gE : ∀ p, p < n → T4 38 p = bif xcmp .eq (hd (bmk n D nx WG (hv (hv l (fun p => -TT p) n) (wpl D PL (Int32.ofNat nx)) n) (n + 1 - nx)) (Int32.ofNat p)) 0 then E p else 2 * Int32.ofNat nx + bc6 (bmk n D nx WG (hv (hv l (fun p => -TT p) n) (wpl D PL (Int32.ofNat nx)) n) (n + 1 - nx)) - 1 := fun p hp => by
                    rw [hT4]
                    unfold tkSt
                    rw [wr_ne (by decide), wr_in (Nat.zero_le _) hp]
                    unfold tkf
                    rw [show T3 (30 + 8) p = E p from (congrFun (f3 _ (by decide)) p).trans (hE p hp)]
                  have gR : ∀ p, p < n → T4 40 p = bif xcmp .eq (hd (bmk n D nx WG (hv (hv l (fun p => -TT p) n) (wpl D PL (Int32.ofNat nx)) n) (n + 1 - nx)) (Int32.ofNat p)) 0 then R p else 11 := fun p hp => by
                    rw [hT4]
                    unfold tkSt
                    rw [show 40 = 30 + 10 from rfl, wr_in (Nat.zero_le _) hp]
                    unfold tkf
                    rw [show T3 (30 + 10) p = R p from (congrFun (f3 _ (by decide)) p).trans (hR p hp)]
                  refine yp_run 2 (pc' := 123) (lv' := [(0, .ref 30), (1, .int l), (2, .int (t ||| (hv l (fun p => -TT p) n))), (3, .int (Int32.ofNat nx)), (4, .int (Int32.ofNat i)), (5, .int (bmk n D nx WG (hv (hv l (fun p => -TT p) n) (wpl D PL (Int32.ofNat nx)) n) (n + 1 - nx))), (6, .int 11)]) (st' := [.int (bmk n D nx WG (hv (hv l (fun p => -TT p) n) (wpl D PL (Int32.ofNat nx)) n) (n + 1 - nx)), .int (Int32.ofNat nx)]) (s' := T4) rfl ?_
                  refine yp_st rfl rfl (c_bits ?_)
                  refine yp_run 10 (pc' := 16) (lv' := [(0, .ref 30), (1, .int (l &&& ((bmk n D nx WG (hv (hv l (fun p => -TT p) n) (wpl D PL (Int32.ofNat nx)) n) (n + 1 - nx)) ^^^ (-1)))), (2, .int (t ||| (hv l (fun p => -TT p) n))), (3, .int ((Int32.ofNat nx) + (bc6 (bmk n D nx WG (hv (hv l (fun p => -TT p) n) (wpl D PL (Int32.ofNat nx)) n) (n + 1 - nx))))), (4, .int ((Int32.ofNat i) + 1)), (5, .int (bmk n D nx WG (hv (hv l (fun p => -TT p) n) (wpl D PL (Int32.ofNat nx)) n) (n + 1 - nx))), (6, .int 11)]) (st' := []) (s' := T4) rfl ?_
                  have e9 : pos n D TT PL WG nx (l, t) = ((l &&& ((bmk n D nx WG (hv (hv l (fun p => -TT p) n) (wpl D PL (Int32.ofNat nx)) n) (n + 1 - nx)) ^^^ (-1))), (t ||| (hv l (fun p => -TT p) n)), (bmk n D nx WG (hv (hv l (fun p => -TT p) n) (wpl D PL (Int32.ofNat nx)) n) (n + 1 - nx)), 11) := by
                    refine (pos_eq n D TT PL WG nx (l, t)).trans ?_
                    simp only [h42, h54, h81, h99, cond_true, cond_false]
                  have e7 := bcN_ok (bmk n D nx WG (hv (hv l (fun p => -TT p) n) (wpl D PL (Int32.ofNat nx)) n) (n + 1 - nx))
                  have e6 := bcN_le (bmk n D nx WG (hv (hv l (fun p => -TT p) n) (wpl D PL (Int32.ofNat nx)) n) (n + 1 - nx))
                  rw [i32_s, show Int32.ofNat nx + bc6 (bmk n D nx WG (hv (hv l (fun p => -TT p) n) (wpl D PL (Int32.ofNat nx)) n) (n + 1 - nx)) = Int32.ofNat (nx + bcN (bmk n D nx WG (hv (hv l (fun p => -TT p) n) (wpl D PL (Int32.ofNat nx)) n) (n + 1 - nx))) from by rw [e7, Int32.ofNat_add]]
                  refine yp_sel [0, 1, 2, 3, 4] ?_
                  refine ih (i + 1) (nx + bcN (bmk n D nx WG (hv (hv l (fun p => -TT p) n) (wpl D PL (Int32.ofNat nx)) n) (n + 1 - nx))) _ _ _ _ T4 (by omega) (by omega) (by omega) g4 gE gR (fun T9 a1 a2 a3 => kk T9 a1 ?_ ?_)
                  · intro p hp
                    rw [a2 p hp]
                    refine congrFun (congrArg Prod.fst ?_) p
                    refine Eq.symm ?_
                    refine (poR_s (hl := h26)).trans ?_
                    rw [e9]
                    rfl
                  · intro p hp
                    rw [a3 p hp]
                    refine congrFun (congrArg Prod.snd ?_) p
                    refine Eq.symm ?_
                    refine (poR_s (hl := h26)).trans ?_
                    rw [e9]
                    rfl
                · refine yp_run 7 (pc' := 117) (lv' := [(0, .ref 30), (1, .int l), (2, .int (t ||| (hv l (fun p => -TT p) n))), (3, .int (Int32.ofNat nx)), (4, .int (Int32.ofNat i)), (5, .int (bmk n D nx WG (hv (hv l (fun p => -TT p) n) (wpl D PL (Int32.ofNat nx)) n) (n + 1 - nx))), (6, .int 12)]) (st' := [.int 12, .int (Int32.ofNat nx), .int (bmk n D nx WG (hv (hv l (fun p => -TT p) n) (wpl D PL (Int32.ofNat nx)) n) (n + 1 - nx)), .ref 30]) (s' := T3) rfl ?_
                  have y0 : T3 30 0 = Int32.ofNat n := (congrFun (f3 _ (by decide)) 0).trans u0
                  refine yp_vi rfl rfl rfl rfl (c_take (w := 12) (by decide) hn y0 ?_)
                  obtain ⟨T4, hT4⟩ : ∃ X, X = tkSt T3 30 (bmk n D nx WG (hv (hv l (fun p => -TT p) n) (wpl D PL (Int32.ofNat nx)) n) (n + 1 - nx)) (2 * (Int32.ofNat nx) + bc6 (bmk n D nx WG (hv (hv l (fun p => -TT p) n) (wpl D PL (Int32.ofNat nx)) n) (n + 1 - nx)) - 1) 12 n := ⟨_, rfl⟩
                  rw [← hT4]
                  have g4 : ∀ k, k ≠ 38 → k ≠ 40 → k ≠ 51 → T4 k = s k := fun k a b c => by rw [hT4]; exact (tkSt_ne a b).trans ((f3 k c).trans (fr k a b c))
                  have gE : ∀ p, p < n → T4 38 p = bif xcmp .eq (hd (bmk n D nx WG (hv (hv l (fun p => -TT p) n) (wpl D PL (Int32.ofNat nx)) n) (n + 1 - nx)) (Int32.ofNat p)) 0 then E p else 2 * Int32.ofNat nx + bc6 (bmk n D nx WG (hv (hv l (fun p => -TT p) n) (wpl D PL (Int32.ofNat nx)) n) (n + 1 - nx)) - 1 := fun p hp => by
                    rw [hT4]
                    unfold tkSt
                    rw [wr_ne (by decide), wr_in (Nat.zero_le _) hp]
                    unfold tkf
                    rw [show T3 (30 + 8) p = E p from (congrFun (f3 _ (by decide)) p).trans (hE p hp)]
                  have gR : ∀ p, p < n → T4 40 p = bif xcmp .eq (hd (bmk n D nx WG (hv (hv l (fun p => -TT p) n) (wpl D PL (Int32.ofNat nx)) n) (n + 1 - nx)) (Int32.ofNat p)) 0 then R p else 12 := fun p hp => by
                    rw [hT4]
                    unfold tkSt
                    rw [show 40 = 30 + 10 from rfl, wr_in (Nat.zero_le _) hp]
                    unfold tkf
                    rw [show T3 (30 + 10) p = R p from (congrFun (f3 _ (by decide)) p).trans (hR p hp)]
                  refine yp_run 2 (pc' := 123) (lv' := [(0, .ref 30), (1, .int l), (2, .int (t ||| (hv l (fun p => -TT p) n))), (3, .int (Int32.ofNat nx)), (4, .int (Int32.ofNat i)), (5, .int (bmk n D nx WG (hv (hv l (fun p => -TT p) n) (wpl D PL (Int32.ofNat nx)) n) (n + 1 - nx))), (6, .int 12)]) (st' := [.int (bmk n D nx WG (hv (hv l (fun p => -TT p) n) (wpl D PL (Int32.ofNat nx)) n) (n + 1 - nx)), .int (Int32.ofNat nx)]) (s' := T4) rfl ?_
                  refine yp_st rfl rfl (c_bits ?_)
                  refine yp_run 10 (pc' := 16) (lv' := [(0, .ref 30), (1, .int (l &&& ((bmk n D nx WG (hv (hv l (fun p => -TT p) n) (wpl D PL (Int32.ofNat nx)) n) (n + 1 - nx)) ^^^ (-1)))), (2, .int (t ||| (hv l (fun p => -TT p) n))), (3, .int ((Int32.ofNat nx) + (bc6 (bmk n D nx WG (hv (hv l (fun p => -TT p) n) (wpl D PL (Int32.ofNat nx)) n) (n + 1 - nx))))), (4, .int ((Int32.ofNat i) + 1)), (5, .int (bmk n D nx WG (hv (hv l (fun p => -TT p) n) (wpl D PL (Int32.ofNat nx)) n) (n + 1 - nx))), (6, .int 12)]) (st' := []) (s' := T4) rfl ?_
                  have e9 : pos n D TT PL WG nx (l, t) = ((l &&& ((bmk n D nx WG (hv (hv l (fun p => -TT p) n) (wpl D PL (Int32.ofNat nx)) n) (n + 1 - nx)) ^^^ (-1))), (t ||| (hv l (fun p => -TT p) n)), (bmk n D nx WG (hv (hv l (fun p => -TT p) n) (wpl D PL (Int32.ofNat nx)) n) (n + 1 - nx)), 12) := by
                    refine (pos_eq n D TT PL WG nx (l, t)).trans ?_
                    simp only [h42, h54, h81, h99, cond_true, cond_false]
                  have e7 := bcN_ok (bmk n D nx WG (hv (hv l (fun p => -TT p) n) (wpl D PL (Int32.ofNat nx)) n) (n + 1 - nx))
                  have e6 := bcN_le (bmk n D nx WG (hv (hv l (fun p => -TT p) n) (wpl D PL (Int32.ofNat nx)) n) (n + 1 - nx))
                  rw [i32_s, show Int32.ofNat nx + bc6 (bmk n D nx WG (hv (hv l (fun p => -TT p) n) (wpl D PL (Int32.ofNat nx)) n) (n + 1 - nx)) = Int32.ofNat (nx + bcN (bmk n D nx WG (hv (hv l (fun p => -TT p) n) (wpl D PL (Int32.ofNat nx)) n) (n + 1 - nx))) from by rw [e7, Int32.ofNat_add]]
                  refine yp_sel [0, 1, 2, 3, 4] ?_
                  refine ih (i + 1) (nx + bcN (bmk n D nx WG (hv (hv l (fun p => -TT p) n) (wpl D PL (Int32.ofNat nx)) n) (n + 1 - nx))) _ _ _ _ T4 (by omega) (by omega) (by omega) g4 gE gR (fun T9 a1 a2 a3 => kk T9 a1 ?_ ?_)
                  · intro p hp
                    rw [a2 p hp]
                    refine congrFun (congrArg Prod.fst ?_) p
                    refine Eq.symm ?_
                    refine (poR_s (hl := h26)).trans ?_
                    rw [e9]
                    rfl
                  · intro p hp
                    rw [a3 p hp]
                    refine congrFun (congrArg Prod.snd ?_) p
                    refine Eq.symm ?_
                    refine (poR_s (hl := h26)).trans ?_
                    rw [e9]
                    rfl
            · refine yp_run 6 (pc' := 70) (lv' := [(0, .ref 30), (1, .int l), (2, .int (t ||| (hv l (fun p => -TT p) n))), (3, .int (Int32.ofNat nx)), (4, .int (Int32.ofNat i)), (5, .int (hv l (fun p => -TT p) n)), (6, .int 9)]) (st' := [.int (Int32.ofNat nx), .int (hv l (fun p => -TT p) n), .ref 30]) (s' := T1) rfl ?_
              have v0 : T1 30 0 = Int32.ofNat n := (congrFun (f1 _ (by decide)) 0).trans u0
              have v1 : T1 30 1 = Int32.ofNat D := (congrFun (f1 _ (by decide)) 1).trans u1
              refine yp_vi rfl rfl rfl rfl (c_bplc (PL := PL) (by decide) hn hD v0 v1 (fun d p h1 h2 => (congrFun ((f1 _ (by decide)).trans (fr _ (by decide) (by decide) (by decide))) _).trans (hPL d p h1 h2)) ?_)
              obtain ⟨T2, hT2⟩ : ∃ X, X = wr T1 51 0 n (wpl D PL (Int32.ofNat nx)) := ⟨_, rfl⟩
              rw [← hT2]
              have f2 : ∀ k, k ≠ 51 → T2 k = T k := fun k q => by rw [hT2]; exact (wr_ne q).trans (f1 k q)
              refine yp_run 2 (pc' := 77) (lv' := [(0, .ref 30), (1, .int l), (2, .int (t ||| (hv l (fun p => -TT p) n))), (3, .int (Int32.ofNat nx)), (4, .int (Int32.ofNat i)), (5, .int (hv (hv l (fun p => -TT p) n) (wpl D PL (Int32.ofNat nx)) n)), (6, .int 9)]) (st' := [.int (hv (hv l (fun p => -TT p) n) (wpl D PL (Int32.ofNat nx)) n)]) (s' := T2) rfl ?_
              refine yp_st rfl rfl (c_bits ?_)
              refine yp_run 1 (pc' := 81) (lv' := [(0, .ref 30), (1, .int l), (2, .int (t ||| (hv l (fun p => -TT p) n))), (3, .int (Int32.ofNat nx)), (4, .int (Int32.ofNat i)), (5, .int (hv (hv l (fun p => -TT p) n) (wpl D PL (Int32.ofNat nx)) n)), (6, .int 9)]) (st' := [.int 1, .int (bc6 (hv (hv l (fun p => -TT p) n) (wpl D PL (Int32.ofNat nx)) n))]) (s' := T2) rfl ?_
              refine yp_icmp rfl rfl (fun h81 => ?_) (fun h81 => ?_)
              · refine yp_run 4 (pc' := 117) (lv' := [(0, .ref 30), (1, .int l), (2, .int (t ||| (hv l (fun p => -TT p) n))), (3, .int (Int32.ofNat nx)), (4, .int (Int32.ofNat i)), (5, .int (hv (hv l (fun p => -TT p) n) (wpl D PL (Int32.ofNat nx)) n)), (6, .int 9)]) (st' := [.int 9, .int (Int32.ofNat nx), .int (hv (hv l (fun p => -TT p) n) (wpl D PL (Int32.ofNat nx)) n), .ref 30]) (s' := T2) rfl ?_
                have y0 : T2 30 0 = Int32.ofNat n := (congrFun (f2 _ (by decide)) 0).trans u0
                refine yp_vi rfl rfl rfl rfl (c_take (w := 9) (by decide) hn y0 ?_)
                obtain ⟨T4, hT4⟩ : ∃ X, X = tkSt T2 30 (hv (hv l (fun p => -TT p) n) (wpl D PL (Int32.ofNat nx)) n) (2 * (Int32.ofNat nx) + bc6 (hv (hv l (fun p => -TT p) n) (wpl D PL (Int32.ofNat nx)) n) - 1) 9 n := ⟨_, rfl⟩
                rw [← hT4]
                have g4 : ∀ k, k ≠ 38 → k ≠ 40 → k ≠ 51 → T4 k = s k := fun k a b c => by rw [hT4]; exact (tkSt_ne a b).trans ((f2 k c).trans (fr k a b c))
                have gE : ∀ p, p < n → T4 38 p = bif xcmp .eq (hd (hv (hv l (fun p => -TT p) n) (wpl D PL (Int32.ofNat nx)) n) (Int32.ofNat p)) 0 then E p else 2 * Int32.ofNat nx + bc6 (hv (hv l (fun p => -TT p) n) (wpl D PL (Int32.ofNat nx)) n) - 1 := fun p hp => by
                  rw [hT4]
                  unfold tkSt
                  rw [wr_ne (by decide), wr_in (Nat.zero_le _) hp]
                  unfold tkf
                  rw [show T2 (30 + 8) p = E p from (congrFun (f2 _ (by decide)) p).trans (hE p hp)]
                have gR : ∀ p, p < n → T4 40 p = bif xcmp .eq (hd (hv (hv l (fun p => -TT p) n) (wpl D PL (Int32.ofNat nx)) n) (Int32.ofNat p)) 0 then R p else 9 := fun p hp => by
                  rw [hT4]
                  unfold tkSt
                  rw [show 40 = 30 + 10 from rfl, wr_in (Nat.zero_le _) hp]
                  unfold tkf
                  rw [show T2 (30 + 10) p = R p from (congrFun (f2 _ (by decide)) p).trans (hR p hp)]
                refine yp_run 2 (pc' := 123) (lv' := [(0, .ref 30), (1, .int l), (2, .int (t ||| (hv l (fun p => -TT p) n))), (3, .int (Int32.ofNat nx)), (4, .int (Int32.ofNat i)), (5, .int (hv (hv l (fun p => -TT p) n) (wpl D PL (Int32.ofNat nx)) n)), (6, .int 9)]) (st' := [.int (hv (hv l (fun p => -TT p) n) (wpl D PL (Int32.ofNat nx)) n), .int (Int32.ofNat nx)]) (s' := T4) rfl ?_
                refine yp_st rfl rfl (c_bits ?_)
                refine yp_run 10 (pc' := 16) (lv' := [(0, .ref 30), (1, .int (l &&& ((hv (hv l (fun p => -TT p) n) (wpl D PL (Int32.ofNat nx)) n) ^^^ (-1)))), (2, .int (t ||| (hv l (fun p => -TT p) n))), (3, .int ((Int32.ofNat nx) + (bc6 (hv (hv l (fun p => -TT p) n) (wpl D PL (Int32.ofNat nx)) n)))), (4, .int ((Int32.ofNat i) + 1)), (5, .int (hv (hv l (fun p => -TT p) n) (wpl D PL (Int32.ofNat nx)) n)), (6, .int 9)]) (st' := []) (s' := T4) rfl ?_
                have e9 : pos n D TT PL WG nx (l, t) = ((l &&& ((hv (hv l (fun p => -TT p) n) (wpl D PL (Int32.ofNat nx)) n) ^^^ (-1))), (t ||| (hv l (fun p => -TT p) n)), (hv (hv l (fun p => -TT p) n) (wpl D PL (Int32.ofNat nx)) n), 9) := by
                  refine (pos_eq n D TT PL WG nx (l, t)).trans ?_
                  simp only [h42, h54, h81, cond_true, cond_false]
                have e7 := bcN_ok (hv (hv l (fun p => -TT p) n) (wpl D PL (Int32.ofNat nx)) n)
                have e6 := bcN_le (hv (hv l (fun p => -TT p) n) (wpl D PL (Int32.ofNat nx)) n)
                rw [i32_s, show Int32.ofNat nx + bc6 (hv (hv l (fun p => -TT p) n) (wpl D PL (Int32.ofNat nx)) n) = Int32.ofNat (nx + bcN (hv (hv l (fun p => -TT p) n) (wpl D PL (Int32.ofNat nx)) n)) from by rw [e7, Int32.ofNat_add]]
                refine yp_sel [0, 1, 2, 3, 4] ?_
                refine ih (i + 1) (nx + bcN (hv (hv l (fun p => -TT p) n) (wpl D PL (Int32.ofNat nx)) n)) _ _ _ _ T4 (by omega) (by omega) (by omega) g4 gE gR (fun T9 a1 a2 a3 => kk T9 a1 ?_ ?_)
                · intro p hp
                  rw [a2 p hp]
                  refine congrFun (congrArg Prod.fst ?_) p
                  refine Eq.symm ?_
                  refine (poR_s (hl := h26)).trans ?_
                  rw [e9]
                  rfl
                · intro p hp
                  rw [a3 p hp]
                  refine congrFun (congrArg Prod.snd ?_) p
                  refine Eq.symm ?_
                  refine (poR_s (hl := h26)).trans ?_
                  rw [e9]
                  rfl
              · refine yp_run 3 (pc' := 88) (lv' := [(0, .ref 30), (1, .int l), (2, .int (t ||| (hv l (fun p => -TT p) n))), (3, .int (Int32.ofNat nx)), (4, .int (Int32.ofNat i)), (5, .int (hv (hv l (fun p => -TT p) n) (wpl D PL (Int32.ofNat nx)) n)), (6, .int 9)]) (st' := [.int (Int32.ofNat nx), .int (hv (hv l (fun p => -TT p) n) (wpl D PL (Int32.ofNat nx)) n), .ref 30]) (s' := T2) rfl ?_
                have v0 : T2 30 0 = Int32.ofNat n := (congrFun (f2 _ (by decide)) 0).trans u0
                have v1 : T2 30 1 = Int32.ofNat D := (congrFun (f2 _ (by decide)) 1).trans u1
                refine yp_vi rfl rfl rfl rfl (c_bmrk (WG := WG) (by decide) hn hD h1x (by omega) v0 v1 (fun d p q h1 h2 h3 h4 => (congrFun ((f2 _ (by decide)).trans (fr _ (by decide) (by decide) (by decide))) _).trans (hWG d p q h1 h2 h3 h4)) ?_)
                obtain ⟨T3, hT3⟩ : ∃ X, X = bmSt T2 30 n D nx WG (n + 1 - nx) := ⟨_, rfl⟩
                rw [← hT3]
                have f3 : ∀ k, k ≠ 51 → T3 k = T k := fun k q => by rw [hT3]; exact (bmSt_ne q).trans (f2 k q)
                refine yp_run 2 (pc' := 95) (lv' := [(0, .ref 30), (1, .int l), (2, .int (t ||| (hv l (fun p => -TT p) n))), (3, .int (Int32.ofNat nx)), (4, .int (Int32.ofNat i)), (5, .int (bmk n D nx WG (hv (hv l (fun p => -TT p) n) (wpl D PL (Int32.ofNat nx)) n) (n + 1 - nx))), (6, .int 9)]) (st' := [.int (bmk n D nx WG (hv (hv l (fun p => -TT p) n) (wpl D PL (Int32.ofNat nx)) n) (n + 1 - nx))]) (s' := T3) rfl ?_
                refine yp_st rfl rfl (c_bits ?_)
                refine yp_run 1 (pc' := 99) (lv' := [(0, .ref 30), (1, .int l), (2, .int (t ||| (hv l (fun p => -TT p) n))), (3, .int (Int32.ofNat nx)), (4, .int (Int32.ofNat i)), (5, .int (bmk n D nx WG (hv (hv l (fun p => -TT p) n) (wpl D PL (Int32.ofNat nx)) n) (n + 1 - nx))), (6, .int 9)]) (st' := [.int 1, .int (bc6 (bmk n D nx WG (hv (hv l (fun p => -TT p) n) (wpl D PL (Int32.ofNat nx)) n) (n + 1 - nx)))]) (s' := T3) rfl ?_
                refine yp_icmp rfl rfl (fun h99 => ?_) (fun h99 => ?_)
                · refine yp_run 6 (pc' := 117) (lv' := [(0, .ref 30), (1, .int l), (2, .int (t ||| (hv l (fun p => -TT p) n))), (3, .int (Int32.ofNat nx)), (4, .int (Int32.ofNat i)), (5, .int (bmk n D nx WG (hv (hv l (fun p => -TT p) n) (wpl D PL (Int32.ofNat nx)) n) (n + 1 - nx))), (6, .int 11)]) (st' := [.int 11, .int (Int32.ofNat nx), .int (bmk n D nx WG (hv (hv l (fun p => -TT p) n) (wpl D PL (Int32.ofNat nx)) n) (n + 1 - nx)), .ref 30]) (s' := T3) rfl ?_
                  have y0 : T3 30 0 = Int32.ofNat n := (congrFun (f3 _ (by decide)) 0).trans u0
                  refine yp_vi rfl rfl rfl rfl (c_take (w := 11) (by decide) hn y0 ?_)
                  obtain ⟨T4, hT4⟩ : ∃ X, X = tkSt T3 30 (bmk n D nx WG (hv (hv l (fun p => -TT p) n) (wpl D PL (Int32.ofNat nx)) n) (n + 1 - nx)) (2 * (Int32.ofNat nx) + bc6 (bmk n D nx WG (hv (hv l (fun p => -TT p) n) (wpl D PL (Int32.ofNat nx)) n) (n + 1 - nx)) - 1) 11 n := ⟨_, rfl⟩
                  rw [← hT4]
                  have g4 : ∀ k, k ≠ 38 → k ≠ 40 → k ≠ 51 → T4 k = s k := fun k a b c => by rw [hT4]; exact (tkSt_ne a b).trans ((f3 k c).trans (fr k a b c))
                  have gE : ∀ p, p < n → T4 38 p = bif xcmp .eq (hd (bmk n D nx WG (hv (hv l (fun p => -TT p) n) (wpl D PL (Int32.ofNat nx)) n) (n + 1 - nx)) (Int32.ofNat p)) 0 then E p else 2 * Int32.ofNat nx + bc6 (bmk n D nx WG (hv (hv l (fun p => -TT p) n) (wpl D PL (Int32.ofNat nx)) n) (n + 1 - nx)) - 1 := fun p hp => by
                    rw [hT4]
                    unfold tkSt
                    rw [wr_ne (by decide), wr_in (Nat.zero_le _) hp]
                    unfold tkf
                    rw [show T3 (30 + 8) p = E p from (congrFun (f3 _ (by decide)) p).trans (hE p hp)]
                  have gR : ∀ p, p < n → T4 40 p = bif xcmp .eq (hd (bmk n D nx WG (hv (hv l (fun p => -TT p) n) (wpl D PL (Int32.ofNat nx)) n) (n + 1 - nx)) (Int32.ofNat p)) 0 then R p else 11 := fun p hp => by
                    rw [hT4]
                    unfold tkSt
                    rw [show 40 = 30 + 10 from rfl, wr_in (Nat.zero_le _) hp]
                    unfold tkf
                    rw [show T3 (30 + 10) p = R p from (congrFun (f3 _ (by decide)) p).trans (hR p hp)]
                  refine yp_run 2 (pc' := 123) (lv' := [(0, .ref 30), (1, .int l), (2, .int (t ||| (hv l (fun p => -TT p) n))), (3, .int (Int32.ofNat nx)), (4, .int (Int32.ofNat i)), (5, .int (bmk n D nx WG (hv (hv l (fun p => -TT p) n) (wpl D PL (Int32.ofNat nx)) n) (n + 1 - nx))), (6, .int 11)]) (st' := [.int (bmk n D nx WG (hv (hv l (fun p => -TT p) n) (wpl D PL (Int32.ofNat nx)) n) (n + 1 - nx)), .int (Int32.ofNat nx)]) (s' := T4) rfl ?_
                  refine yp_st rfl rfl (c_bits ?_)
                  refine yp_run 10 (pc' := 16) (lv' := [(0, .ref 30), (1, .int (l &&& ((bmk n D nx WG (hv (hv l (fun p => -TT p) n) (wpl D PL (Int32.ofNat nx)) n) (n + 1 - nx)) ^^^ (-1)))), (2, .int (t ||| (hv l (fun p => -TT p) n))), (3, .int ((Int32.ofNat nx) + (bc6 (bmk n D nx WG (hv (hv l (fun p => -TT p) n) (wpl D PL (Int32.ofNat nx)) n) (n + 1 - nx))))), (4, .int ((Int32.ofNat i) + 1)), (5, .int (bmk n D nx WG (hv (hv l (fun p => -TT p) n) (wpl D PL (Int32.ofNat nx)) n) (n + 1 - nx))), (6, .int 11)]) (st' := []) (s' := T4) rfl ?_
                  have e9 : pos n D TT PL WG nx (l, t) = ((l &&& ((bmk n D nx WG (hv (hv l (fun p => -TT p) n) (wpl D PL (Int32.ofNat nx)) n) (n + 1 - nx)) ^^^ (-1))), (t ||| (hv l (fun p => -TT p) n)), (bmk n D nx WG (hv (hv l (fun p => -TT p) n) (wpl D PL (Int32.ofNat nx)) n) (n + 1 - nx)), 11) := by
                    refine (pos_eq n D TT PL WG nx (l, t)).trans ?_
                    simp only [h42, h54, h81, h99, cond_true, cond_false]
                  have e7 := bcN_ok (bmk n D nx WG (hv (hv l (fun p => -TT p) n) (wpl D PL (Int32.ofNat nx)) n) (n + 1 - nx))
                  have e6 := bcN_le (bmk n D nx WG (hv (hv l (fun p => -TT p) n) (wpl D PL (Int32.ofNat nx)) n) (n + 1 - nx))
                  rw [i32_s, show Int32.ofNat nx + bc6 (bmk n D nx WG (hv (hv l (fun p => -TT p) n) (wpl D PL (Int32.ofNat nx)) n) (n + 1 - nx)) = Int32.ofNat (nx + bcN (bmk n D nx WG (hv (hv l (fun p => -TT p) n) (wpl D PL (Int32.ofNat nx)) n) (n + 1 - nx))) from by rw [e7, Int32.ofNat_add]]
                  refine yp_sel [0, 1, 2, 3, 4] ?_
                  refine ih (i + 1) (nx + bcN (bmk n D nx WG (hv (hv l (fun p => -TT p) n) (wpl D PL (Int32.ofNat nx)) n) (n + 1 - nx))) _ _ _ _ T4 (by omega) (by omega) (by omega) g4 gE gR (fun T9 a1 a2 a3 => kk T9 a1 ?_ ?_)
                  · intro p hp
                    rw [a2 p hp]
                    refine congrFun (congrArg Prod.fst ?_) p
                    refine Eq.symm ?_
                    refine (poR_s (hl := h26)).trans ?_
                    rw [e9]
                    rfl
                  · intro p hp
                    rw [a3 p hp]
                    refine congrFun (congrArg Prod.snd ?_) p
                    refine Eq.symm ?_
                    refine (poR_s (hl := h26)).trans ?_
                    rw [e9]
                    rfl
                · refine yp_run 7 (pc' := 117) (lv' := [(0, .ref 30), (1, .int l), (2, .int (t ||| (hv l (fun p => -TT p) n))), (3, .int (Int32.ofNat nx)), (4, .int (Int32.ofNat i)), (5, .int (bmk n D nx WG (hv (hv l (fun p => -TT p) n) (wpl D PL (Int32.ofNat nx)) n) (n + 1 - nx))), (6, .int 12)]) (st' := [.int 12, .int (Int32.ofNat nx), .int (bmk n D nx WG (hv (hv l (fun p => -TT p) n) (wpl D PL (Int32.ofNat nx)) n) (n + 1 - nx)), .ref 30]) (s' := T3) rfl ?_
                  have y0 : T3 30 0 = Int32.ofNat n := (congrFun (f3 _ (by decide)) 0).trans u0
                  refine yp_vi rfl rfl rfl rfl (c_take (w := 12) (by decide) hn y0 ?_)
                  obtain ⟨T4, hT4⟩ : ∃ X, X = tkSt T3 30 (bmk n D nx WG (hv (hv l (fun p => -TT p) n) (wpl D PL (Int32.ofNat nx)) n) (n + 1 - nx)) (2 * (Int32.ofNat nx) + bc6 (bmk n D nx WG (hv (hv l (fun p => -TT p) n) (wpl D PL (Int32.ofNat nx)) n) (n + 1 - nx)) - 1) 12 n := ⟨_, rfl⟩
                  rw [← hT4]
                  have g4 : ∀ k, k ≠ 38 → k ≠ 40 → k ≠ 51 → T4 k = s k := fun k a b c => by rw [hT4]; exact (tkSt_ne a b).trans ((f3 k c).trans (fr k a b c))
                  have gE : ∀ p, p < n → T4 38 p = bif xcmp .eq (hd (bmk n D nx WG (hv (hv l (fun p => -TT p) n) (wpl D PL (Int32.ofNat nx)) n) (n + 1 - nx)) (Int32.ofNat p)) 0 then E p else 2 * Int32.ofNat nx + bc6 (bmk n D nx WG (hv (hv l (fun p => -TT p) n) (wpl D PL (Int32.ofNat nx)) n) (n + 1 - nx)) - 1 := fun p hp => by
                    rw [hT4]
                    unfold tkSt
                    rw [wr_ne (by decide), wr_in (Nat.zero_le _) hp]
                    unfold tkf
                    rw [show T3 (30 + 8) p = E p from (congrFun (f3 _ (by decide)) p).trans (hE p hp)]
                  have gR : ∀ p, p < n → T4 40 p = bif xcmp .eq (hd (bmk n D nx WG (hv (hv l (fun p => -TT p) n) (wpl D PL (Int32.ofNat nx)) n) (n + 1 - nx)) (Int32.ofNat p)) 0 then R p else 12 := fun p hp => by
                    rw [hT4]
                    unfold tkSt
                    rw [show 40 = 30 + 10 from rfl, wr_in (Nat.zero_le _) hp]
                    unfold tkf
                    rw [show T3 (30 + 10) p = R p from (congrFun (f3 _ (by decide)) p).trans (hR p hp)]
                  refine yp_run 2 (pc' := 123) (lv' := [(0, .ref 30), (1, .int l), (2, .int (t ||| (hv l (fun p => -TT p) n))), (3, .int (Int32.ofNat nx)), (4, .int (Int32.ofNat i)), (5, .int (bmk n D nx WG (hv (hv l (fun p => -TT p) n) (wpl D PL (Int32.ofNat nx)) n) (n + 1 - nx))), (6, .int 12)]) (st' := [.int (bmk n D nx WG (hv (hv l (fun p => -TT p) n) (wpl D PL (Int32.ofNat nx)) n) (n + 1 - nx)), .int (Int32.ofNat nx)]) (s' := T4) rfl ?_
                  refine yp_st rfl rfl (c_bits ?_)
                  refine yp_run 10 (pc' := 16) (lv' := [(0, .ref 30), (1, .int (l &&& ((bmk n D nx WG (hv (hv l (fun p => -TT p) n) (wpl D PL (Int32.ofNat nx)) n) (n + 1 - nx)) ^^^ (-1)))), (2, .int (t ||| (hv l (fun p => -TT p) n))), (3, .int ((Int32.ofNat nx) + (bc6 (bmk n D nx WG (hv (hv l (fun p => -TT p) n) (wpl D PL (Int32.ofNat nx)) n) (n + 1 - nx))))), (4, .int ((Int32.ofNat i) + 1)), (5, .int (bmk n D nx WG (hv (hv l (fun p => -TT p) n) (wpl D PL (Int32.ofNat nx)) n) (n + 1 - nx))), (6, .int 12)]) (st' := []) (s' := T4) rfl ?_
                  have e9 : pos n D TT PL WG nx (l, t) = ((l &&& ((bmk n D nx WG (hv (hv l (fun p => -TT p) n) (wpl D PL (Int32.ofNat nx)) n) (n + 1 - nx)) ^^^ (-1))), (t ||| (hv l (fun p => -TT p) n)), (bmk n D nx WG (hv (hv l (fun p => -TT p) n) (wpl D PL (Int32.ofNat nx)) n) (n + 1 - nx)), 12) := by
                    refine (pos_eq n D TT PL WG nx (l, t)).trans ?_
                    simp only [h42, h54, h81, h99, cond_true, cond_false]
                  have e7 := bcN_ok (bmk n D nx WG (hv (hv l (fun p => -TT p) n) (wpl D PL (Int32.ofNat nx)) n) (n + 1 - nx))
                  have e6 := bcN_le (bmk n D nx WG (hv (hv l (fun p => -TT p) n) (wpl D PL (Int32.ofNat nx)) n) (n + 1 - nx))
                  rw [i32_s, show Int32.ofNat nx + bc6 (bmk n D nx WG (hv (hv l (fun p => -TT p) n) (wpl D PL (Int32.ofNat nx)) n) (n + 1 - nx)) = Int32.ofNat (nx + bcN (bmk n D nx WG (hv (hv l (fun p => -TT p) n) (wpl D PL (Int32.ofNat nx)) n) (n + 1 - nx))) from by rw [e7, Int32.ofNat_add]]
                  refine yp_sel [0, 1, 2, 3, 4] ?_
                  refine ih (i + 1) (nx + bcN (bmk n D nx WG (hv (hv l (fun p => -TT p) n) (wpl D PL (Int32.ofNat nx)) n) (n + 1 - nx))) _ _ _ _ T4 (by omega) (by omega) (by omega) g4 gE gR (fun T9 a1 a2 a3 => kk T9 a1 ?_ ?_)
                  · intro p hp
                    rw [a2 p hp]
                    refine congrFun (congrArg Prod.fst ?_) p
                    refine Eq.symm ?_
                    refine (poR_s (hl := h26)).trans ?_
                    rw [e9]
                    rfl
                  · intro p hp
                    rw [a3 p hp]
                    refine congrFun (congrArg Prod.snd ?_) p
                    refine Eq.symm ?_
                    refine (poR_s (hl := h26)).trans ?_
                    rw [e9]
                    rfl
  · have hz : s 52 0 = Int32.ofNat n := hz
    have hD1 : s 52 1 = Int32.ofNat D := hD1
    intro m
    induction m with
    | zero =>
      intro i nx l t E R T hi h1x h2x fr hE hR kk
      have hzT : T 52 0 = Int32.ofNat n := (congrFun (fr _ (by decide) (by decide) (by decide)) 0).trans hz
      refine yp_run 3 (pc' := 22) (lv' := [(0, .ref 52), (1, .int l), (2, .int t), (3, .int (Int32.ofNat nx)), (4, .int (Int32.ofNat i))]) (st' := [.int (T 52 0), .int (Int32.ofNat i)]) (s' := T) rfl ?_
      refine yp_icmp rfl rfl (fun h => ?_) (fun h => ?_)
      · refine yp_sel [] ?_
        refine yp_rv rfl rfl ?_
        exact kk T fr hE hR
      · have h := xN (xc_ge _ _) h
        rw [hzT, i32_to (by omega), i32_to (by omega)] at h
        omega
    | succ m ih =>
      intro i nx l t E R T hi h1x h2x fr hE hR kk
      have hzT : T 52 0 = Int32.ofNat n := (congrFun (fr _ (by decide) (by decide) (by decide)) 0).trans hz
      refine yp_run 3 (pc' := 22) (lv' := [(0, .ref 52), (1, .int l), (2, .int t), (3, .int (Int32.ofNat nx)), (4, .int (Int32.ofNat i))]) (st' := [.int (T 52 0), .int (Int32.ofNat i)]) (s' := T) rfl ?_
      refine yp_icmp rfl rfl (fun h => ?_) (fun h => ?_)
      · have h := xT (xc_ge _ _) h
        rw [hzT, i32_to (by omega), i32_to (by omega)] at h
        omega
      · refine yp_run 1 (pc' := 26) (lv' := [(0, .ref 52), (1, .int l), (2, .int t), (3, .int (Int32.ofNat nx)), (4, .int (Int32.ofNat i))]) (st' := [.int l]) (s' := T) rfl ?_
        refine yp_if rfl rfl (fun h26 => ?_) (fun h26 => ?_)
        · refine yp_sel [] ?_
          refine yp_rv rfl rfl ?_
          exact kk T fr (fun p hp => by rw [poR_0 h26]; exact hE p hp) (fun p hp => by rw [poR_0 h26]; exact hR p hp)
        · refine yp_run 2 (pc' := 31) (lv' := [(0, .ref 52), (1, .int l), (2, .int t), (3, .int (Int32.ofNat nx)), (4, .int (Int32.ofNat i))]) (st' := [.int l, .ref 52]) (s' := T) rfl ?_
          have u0 : T 52 0 = Int32.ofNat n := (congrFun (fr _ (by decide) (by decide) (by decide)) 0).trans hz
          have u1 : T 52 1 = Int32.ofNat D := (congrFun (fr _ (by decide) (by decide) (by decide)) 1).trans hD1
          refine yp_vi rfl rfl rfl rfl (c_btot (TT := TT) (by decide) hn u0 (fun p hp => (congrFun (fr _ (by decide) (by decide) (by decide)) p).trans (hTT p hp)) ?_)
          obtain ⟨T1, hT1⟩ : ∃ X, X = wr T 73 0 n (fun p => -TT p) := ⟨_, rfl⟩
          rw [← hT1]
          have f1 : ∀ k, k ≠ 73 → T1 k = T k := fun k q => by rw [hT1]; exact wr_ne q
          refine yp_run 2 (pc' := 38) (lv' := [(0, .ref 52), (1, .int l), (2, .int t), (3, .int (Int32.ofNat nx)), (4, .int (Int32.ofNat i)), (5, .int (hv l (fun p => -TT p) n))]) (st' := [.int (hv l (fun p => -TT p) n)]) (s' := T1) rfl ?_
          refine yp_st rfl rfl (c_bits ?_)
          refine yp_run 1 (pc' := 42) (lv' := [(0, .ref 52), (1, .int l), (2, .int t), (3, .int (Int32.ofNat nx)), (4, .int (Int32.ofNat i)), (5, .int (hv l (fun p => -TT p) n))]) (st' := [.int 1, .int (bc6 (hv l (fun p => -TT p) n))]) (s' := T1) rfl ?_
          refine yp_icmp rfl rfl (fun h42 => ?_) (fun h42 => ?_)
          · refine yp_run 3 (pc' := 54) (lv' := [(0, .ref 52), (1, .int l), (2, .int t), (3, .int (Int32.ofNat nx)), (4, .int (Int32.ofNat i)), (5, .int (hv l (fun p => -TT p) n))]) (st' := [.int ((hv l (fun p => -TT p) n) &&& t)]) (s' := T1) rfl ?_
            refine yp_if rfl rfl (fun h54 => ?_) (fun h54 => ?_)
            · refine yp_run 5 (pc' := 70) (lv' := [(0, .ref 52), (1, .int l), (2, .int t), (3, .int (Int32.ofNat nx)), (4, .int (Int32.ofNat i)), (5, .int (hv l (fun p => -TT p) n)), (6, .int 10)]) (st' := [.int (Int32.ofNat nx), .int (hv l (fun p => -TT p) n), .ref 52]) (s' := T1) rfl ?_
              have v0 : T1 52 0 = Int32.ofNat n := (congrFun (f1 _ (by decide)) 0).trans u0
              have v1 : T1 52 1 = Int32.ofNat D := (congrFun (f1 _ (by decide)) 1).trans u1
              refine yp_vi rfl rfl rfl rfl (c_bplc (PL := PL) (by decide) hn hD v0 v1 (fun d p h1 h2 => (congrFun ((f1 _ (by decide)).trans (fr _ (by decide) (by decide) (by decide))) _).trans (hPL d p h1 h2)) ?_)
              obtain ⟨T2, hT2⟩ : ∃ X, X = wr T1 73 0 n (wpl D PL (Int32.ofNat nx)) := ⟨_, rfl⟩
              rw [← hT2]
              have f2 : ∀ k, k ≠ 73 → T2 k = T k := fun k q => by rw [hT2]; exact (wr_ne q).trans (f1 k q)
              refine yp_run 2 (pc' := 77) (lv' := [(0, .ref 52), (1, .int l), (2, .int t), (3, .int (Int32.ofNat nx)), (4, .int (Int32.ofNat i)), (5, .int (hv (hv l (fun p => -TT p) n) (wpl D PL (Int32.ofNat nx)) n)), (6, .int 10)]) (st' := [.int (hv (hv l (fun p => -TT p) n) (wpl D PL (Int32.ofNat nx)) n)]) (s' := T2) rfl ?_
              refine yp_st rfl rfl (c_bits ?_)
              refine yp_run 1 (pc' := 81) (lv' := [(0, .ref 52), (1, .int l), (2, .int t), (3, .int (Int32.ofNat nx)), (4, .int (Int32.ofNat i)), (5, .int (hv (hv l (fun p => -TT p) n) (wpl D PL (Int32.ofNat nx)) n)), (6, .int 10)]) (st' := [.int 1, .int (bc6 (hv (hv l (fun p => -TT p) n) (wpl D PL (Int32.ofNat nx)) n))]) (s' := T2) rfl ?_
              refine yp_icmp rfl rfl (fun h81 => ?_) (fun h81 => ?_)
              · refine yp_run 4 (pc' := 117) (lv' := [(0, .ref 52), (1, .int l), (2, .int t), (3, .int (Int32.ofNat nx)), (4, .int (Int32.ofNat i)), (5, .int (hv (hv l (fun p => -TT p) n) (wpl D PL (Int32.ofNat nx)) n)), (6, .int 10)]) (st' := [.int 10, .int (Int32.ofNat nx), .int (hv (hv l (fun p => -TT p) n) (wpl D PL (Int32.ofNat nx)) n), .ref 52]) (s' := T2) rfl ?_
                have y0 : T2 52 0 = Int32.ofNat n := (congrFun (f2 _ (by decide)) 0).trans u0
                refine yp_vi rfl rfl rfl rfl (c_take (w := 10) (by decide) hn y0 ?_)
                obtain ⟨T4, hT4⟩ : ∃ X, X = tkSt T2 52 (hv (hv l (fun p => -TT p) n) (wpl D PL (Int32.ofNat nx)) n) (2 * (Int32.ofNat nx) + bc6 (hv (hv l (fun p => -TT p) n) (wpl D PL (Int32.ofNat nx)) n) - 1) 10 n := ⟨_, rfl⟩
                rw [← hT4]
                have g4 : ∀ k, k ≠ 60 → k ≠ 62 → k ≠ 73 → T4 k = s k := fun k a b c => by rw [hT4]; exact (tkSt_ne a b).trans ((f2 k c).trans (fr k a b c))
                have gE : ∀ p, p < n → T4 60 p = bif xcmp .eq (hd (hv (hv l (fun p => -TT p) n) (wpl D PL (Int32.ofNat nx)) n) (Int32.ofNat p)) 0 then E p else 2 * Int32.ofNat nx + bc6 (hv (hv l (fun p => -TT p) n) (wpl D PL (Int32.ofNat nx)) n) - 1 := fun p hp => by
                  rw [hT4]
                  unfold tkSt
                  rw [wr_ne (by decide), wr_in (Nat.zero_le _) hp]
                  unfold tkf
                  rw [show T2 (52 + 8) p = E p from (congrFun (f2 _ (by decide)) p).trans (hE p hp)]
                have gR : ∀ p, p < n → T4 62 p = bif xcmp .eq (hd (hv (hv l (fun p => -TT p) n) (wpl D PL (Int32.ofNat nx)) n) (Int32.ofNat p)) 0 then R p else 10 := fun p hp => by
                  rw [hT4]
                  unfold tkSt
                  rw [show 62 = 52 + 10 from rfl, wr_in (Nat.zero_le _) hp]
                  unfold tkf
                  rw [show T2 (52 + 10) p = R p from (congrFun (f2 _ (by decide)) p).trans (hR p hp)]
                refine yp_run 2 (pc' := 123) (lv' := [(0, .ref 52), (1, .int l), (2, .int t), (3, .int (Int32.ofNat nx)), (4, .int (Int32.ofNat i)), (5, .int (hv (hv l (fun p => -TT p) n) (wpl D PL (Int32.ofNat nx)) n)), (6, .int 10)]) (st' := [.int (hv (hv l (fun p => -TT p) n) (wpl D PL (Int32.ofNat nx)) n), .int (Int32.ofNat nx)]) (s' := T4) rfl ?_
                refine yp_st rfl rfl (c_bits ?_)
                refine yp_run 10 (pc' := 16) (lv' := [(0, .ref 52), (1, .int (l &&& ((hv (hv l (fun p => -TT p) n) (wpl D PL (Int32.ofNat nx)) n) ^^^ (-1)))), (2, .int t), (3, .int ((Int32.ofNat nx) + (bc6 (hv (hv l (fun p => -TT p) n) (wpl D PL (Int32.ofNat nx)) n)))), (4, .int ((Int32.ofNat i) + 1)), (5, .int (hv (hv l (fun p => -TT p) n) (wpl D PL (Int32.ofNat nx)) n)), (6, .int 10)]) (st' := []) (s' := T4) rfl ?_
                have e9 : pos n D TT PL WG nx (l, t) = ((l &&& ((hv (hv l (fun p => -TT p) n) (wpl D PL (Int32.ofNat nx)) n) ^^^ (-1))), t, (hv (hv l (fun p => -TT p) n) (wpl D PL (Int32.ofNat nx)) n), 10) := by
                  refine (pos_eq n D TT PL WG nx (l, t)).trans ?_
                  simp only [h42, h54, h81, cond_true, cond_false]
                have e7 := bcN_ok (hv (hv l (fun p => -TT p) n) (wpl D PL (Int32.ofNat nx)) n)
                have e6 := bcN_le (hv (hv l (fun p => -TT p) n) (wpl D PL (Int32.ofNat nx)) n)
                rw [i32_s, show Int32.ofNat nx + bc6 (hv (hv l (fun p => -TT p) n) (wpl D PL (Int32.ofNat nx)) n) = Int32.ofNat (nx + bcN (hv (hv l (fun p => -TT p) n) (wpl D PL (Int32.ofNat nx)) n)) from by rw [e7, Int32.ofNat_add]]
                refine yp_sel [0, 1, 2, 3, 4] ?_
                refine ih (i + 1) (nx + bcN (hv (hv l (fun p => -TT p) n) (wpl D PL (Int32.ofNat nx)) n)) _ _ _ _ T4 (by omega) (by omega) (by omega) g4 gE gR (fun T9 a1 a2 a3 => kk T9 a1 ?_ ?_)
                · intro p hp
                  rw [a2 p hp]
                  refine congrFun (congrArg Prod.fst ?_) p
                  refine Eq.symm ?_
                  refine (poR_s (hl := h26)).trans ?_
                  rw [e9]
                  rfl
                · intro p hp
                  rw [a3 p hp]
                  refine congrFun (congrArg Prod.snd ?_) p
                  refine Eq.symm ?_
                  refine (poR_s (hl := h26)).trans ?_
                  rw [e9]
                  rfl
              · refine yp_run 3 (pc' := 88) (lv' := [(0, .ref 52), (1, .int l), (2, .int t), (3, .int (Int32.ofNat nx)), (4, .int (Int32.ofNat i)), (5, .int (hv (hv l (fun p => -TT p) n) (wpl D PL (Int32.ofNat nx)) n)), (6, .int 10)]) (st' := [.int (Int32.ofNat nx), .int (hv (hv l (fun p => -TT p) n) (wpl D PL (Int32.ofNat nx)) n), .ref 52]) (s' := T2) rfl ?_
                have v0 : T2 52 0 = Int32.ofNat n := (congrFun (f2 _ (by decide)) 0).trans u0
                have v1 : T2 52 1 = Int32.ofNat D := (congrFun (f2 _ (by decide)) 1).trans u1
                refine yp_vi rfl rfl rfl rfl (c_bmrk (WG := WG) (by decide) hn hD h1x (by omega) v0 v1 (fun d p q h1 h2 h3 h4 => (congrFun ((f2 _ (by decide)).trans (fr _ (by decide) (by decide) (by decide))) _).trans (hWG d p q h1 h2 h3 h4)) ?_)
                obtain ⟨T3, hT3⟩ : ∃ X, X = bmSt T2 52 n D nx WG (n + 1 - nx) := ⟨_, rfl⟩
                rw [← hT3]
                have f3 : ∀ k, k ≠ 73 → T3 k = T k := fun k q => by rw [hT3]; exact (bmSt_ne q).trans (f2 k q)
                refine yp_run 2 (pc' := 95) (lv' := [(0, .ref 52), (1, .int l), (2, .int t), (3, .int (Int32.ofNat nx)), (4, .int (Int32.ofNat i)), (5, .int (bmk n D nx WG (hv (hv l (fun p => -TT p) n) (wpl D PL (Int32.ofNat nx)) n) (n + 1 - nx))), (6, .int 10)]) (st' := [.int (bmk n D nx WG (hv (hv l (fun p => -TT p) n) (wpl D PL (Int32.ofNat nx)) n) (n + 1 - nx))]) (s' := T3) rfl ?_
                refine yp_st rfl rfl (c_bits ?_)
                refine yp_run 1 (pc' := 99) (lv' := [(0, .ref 52), (1, .int l), (2, .int t), (3, .int (Int32.ofNat nx)), (4, .int (Int32.ofNat i)), (5, .int (bmk n D nx WG (hv (hv l (fun p => -TT p) n) (wpl D PL (Int32.ofNat nx)) n) (n + 1 - nx))), (6, .int 10)]) (st' := [.int 1, .int (bc6 (bmk n D nx WG (hv (hv l (fun p => -TT p) n) (wpl D PL (Int32.ofNat nx)) n) (n + 1 - nx)))]) (s' := T3) rfl ?_
                refine yp_icmp rfl rfl (fun h99 => ?_) (fun h99 => ?_)
                · refine yp_run 6 (pc' := 117) (lv' := [(0, .ref 52), (1, .int l), (2, .int t), (3, .int (Int32.ofNat nx)), (4, .int (Int32.ofNat i)), (5, .int (bmk n D nx WG (hv (hv l (fun p => -TT p) n) (wpl D PL (Int32.ofNat nx)) n) (n + 1 - nx))), (6, .int 11)]) (st' := [.int 11, .int (Int32.ofNat nx), .int (bmk n D nx WG (hv (hv l (fun p => -TT p) n) (wpl D PL (Int32.ofNat nx)) n) (n + 1 - nx)), .ref 52]) (s' := T3) rfl ?_
                  have y0 : T3 52 0 = Int32.ofNat n := (congrFun (f3 _ (by decide)) 0).trans u0
                  refine yp_vi rfl rfl rfl rfl (c_take (w := 11) (by decide) hn y0 ?_)
                  obtain ⟨T4, hT4⟩ : ∃ X, X = tkSt T3 52 (bmk n D nx WG (hv (hv l (fun p => -TT p) n) (wpl D PL (Int32.ofNat nx)) n) (n + 1 - nx)) (2 * (Int32.ofNat nx) + bc6 (bmk n D nx WG (hv (hv l (fun p => -TT p) n) (wpl D PL (Int32.ofNat nx)) n) (n + 1 - nx)) - 1) 11 n := ⟨_, rfl⟩
                  rw [← hT4]
                  have g4 : ∀ k, k ≠ 60 → k ≠ 62 → k ≠ 73 → T4 k = s k := fun k a b c => by rw [hT4]; exact (tkSt_ne a b).trans ((f3 k c).trans (fr k a b c))
                  have gE : ∀ p, p < n → T4 60 p = bif xcmp .eq (hd (bmk n D nx WG (hv (hv l (fun p => -TT p) n) (wpl D PL (Int32.ofNat nx)) n) (n + 1 - nx)) (Int32.ofNat p)) 0 then E p else 2 * Int32.ofNat nx + bc6 (bmk n D nx WG (hv (hv l (fun p => -TT p) n) (wpl D PL (Int32.ofNat nx)) n) (n + 1 - nx)) - 1 := fun p hp => by
                    rw [hT4]
                    unfold tkSt
                    rw [wr_ne (by decide), wr_in (Nat.zero_le _) hp]
                    unfold tkf
                    rw [show T3 (52 + 8) p = E p from (congrFun (f3 _ (by decide)) p).trans (hE p hp)]
                  have gR : ∀ p, p < n → T4 62 p = bif xcmp .eq (hd (bmk n D nx WG (hv (hv l (fun p => -TT p) n) (wpl D PL (Int32.ofNat nx)) n) (n + 1 - nx)) (Int32.ofNat p)) 0 then R p else 11 := fun p hp => by
                    rw [hT4]
                    unfold tkSt
                    rw [show 62 = 52 + 10 from rfl, wr_in (Nat.zero_le _) hp]
                    unfold tkf
                    rw [show T3 (52 + 10) p = R p from (congrFun (f3 _ (by decide)) p).trans (hR p hp)]
                  refine yp_run 2 (pc' := 123) (lv' := [(0, .ref 52), (1, .int l), (2, .int t), (3, .int (Int32.ofNat nx)), (4, .int (Int32.ofNat i)), (5, .int (bmk n D nx WG (hv (hv l (fun p => -TT p) n) (wpl D PL (Int32.ofNat nx)) n) (n + 1 - nx))), (6, .int 11)]) (st' := [.int (bmk n D nx WG (hv (hv l (fun p => -TT p) n) (wpl D PL (Int32.ofNat nx)) n) (n + 1 - nx)), .int (Int32.ofNat nx)]) (s' := T4) rfl ?_
                  refine yp_st rfl rfl (c_bits ?_)
                  refine yp_run 10 (pc' := 16) (lv' := [(0, .ref 52), (1, .int (l &&& ((bmk n D nx WG (hv (hv l (fun p => -TT p) n) (wpl D PL (Int32.ofNat nx)) n) (n + 1 - nx)) ^^^ (-1)))), (2, .int t), (3, .int ((Int32.ofNat nx) + (bc6 (bmk n D nx WG (hv (hv l (fun p => -TT p) n) (wpl D PL (Int32.ofNat nx)) n) (n + 1 - nx))))), (4, .int ((Int32.ofNat i) + 1)), (5, .int (bmk n D nx WG (hv (hv l (fun p => -TT p) n) (wpl D PL (Int32.ofNat nx)) n) (n + 1 - nx))), (6, .int 11)]) (st' := []) (s' := T4) rfl ?_
                  have e9 : pos n D TT PL WG nx (l, t) = ((l &&& ((bmk n D nx WG (hv (hv l (fun p => -TT p) n) (wpl D PL (Int32.ofNat nx)) n) (n + 1 - nx)) ^^^ (-1))), t, (bmk n D nx WG (hv (hv l (fun p => -TT p) n) (wpl D PL (Int32.ofNat nx)) n) (n + 1 - nx)), 11) := by
                    refine (pos_eq n D TT PL WG nx (l, t)).trans ?_
                    simp only [h42, h54, h81, h99, cond_true, cond_false]
                  have e7 := bcN_ok (bmk n D nx WG (hv (hv l (fun p => -TT p) n) (wpl D PL (Int32.ofNat nx)) n) (n + 1 - nx))
                  have e6 := bcN_le (bmk n D nx WG (hv (hv l (fun p => -TT p) n) (wpl D PL (Int32.ofNat nx)) n) (n + 1 - nx))
                  rw [i32_s, show Int32.ofNat nx + bc6 (bmk n D nx WG (hv (hv l (fun p => -TT p) n) (wpl D PL (Int32.ofNat nx)) n) (n + 1 - nx)) = Int32.ofNat (nx + bcN (bmk n D nx WG (hv (hv l (fun p => -TT p) n) (wpl D PL (Int32.ofNat nx)) n) (n + 1 - nx))) from by rw [e7, Int32.ofNat_add]]
                  refine yp_sel [0, 1, 2, 3, 4] ?_
                  refine ih (i + 1) (nx + bcN (bmk n D nx WG (hv (hv l (fun p => -TT p) n) (wpl D PL (Int32.ofNat nx)) n) (n + 1 - nx))) _ _ _ _ T4 (by omega) (by omega) (by omega) g4 gE gR (fun T9 a1 a2 a3 => kk T9 a1 ?_ ?_)
                  · intro p hp
                    rw [a2 p hp]
                    refine congrFun (congrArg Prod.fst ?_) p
                    refine Eq.symm ?_
                    refine (poR_s (hl := h26)).trans ?_
                    rw [e9]
                    rfl
                  · intro p hp
                    rw [a3 p hp]
                    refine congrFun (congrArg Prod.snd ?_) p
                    refine Eq.symm ?_
                    refine (poR_s (hl := h26)).trans ?_
                    rw [e9]
                    rfl
                · refine yp_run 7 (pc' := 117) (lv' := [(0, .ref 52), (1, .int l), (2, .int t), (3, .int (Int32.ofNat nx)), (4, .int (Int32.ofNat i)), (5, .int (bmk n D nx WG (hv (hv l (fun p => -TT p) n) (wpl D PL (Int32.ofNat nx)) n) (n + 1 - nx))), (6, .int 12)]) (st' := [.int 12, .int (Int32.ofNat nx), .int (bmk n D nx WG (hv (hv l (fun p => -TT p) n) (wpl D PL (Int32.ofNat nx)) n) (n + 1 - nx)), .ref 52]) (s' := T3) rfl ?_
                  have y0 : T3 52 0 = Int32.ofNat n := (congrFun (f3 _ (by decide)) 0).trans u0
                  refine yp_vi rfl rfl rfl rfl (c_take (w := 12) (by decide) hn y0 ?_)
                  obtain ⟨T4, hT4⟩ : ∃ X, X = tkSt T3 52 (bmk n D nx WG (hv (hv l (fun p => -TT p) n) (wpl D PL (Int32.ofNat nx)) n) (n + 1 - nx)) (2 * (Int32.ofNat nx) + bc6 (bmk n D nx WG (hv (hv l (fun p => -TT p) n) (wpl D PL (Int32.ofNat nx)) n) (n + 1 - nx)) - 1) 12 n := ⟨_, rfl⟩
                  rw [← hT4]
                  have g4 : ∀ k, k ≠ 60 → k ≠ 62 → k ≠ 73 → T4 k = s k := fun k a b c => by rw [hT4]; exact (tkSt_ne a b).trans ((f3 k c).trans (fr k a b c))
                  have gE : ∀ p, p < n → T4 60 p = bif xcmp .eq (hd (bmk n D nx WG (hv (hv l (fun p => -TT p) n) (wpl D PL (Int32.ofNat nx)) n) (n + 1 - nx)) (Int32.ofNat p)) 0 then E p else 2 * Int32.ofNat nx + bc6 (bmk n D nx WG (hv (hv l (fun p => -TT p) n) (wpl D PL (Int32.ofNat nx)) n) (n + 1 - nx)) - 1 := fun p hp => by
                    rw [hT4]
                    unfold tkSt
                    rw [wr_ne (by decide), wr_in (Nat.zero_le _) hp]
                    unfold tkf
                    rw [show T3 (52 + 8) p = E p from (congrFun (f3 _ (by decide)) p).trans (hE p hp)]
                  have gR : ∀ p, p < n → T4 62 p = bif xcmp .eq (hd (bmk n D nx WG (hv (hv l (fun p => -TT p) n) (wpl D PL (Int32.ofNat nx)) n) (n + 1 - nx)) (Int32.ofNat p)) 0 then R p else 12 := fun p hp => by
                    rw [hT4]
                    unfold tkSt
                    rw [show 62 = 52 + 10 from rfl, wr_in (Nat.zero_le _) hp]
                    unfold tkf
                    rw [show T3 (52 + 10) p = R p from (congrFun (f3 _ (by decide)) p).trans (hR p hp)]
                  refine yp_run 2 (pc' := 123) (lv' := [(0, .ref 52), (1, .int l), (2, .int t), (3, .int (Int32.ofNat nx)), (4, .int (Int32.ofNat i)), (5, .int (bmk n D nx WG (hv (hv l (fun p => -TT p) n) (wpl D PL (Int32.ofNat nx)) n) (n + 1 - nx))), (6, .int 12)]) (st' := [.int (bmk n D nx WG (hv (hv l (fun p => -TT p) n) (wpl D PL (Int32.ofNat nx)) n) (n + 1 - nx)), .int (Int32.ofNat nx)]) (s' := T4) rfl ?_
                  refine yp_st rfl rfl (c_bits ?_)
                  refine yp_run 10 (pc' := 16) (lv' := [(0, .ref 52), (1, .int (l &&& ((bmk n D nx WG (hv (hv l (fun p => -TT p) n) (wpl D PL (Int32.ofNat nx)) n) (n + 1 - nx)) ^^^ (-1)))), (2, .int t), (3, .int ((Int32.ofNat nx) + (bc6 (bmk n D nx WG (hv (hv l (fun p => -TT p) n) (wpl D PL (Int32.ofNat nx)) n) (n + 1 - nx))))), (4, .int ((Int32.ofNat i) + 1)), (5, .int (bmk n D nx WG (hv (hv l (fun p => -TT p) n) (wpl D PL (Int32.ofNat nx)) n) (n + 1 - nx))), (6, .int 12)]) (st' := []) (s' := T4) rfl ?_
                  have e9 : pos n D TT PL WG nx (l, t) = ((l &&& ((bmk n D nx WG (hv (hv l (fun p => -TT p) n) (wpl D PL (Int32.ofNat nx)) n) (n + 1 - nx)) ^^^ (-1))), t, (bmk n D nx WG (hv (hv l (fun p => -TT p) n) (wpl D PL (Int32.ofNat nx)) n) (n + 1 - nx)), 12) := by
                    refine (pos_eq n D TT PL WG nx (l, t)).trans ?_
                    simp only [h42, h54, h81, h99, cond_true, cond_false]
                  have e7 := bcN_ok (bmk n D nx WG (hv (hv l (fun p => -TT p) n) (wpl D PL (Int32.ofNat nx)) n) (n + 1 - nx))
                  have e6 := bcN_le (bmk n D nx WG (hv (hv l (fun p => -TT p) n) (wpl D PL (Int32.ofNat nx)) n) (n + 1 - nx))
                  rw [i32_s, show Int32.ofNat nx + bc6 (bmk n D nx WG (hv (hv l (fun p => -TT p) n) (wpl D PL (Int32.ofNat nx)) n) (n + 1 - nx)) = Int32.ofNat (nx + bcN (bmk n D nx WG (hv (hv l (fun p => -TT p) n) (wpl D PL (Int32.ofNat nx)) n) (n + 1 - nx))) from by rw [e7, Int32.ofNat_add]]
                  refine yp_sel [0, 1, 2, 3, 4] ?_
                  refine ih (i + 1) (nx + bcN (bmk n D nx WG (hv (hv l (fun p => -TT p) n) (wpl D PL (Int32.ofNat nx)) n) (n + 1 - nx))) _ _ _ _ T4 (by omega) (by omega) (by omega) g4 gE gR (fun T9 a1 a2 a3 => kk T9 a1 ?_ ?_)
                  · intro p hp
                    rw [a2 p hp]
                    refine congrFun (congrArg Prod.fst ?_) p
                    refine Eq.symm ?_
                    refine (poR_s (hl := h26)).trans ?_
                    rw [e9]
                    rfl
                  · intro p hp
                    rw [a3 p hp]
                    refine congrFun (congrArg Prod.snd ?_) p
                    refine Eq.symm ?_
                    refine (poR_s (hl := h26)).trans ?_
                    rw [e9]
                    rfl
            · refine yp_run 6 (pc' := 70) (lv' := [(0, .ref 52), (1, .int l), (2, .int t), (3, .int (Int32.ofNat nx)), (4, .int (Int32.ofNat i)), (5, .int (hv l (fun p => -TT p) n)), (6, .int 9)]) (st' := [.int (Int32.ofNat nx), .int (hv l (fun p => -TT p) n), .ref 52]) (s' := T1) rfl ?_
              have v0 : T1 52 0 = Int32.ofNat n := (congrFun (f1 _ (by decide)) 0).trans u0
              have v1 : T1 52 1 = Int32.ofNat D := (congrFun (f1 _ (by decide)) 1).trans u1
              refine yp_vi rfl rfl rfl rfl (c_bplc (PL := PL) (by decide) hn hD v0 v1 (fun d p h1 h2 => (congrFun ((f1 _ (by decide)).trans (fr _ (by decide) (by decide) (by decide))) _).trans (hPL d p h1 h2)) ?_)
              obtain ⟨T2, hT2⟩ : ∃ X, X = wr T1 73 0 n (wpl D PL (Int32.ofNat nx)) := ⟨_, rfl⟩
              rw [← hT2]
              have f2 : ∀ k, k ≠ 73 → T2 k = T k := fun k q => by rw [hT2]; exact (wr_ne q).trans (f1 k q)
              refine yp_run 2 (pc' := 77) (lv' := [(0, .ref 52), (1, .int l), (2, .int t), (3, .int (Int32.ofNat nx)), (4, .int (Int32.ofNat i)), (5, .int (hv (hv l (fun p => -TT p) n) (wpl D PL (Int32.ofNat nx)) n)), (6, .int 9)]) (st' := [.int (hv (hv l (fun p => -TT p) n) (wpl D PL (Int32.ofNat nx)) n)]) (s' := T2) rfl ?_
              refine yp_st rfl rfl (c_bits ?_)
              refine yp_run 1 (pc' := 81) (lv' := [(0, .ref 52), (1, .int l), (2, .int t), (3, .int (Int32.ofNat nx)), (4, .int (Int32.ofNat i)), (5, .int (hv (hv l (fun p => -TT p) n) (wpl D PL (Int32.ofNat nx)) n)), (6, .int 9)]) (st' := [.int 1, .int (bc6 (hv (hv l (fun p => -TT p) n) (wpl D PL (Int32.ofNat nx)) n))]) (s' := T2) rfl ?_
              refine yp_icmp rfl rfl (fun h81 => ?_) (fun h81 => ?_)
              · refine yp_run 4 (pc' := 117) (lv' := [(0, .ref 52), (1, .int l), (2, .int t), (3, .int (Int32.ofNat nx)), (4, .int (Int32.ofNat i)), (5, .int (hv (hv l (fun p => -TT p) n) (wpl D PL (Int32.ofNat nx)) n)), (6, .int 9)]) (st' := [.int 9, .int (Int32.ofNat nx), .int (hv (hv l (fun p => -TT p) n) (wpl D PL (Int32.ofNat nx)) n), .ref 52]) (s' := T2) rfl ?_
                have y0 : T2 52 0 = Int32.ofNat n := (congrFun (f2 _ (by decide)) 0).trans u0
                refine yp_vi rfl rfl rfl rfl (c_take (w := 9) (by decide) hn y0 ?_)
                obtain ⟨T4, hT4⟩ : ∃ X, X = tkSt T2 52 (hv (hv l (fun p => -TT p) n) (wpl D PL (Int32.ofNat nx)) n) (2 * (Int32.ofNat nx) + bc6 (hv (hv l (fun p => -TT p) n) (wpl D PL (Int32.ofNat nx)) n) - 1) 9 n := ⟨_, rfl⟩
                rw [← hT4]
                have g4 : ∀ k, k ≠ 60 → k ≠ 62 → k ≠ 73 → T4 k = s k := fun k a b c => by rw [hT4]; exact (tkSt_ne a b).trans ((f2 k c).trans (fr k a b c))
                have gE : ∀ p, p < n → T4 60 p = bif xcmp .eq (hd (hv (hv l (fun p => -TT p) n) (wpl D PL (Int32.ofNat nx)) n) (Int32.ofNat p)) 0 then E p else 2 * Int32.ofNat nx + bc6 (hv (hv l (fun p => -TT p) n) (wpl D PL (Int32.ofNat nx)) n) - 1 := fun p hp => by
                  rw [hT4]
                  unfold tkSt
                  rw [wr_ne (by decide), wr_in (Nat.zero_le _) hp]
                  unfold tkf
                  rw [show T2 (52 + 8) p = E p from (congrFun (f2 _ (by decide)) p).trans (hE p hp)]
                have gR : ∀ p, p < n → T4 62 p = bif xcmp .eq (hd (hv (hv l (fun p => -TT p) n) (wpl D PL (Int32.ofNat nx)) n) (Int32.ofNat p)) 0 then R p else 9 := fun p hp => by
                  rw [hT4]
                  unfold tkSt
                  rw [show 62 = 52 + 10 from rfl, wr_in (Nat.zero_le _) hp]
                  unfold tkf
                  rw [show T2 (52 + 10) p = R p from (congrFun (f2 _ (by decide)) p).trans (hR p hp)]
                refine yp_run 2 (pc' := 123) (lv' := [(0, .ref 52), (1, .int l), (2, .int t), (3, .int (Int32.ofNat nx)), (4, .int (Int32.ofNat i)), (5, .int (hv (hv l (fun p => -TT p) n) (wpl D PL (Int32.ofNat nx)) n)), (6, .int 9)]) (st' := [.int (hv (hv l (fun p => -TT p) n) (wpl D PL (Int32.ofNat nx)) n), .int (Int32.ofNat nx)]) (s' := T4) rfl ?_
                refine yp_st rfl rfl (c_bits ?_)
                refine yp_run 10 (pc' := 16) (lv' := [(0, .ref 52), (1, .int (l &&& ((hv (hv l (fun p => -TT p) n) (wpl D PL (Int32.ofNat nx)) n) ^^^ (-1)))), (2, .int t), (3, .int ((Int32.ofNat nx) + (bc6 (hv (hv l (fun p => -TT p) n) (wpl D PL (Int32.ofNat nx)) n)))), (4, .int ((Int32.ofNat i) + 1)), (5, .int (hv (hv l (fun p => -TT p) n) (wpl D PL (Int32.ofNat nx)) n)), (6, .int 9)]) (st' := []) (s' := T4) rfl ?_
                have e9 : pos n D TT PL WG nx (l, t) = ((l &&& ((hv (hv l (fun p => -TT p) n) (wpl D PL (Int32.ofNat nx)) n) ^^^ (-1))), t, (hv (hv l (fun p => -TT p) n) (wpl D PL (Int32.ofNat nx)) n), 9) := by
                  refine (pos_eq n D TT PL WG nx (l, t)).trans ?_
                  simp only [h42, h54, h81, cond_true, cond_false]
                have e7 := bcN_ok (hv (hv l (fun p => -TT p) n) (wpl D PL (Int32.ofNat nx)) n)
                have e6 := bcN_le (hv (hv l (fun p => -TT p) n) (wpl D PL (Int32.ofNat nx)) n)
                rw [i32_s, show Int32.ofNat nx + bc6 (hv (hv l (fun p => -TT p) n) (wpl D PL (Int32.ofNat nx)) n) = Int32.ofNat (nx + bcN (hv (hv l (fun p => -TT p) n) (wpl D PL (Int32.ofNat nx)) n)) from by rw [e7, Int32.ofNat_add]]
                refine yp_sel [0, 1, 2, 3, 4] ?_
                refine ih (i + 1) (nx + bcN (hv (hv l (fun p => -TT p) n) (wpl D PL (Int32.ofNat nx)) n)) _ _ _ _ T4 (by omega) (by omega) (by omega) g4 gE gR (fun T9 a1 a2 a3 => kk T9 a1 ?_ ?_)
                · intro p hp
                  rw [a2 p hp]
                  refine congrFun (congrArg Prod.fst ?_) p
                  refine Eq.symm ?_
                  refine (poR_s (hl := h26)).trans ?_
                  rw [e9]
                  rfl
                · intro p hp
                  rw [a3 p hp]
                  refine congrFun (congrArg Prod.snd ?_) p
                  refine Eq.symm ?_
                  refine (poR_s (hl := h26)).trans ?_
                  rw [e9]
                  rfl
              · refine yp_run 3 (pc' := 88) (lv' := [(0, .ref 52), (1, .int l), (2, .int t), (3, .int (Int32.ofNat nx)), (4, .int (Int32.ofNat i)), (5, .int (hv (hv l (fun p => -TT p) n) (wpl D PL (Int32.ofNat nx)) n)), (6, .int 9)]) (st' := [.int (Int32.ofNat nx), .int (hv (hv l (fun p => -TT p) n) (wpl D PL (Int32.ofNat nx)) n), .ref 52]) (s' := T2) rfl ?_
                have v0 : T2 52 0 = Int32.ofNat n := (congrFun (f2 _ (by decide)) 0).trans u0
                have v1 : T2 52 1 = Int32.ofNat D := (congrFun (f2 _ (by decide)) 1).trans u1
                refine yp_vi rfl rfl rfl rfl (c_bmrk (WG := WG) (by decide) hn hD h1x (by omega) v0 v1 (fun d p q h1 h2 h3 h4 => (congrFun ((f2 _ (by decide)).trans (fr _ (by decide) (by decide) (by decide))) _).trans (hWG d p q h1 h2 h3 h4)) ?_)
                obtain ⟨T3, hT3⟩ : ∃ X, X = bmSt T2 52 n D nx WG (n + 1 - nx) := ⟨_, rfl⟩
                rw [← hT3]
                have f3 : ∀ k, k ≠ 73 → T3 k = T k := fun k q => by rw [hT3]; exact (bmSt_ne q).trans (f2 k q)
                refine yp_run 2 (pc' := 95) (lv' := [(0, .ref 52), (1, .int l), (2, .int t), (3, .int (Int32.ofNat nx)), (4, .int (Int32.ofNat i)), (5, .int (bmk n D nx WG (hv (hv l (fun p => -TT p) n) (wpl D PL (Int32.ofNat nx)) n) (n + 1 - nx))), (6, .int 9)]) (st' := [.int (bmk n D nx WG (hv (hv l (fun p => -TT p) n) (wpl D PL (Int32.ofNat nx)) n) (n + 1 - nx))]) (s' := T3) rfl ?_
                refine yp_st rfl rfl (c_bits ?_)
                refine yp_run 1 (pc' := 99) (lv' := [(0, .ref 52), (1, .int l), (2, .int t), (3, .int (Int32.ofNat nx)), (4, .int (Int32.ofNat i)), (5, .int (bmk n D nx WG (hv (hv l (fun p => -TT p) n) (wpl D PL (Int32.ofNat nx)) n) (n + 1 - nx))), (6, .int 9)]) (st' := [.int 1, .int (bc6 (bmk n D nx WG (hv (hv l (fun p => -TT p) n) (wpl D PL (Int32.ofNat nx)) n) (n + 1 - nx)))]) (s' := T3) rfl ?_
                refine yp_icmp rfl rfl (fun h99 => ?_) (fun h99 => ?_)
                · refine yp_run 6 (pc' := 117) (lv' := [(0, .ref 52), (1, .int l), (2, .int t), (3, .int (Int32.ofNat nx)), (4, .int (Int32.ofNat i)), (5, .int (bmk n D nx WG (hv (hv l (fun p => -TT p) n) (wpl D PL (Int32.ofNat nx)) n) (n + 1 - nx))), (6, .int 11)]) (st' := [.int 11, .int (Int32.ofNat nx), .int (bmk n D nx WG (hv (hv l (fun p => -TT p) n) (wpl D PL (Int32.ofNat nx)) n) (n + 1 - nx)), .ref 52]) (s' := T3) rfl ?_
                  have y0 : T3 52 0 = Int32.ofNat n := (congrFun (f3 _ (by decide)) 0).trans u0
                  refine yp_vi rfl rfl rfl rfl (c_take (w := 11) (by decide) hn y0 ?_)
                  obtain ⟨T4, hT4⟩ : ∃ X, X = tkSt T3 52 (bmk n D nx WG (hv (hv l (fun p => -TT p) n) (wpl D PL (Int32.ofNat nx)) n) (n + 1 - nx)) (2 * (Int32.ofNat nx) + bc6 (bmk n D nx WG (hv (hv l (fun p => -TT p) n) (wpl D PL (Int32.ofNat nx)) n) (n + 1 - nx)) - 1) 11 n := ⟨_, rfl⟩
                  rw [← hT4]
                  have g4 : ∀ k, k ≠ 60 → k ≠ 62 → k ≠ 73 → T4 k = s k := fun k a b c => by rw [hT4]; exact (tkSt_ne a b).trans ((f3 k c).trans (fr k a b c))
                  have gE : ∀ p, p < n → T4 60 p = bif xcmp .eq (hd (bmk n D nx WG (hv (hv l (fun p => -TT p) n) (wpl D PL (Int32.ofNat nx)) n) (n + 1 - nx)) (Int32.ofNat p)) 0 then E p else 2 * Int32.ofNat nx + bc6 (bmk n D nx WG (hv (hv l (fun p => -TT p) n) (wpl D PL (Int32.ofNat nx)) n) (n + 1 - nx)) - 1 := fun p hp => by
                    rw [hT4]
                    unfold tkSt
                    rw [wr_ne (by decide), wr_in (Nat.zero_le _) hp]
                    unfold tkf
                    rw [show T3 (52 + 8) p = E p from (congrFun (f3 _ (by decide)) p).trans (hE p hp)]
                  have gR : ∀ p, p < n → T4 62 p = bif xcmp .eq (hd (bmk n D nx WG (hv (hv l (fun p => -TT p) n) (wpl D PL (Int32.ofNat nx)) n) (n + 1 - nx)) (Int32.ofNat p)) 0 then R p else 11 := fun p hp => by
                    rw [hT4]
                    unfold tkSt
                    rw [show 62 = 52 + 10 from rfl, wr_in (Nat.zero_le _) hp]
                    unfold tkf
                    rw [show T3 (52 + 10) p = R p from (congrFun (f3 _ (by decide)) p).trans (hR p hp)]
                  refine yp_run 2 (pc' := 123) (lv' := [(0, .ref 52), (1, .int l), (2, .int t), (3, .int (Int32.ofNat nx)), (4, .int (Int32.ofNat i)), (5, .int (bmk n D nx WG (hv (hv l (fun p => -TT p) n) (wpl D PL (Int32.ofNat nx)) n) (n + 1 - nx))), (6, .int 11)]) (st' := [.int (bmk n D nx WG (hv (hv l (fun p => -TT p) n) (wpl D PL (Int32.ofNat nx)) n) (n + 1 - nx)), .int (Int32.ofNat nx)]) (s' := T4) rfl ?_
                  refine yp_st rfl rfl (c_bits ?_)
                  refine yp_run 10 (pc' := 16) (lv' := [(0, .ref 52), (1, .int (l &&& ((bmk n D nx WG (hv (hv l (fun p => -TT p) n) (wpl D PL (Int32.ofNat nx)) n) (n + 1 - nx)) ^^^ (-1)))), (2, .int t), (3, .int ((Int32.ofNat nx) + (bc6 (bmk n D nx WG (hv (hv l (fun p => -TT p) n) (wpl D PL (Int32.ofNat nx)) n) (n + 1 - nx))))), (4, .int ((Int32.ofNat i) + 1)), (5, .int (bmk n D nx WG (hv (hv l (fun p => -TT p) n) (wpl D PL (Int32.ofNat nx)) n) (n + 1 - nx))), (6, .int 11)]) (st' := []) (s' := T4) rfl ?_
                  have e9 : pos n D TT PL WG nx (l, t) = ((l &&& ((bmk n D nx WG (hv (hv l (fun p => -TT p) n) (wpl D PL (Int32.ofNat nx)) n) (n + 1 - nx)) ^^^ (-1))), t, (bmk n D nx WG (hv (hv l (fun p => -TT p) n) (wpl D PL (Int32.ofNat nx)) n) (n + 1 - nx)), 11) := by
                    refine (pos_eq n D TT PL WG nx (l, t)).trans ?_
                    simp only [h42, h54, h81, h99, cond_true, cond_false]
                  have e7 := bcN_ok (bmk n D nx WG (hv (hv l (fun p => -TT p) n) (wpl D PL (Int32.ofNat nx)) n) (n + 1 - nx))
                  have e6 := bcN_le (bmk n D nx WG (hv (hv l (fun p => -TT p) n) (wpl D PL (Int32.ofNat nx)) n) (n + 1 - nx))
                  rw [i32_s, show Int32.ofNat nx + bc6 (bmk n D nx WG (hv (hv l (fun p => -TT p) n) (wpl D PL (Int32.ofNat nx)) n) (n + 1 - nx)) = Int32.ofNat (nx + bcN (bmk n D nx WG (hv (hv l (fun p => -TT p) n) (wpl D PL (Int32.ofNat nx)) n) (n + 1 - nx))) from by rw [e7, Int32.ofNat_add]]
                  refine yp_sel [0, 1, 2, 3, 4] ?_
                  refine ih (i + 1) (nx + bcN (bmk n D nx WG (hv (hv l (fun p => -TT p) n) (wpl D PL (Int32.ofNat nx)) n) (n + 1 - nx))) _ _ _ _ T4 (by omega) (by omega) (by omega) g4 gE gR (fun T9 a1 a2 a3 => kk T9 a1 ?_ ?_)
                  · intro p hp
                    rw [a2 p hp]
                    refine congrFun (congrArg Prod.fst ?_) p
                    refine Eq.symm ?_
                    refine (poR_s (hl := h26)).trans ?_
                    rw [e9]
                    rfl
                  · intro p hp
                    rw [a3 p hp]
                    refine congrFun (congrArg Prod.snd ?_) p
                    refine Eq.symm ?_
                    refine (poR_s (hl := h26)).trans ?_
                    rw [e9]
                    rfl
                · refine yp_run 7 (pc' := 117) (lv' := [(0, .ref 52), (1, .int l), (2, .int t), (3, .int (Int32.ofNat nx)), (4, .int (Int32.ofNat i)), (5, .int (bmk n D nx WG (hv (hv l (fun p => -TT p) n) (wpl D PL (Int32.ofNat nx)) n) (n + 1 - nx))), (6, .int 12)]) (st' := [.int 12, .int (Int32.ofNat nx), .int (bmk n D nx WG (hv (hv l (fun p => -TT p) n) (wpl D PL (Int32.ofNat nx)) n) (n + 1 - nx)), .ref 52]) (s' := T3) rfl ?_
                  have y0 : T3 52 0 = Int32.ofNat n := (congrFun (f3 _ (by decide)) 0).trans u0
                  refine yp_vi rfl rfl rfl rfl (c_take (w := 12) (by decide) hn y0 ?_)
                  obtain ⟨T4, hT4⟩ : ∃ X, X = tkSt T3 52 (bmk n D nx WG (hv (hv l (fun p => -TT p) n) (wpl D PL (Int32.ofNat nx)) n) (n + 1 - nx)) (2 * (Int32.ofNat nx) + bc6 (bmk n D nx WG (hv (hv l (fun p => -TT p) n) (wpl D PL (Int32.ofNat nx)) n) (n + 1 - nx)) - 1) 12 n := ⟨_, rfl⟩
                  rw [← hT4]
                  have g4 : ∀ k, k ≠ 60 → k ≠ 62 → k ≠ 73 → T4 k = s k := fun k a b c => by rw [hT4]; exact (tkSt_ne a b).trans ((f3 k c).trans (fr k a b c))
                  have gE : ∀ p, p < n → T4 60 p = bif xcmp .eq (hd (bmk n D nx WG (hv (hv l (fun p => -TT p) n) (wpl D PL (Int32.ofNat nx)) n) (n + 1 - nx)) (Int32.ofNat p)) 0 then E p else 2 * Int32.ofNat nx + bc6 (bmk n D nx WG (hv (hv l (fun p => -TT p) n) (wpl D PL (Int32.ofNat nx)) n) (n + 1 - nx)) - 1 := fun p hp => by
                    rw [hT4]
                    unfold tkSt
                    rw [wr_ne (by decide), wr_in (Nat.zero_le _) hp]
                    unfold tkf
                    rw [show T3 (52 + 8) p = E p from (congrFun (f3 _ (by decide)) p).trans (hE p hp)]
                  have gR : ∀ p, p < n → T4 62 p = bif xcmp .eq (hd (bmk n D nx WG (hv (hv l (fun p => -TT p) n) (wpl D PL (Int32.ofNat nx)) n) (n + 1 - nx)) (Int32.ofNat p)) 0 then R p else 12 := fun p hp => by
                    rw [hT4]
                    unfold tkSt
                    rw [show 62 = 52 + 10 from rfl, wr_in (Nat.zero_le _) hp]
                    unfold tkf
                    rw [show T3 (52 + 10) p = R p from (congrFun (f3 _ (by decide)) p).trans (hR p hp)]
                  refine yp_run 2 (pc' := 123) (lv' := [(0, .ref 52), (1, .int l), (2, .int t), (3, .int (Int32.ofNat nx)), (4, .int (Int32.ofNat i)), (5, .int (bmk n D nx WG (hv (hv l (fun p => -TT p) n) (wpl D PL (Int32.ofNat nx)) n) (n + 1 - nx))), (6, .int 12)]) (st' := [.int (bmk n D nx WG (hv (hv l (fun p => -TT p) n) (wpl D PL (Int32.ofNat nx)) n) (n + 1 - nx)), .int (Int32.ofNat nx)]) (s' := T4) rfl ?_
                  refine yp_st rfl rfl (c_bits ?_)
                  refine yp_run 10 (pc' := 16) (lv' := [(0, .ref 52), (1, .int (l &&& ((bmk n D nx WG (hv (hv l (fun p => -TT p) n) (wpl D PL (Int32.ofNat nx)) n) (n + 1 - nx)) ^^^ (-1)))), (2, .int t), (3, .int ((Int32.ofNat nx) + (bc6 (bmk n D nx WG (hv (hv l (fun p => -TT p) n) (wpl D PL (Int32.ofNat nx)) n) (n + 1 - nx))))), (4, .int ((Int32.ofNat i) + 1)), (5, .int (bmk n D nx WG (hv (hv l (fun p => -TT p) n) (wpl D PL (Int32.ofNat nx)) n) (n + 1 - nx))), (6, .int 12)]) (st' := []) (s' := T4) rfl ?_
                  have e9 : pos n D TT PL WG nx (l, t) = ((l &&& ((bmk n D nx WG (hv (hv l (fun p => -TT p) n) (wpl D PL (Int32.ofNat nx)) n) (n + 1 - nx)) ^^^ (-1))), t, (bmk n D nx WG (hv (hv l (fun p => -TT p) n) (wpl D PL (Int32.ofNat nx)) n) (n + 1 - nx)), 12) := by
                    refine (pos_eq n D TT PL WG nx (l, t)).trans ?_
                    simp only [h42, h54, h81, h99, cond_true, cond_false]
                  have e7 := bcN_ok (bmk n D nx WG (hv (hv l (fun p => -TT p) n) (wpl D PL (Int32.ofNat nx)) n) (n + 1 - nx))
                  have e6 := bcN_le (bmk n D nx WG (hv (hv l (fun p => -TT p) n) (wpl D PL (Int32.ofNat nx)) n) (n + 1 - nx))
                  rw [i32_s, show Int32.ofNat nx + bc6 (bmk n D nx WG (hv (hv l (fun p => -TT p) n) (wpl D PL (Int32.ofNat nx)) n) (n + 1 - nx)) = Int32.ofNat (nx + bcN (bmk n D nx WG (hv (hv l (fun p => -TT p) n) (wpl D PL (Int32.ofNat nx)) n) (n + 1 - nx))) from by rw [e7, Int32.ofNat_add]]
                  refine yp_sel [0, 1, 2, 3, 4] ?_
                  refine ih (i + 1) (nx + bcN (bmk n D nx WG (hv (hv l (fun p => -TT p) n) (wpl D PL (Int32.ofNat nx)) n) (n + 1 - nx))) _ _ _ _ T4 (by omega) (by omega) (by omega) g4 gE gR (fun T9 a1 a2 a3 => kk T9 a1 ?_ ?_)
                  · intro p hp
                    rw [a2 p hp]
                    refine congrFun (congrArg Prod.fst ?_) p
                    refine Eq.symm ?_
                    refine (poR_s (hl := h26)).trans ?_
                    rw [e9]
                    rfl
                  · intro p hp
                    rw [a3 p hp]
                    refine congrFun (congrArg Prod.snd ?_) p
                    refine Eq.symm ?_
                    refine (poR_s (hl := h26)).trans ?_
                    rw [e9]
                    rfl
          · refine yp_run 7 (pc' := 54) (lv' := [(0, .ref 52), (1, .int l), (2, .int (t ||| (hv l (fun p => -TT p) n))), (3, .int (Int32.ofNat nx)), (4, .int (Int32.ofNat i)), (5, .int (hv l (fun p => -TT p) n))]) (st' := [.int ((hv l (fun p => -TT p) n) &&& (t ||| (hv l (fun p => -TT p) n)))]) (s' := T1) rfl ?_
            refine yp_if rfl rfl (fun h54 => ?_) (fun h54 => ?_)
            · refine yp_run 5 (pc' := 70) (lv' := [(0, .ref 52), (1, .int l), (2, .int (t ||| (hv l (fun p => -TT p) n))), (3, .int (Int32.ofNat nx)), (4, .int (Int32.ofNat i)), (5, .int (hv l (fun p => -TT p) n)), (6, .int 10)]) (st' := [.int (Int32.ofNat nx), .int (hv l (fun p => -TT p) n), .ref 52]) (s' := T1) rfl ?_
              have v0 : T1 52 0 = Int32.ofNat n := (congrFun (f1 _ (by decide)) 0).trans u0
              have v1 : T1 52 1 = Int32.ofNat D := (congrFun (f1 _ (by decide)) 1).trans u1
              refine yp_vi rfl rfl rfl rfl (c_bplc (PL := PL) (by decide) hn hD v0 v1 (fun d p h1 h2 => (congrFun ((f1 _ (by decide)).trans (fr _ (by decide) (by decide) (by decide))) _).trans (hPL d p h1 h2)) ?_)
              obtain ⟨T2, hT2⟩ : ∃ X, X = wr T1 73 0 n (wpl D PL (Int32.ofNat nx)) := ⟨_, rfl⟩
              rw [← hT2]
              have f2 : ∀ k, k ≠ 73 → T2 k = T k := fun k q => by rw [hT2]; exact (wr_ne q).trans (f1 k q)
              refine yp_run 2 (pc' := 77) (lv' := [(0, .ref 52), (1, .int l), (2, .int (t ||| (hv l (fun p => -TT p) n))), (3, .int (Int32.ofNat nx)), (4, .int (Int32.ofNat i)), (5, .int (hv (hv l (fun p => -TT p) n) (wpl D PL (Int32.ofNat nx)) n)), (6, .int 10)]) (st' := [.int (hv (hv l (fun p => -TT p) n) (wpl D PL (Int32.ofNat nx)) n)]) (s' := T2) rfl ?_
              refine yp_st rfl rfl (c_bits ?_)
              refine yp_run 1 (pc' := 81) (lv' := [(0, .ref 52), (1, .int l), (2, .int (t ||| (hv l (fun p => -TT p) n))), (3, .int (Int32.ofNat nx)), (4, .int (Int32.ofNat i)), (5, .int (hv (hv l (fun p => -TT p) n) (wpl D PL (Int32.ofNat nx)) n)), (6, .int 10)]) (st' := [.int 1, .int (bc6 (hv (hv l (fun p => -TT p) n) (wpl D PL (Int32.ofNat nx)) n))]) (s' := T2) rfl ?_
              refine yp_icmp rfl rfl (fun h81 => ?_) (fun h81 => ?_)
              · refine yp_run 4 (pc' := 117) (lv' := [(0, .ref 52), (1, .int l), (2, .int (t ||| (hv l (fun p => -TT p) n))), (3, .int (Int32.ofNat nx)), (4, .int (Int32.ofNat i)), (5, .int (hv (hv l (fun p => -TT p) n) (wpl D PL (Int32.ofNat nx)) n)), (6, .int 10)]) (st' := [.int 10, .int (Int32.ofNat nx), .int (hv (hv l (fun p => -TT p) n) (wpl D PL (Int32.ofNat nx)) n), .ref 52]) (s' := T2) rfl ?_
                have y0 : T2 52 0 = Int32.ofNat n := (congrFun (f2 _ (by decide)) 0).trans u0
                refine yp_vi rfl rfl rfl rfl (c_take (w := 10) (by decide) hn y0 ?_)
                obtain ⟨T4, hT4⟩ : ∃ X, X = tkSt T2 52 (hv (hv l (fun p => -TT p) n) (wpl D PL (Int32.ofNat nx)) n) (2 * (Int32.ofNat nx) + bc6 (hv (hv l (fun p => -TT p) n) (wpl D PL (Int32.ofNat nx)) n) - 1) 10 n := ⟨_, rfl⟩
                rw [← hT4]
                have g4 : ∀ k, k ≠ 60 → k ≠ 62 → k ≠ 73 → T4 k = s k := fun k a b c => by rw [hT4]; exact (tkSt_ne a b).trans ((f2 k c).trans (fr k a b c))
                have gE : ∀ p, p < n → T4 60 p = bif xcmp .eq (hd (hv (hv l (fun p => -TT p) n) (wpl D PL (Int32.ofNat nx)) n) (Int32.ofNat p)) 0 then E p else 2 * Int32.ofNat nx + bc6 (hv (hv l (fun p => -TT p) n) (wpl D PL (Int32.ofNat nx)) n) - 1 := fun p hp => by
                  rw [hT4]
                  unfold tkSt
                  rw [wr_ne (by decide), wr_in (Nat.zero_le _) hp]
                  unfold tkf
                  rw [show T2 (52 + 8) p = E p from (congrFun (f2 _ (by decide)) p).trans (hE p hp)]
                have gR : ∀ p, p < n → T4 62 p = bif xcmp .eq (hd (hv (hv l (fun p => -TT p) n) (wpl D PL (Int32.ofNat nx)) n) (Int32.ofNat p)) 0 then R p else 10 := fun p hp => by
                  rw [hT4]
                  unfold tkSt
                  rw [show 62 = 52 + 10 from rfl, wr_in (Nat.zero_le _) hp]
                  unfold tkf
                  rw [show T2 (52 + 10) p = R p from (congrFun (f2 _ (by decide)) p).trans (hR p hp)]
                refine yp_run 2 (pc' := 123) (lv' := [(0, .ref 52), (1, .int l), (2, .int (t ||| (hv l (fun p => -TT p) n))), (3, .int (Int32.ofNat nx)), (4, .int (Int32.ofNat i)), (5, .int (hv (hv l (fun p => -TT p) n) (wpl D PL (Int32.ofNat nx)) n)), (6, .int 10)]) (st' := [.int (hv (hv l (fun p => -TT p) n) (wpl D PL (Int32.ofNat nx)) n), .int (Int32.ofNat nx)]) (s' := T4) rfl ?_
                refine yp_st rfl rfl (c_bits ?_)
                refine yp_run 10 (pc' := 16) (lv' := [(0, .ref 52), (1, .int (l &&& ((hv (hv l (fun p => -TT p) n) (wpl D PL (Int32.ofNat nx)) n) ^^^ (-1)))), (2, .int (t ||| (hv l (fun p => -TT p) n))), (3, .int ((Int32.ofNat nx) + (bc6 (hv (hv l (fun p => -TT p) n) (wpl D PL (Int32.ofNat nx)) n)))), (4, .int ((Int32.ofNat i) + 1)), (5, .int (hv (hv l (fun p => -TT p) n) (wpl D PL (Int32.ofNat nx)) n)), (6, .int 10)]) (st' := []) (s' := T4) rfl ?_
                have e9 : pos n D TT PL WG nx (l, t) = ((l &&& ((hv (hv l (fun p => -TT p) n) (wpl D PL (Int32.ofNat nx)) n) ^^^ (-1))), (t ||| (hv l (fun p => -TT p) n)), (hv (hv l (fun p => -TT p) n) (wpl D PL (Int32.ofNat nx)) n), 10) := by
                  refine (pos_eq n D TT PL WG nx (l, t)).trans ?_
                  simp only [h42, h54, h81, cond_true, cond_false]
                have e7 := bcN_ok (hv (hv l (fun p => -TT p) n) (wpl D PL (Int32.ofNat nx)) n)
                have e6 := bcN_le (hv (hv l (fun p => -TT p) n) (wpl D PL (Int32.ofNat nx)) n)
                rw [i32_s, show Int32.ofNat nx + bc6 (hv (hv l (fun p => -TT p) n) (wpl D PL (Int32.ofNat nx)) n) = Int32.ofNat (nx + bcN (hv (hv l (fun p => -TT p) n) (wpl D PL (Int32.ofNat nx)) n)) from by rw [e7, Int32.ofNat_add]]
                refine yp_sel [0, 1, 2, 3, 4] ?_
                refine ih (i + 1) (nx + bcN (hv (hv l (fun p => -TT p) n) (wpl D PL (Int32.ofNat nx)) n)) _ _ _ _ T4 (by omega) (by omega) (by omega) g4 gE gR (fun T9 a1 a2 a3 => kk T9 a1 ?_ ?_)
                · intro p hp
                  rw [a2 p hp]
                  refine congrFun (congrArg Prod.fst ?_) p
                  refine Eq.symm ?_
                  refine (poR_s (hl := h26)).trans ?_
                  rw [e9]
                  rfl
                · intro p hp
                  rw [a3 p hp]
                  refine congrFun (congrArg Prod.snd ?_) p
                  refine Eq.symm ?_
                  refine (poR_s (hl := h26)).trans ?_
                  rw [e9]
                  rfl
              · refine yp_run 3 (pc' := 88) (lv' := [(0, .ref 52), (1, .int l), (2, .int (t ||| (hv l (fun p => -TT p) n))), (3, .int (Int32.ofNat nx)), (4, .int (Int32.ofNat i)), (5, .int (hv (hv l (fun p => -TT p) n) (wpl D PL (Int32.ofNat nx)) n)), (6, .int 10)]) (st' := [.int (Int32.ofNat nx), .int (hv (hv l (fun p => -TT p) n) (wpl D PL (Int32.ofNat nx)) n), .ref 52]) (s' := T2) rfl ?_
                have v0 : T2 52 0 = Int32.ofNat n := (congrFun (f2 _ (by decide)) 0).trans u0
                have v1 : T2 52 1 = Int32.ofNat D := (congrFun (f2 _ (by decide)) 1).trans u1
                refine yp_vi rfl rfl rfl rfl (c_bmrk (WG := WG) (by decide) hn hD h1x (by omega) v0 v1 (fun d p q h1 h2 h3 h4 => (congrFun ((f2 _ (by decide)).trans (fr _ (by decide) (by decide) (by decide))) _).trans (hWG d p q h1 h2 h3 h4)) ?_)
                obtain ⟨T3, hT3⟩ : ∃ X, X = bmSt T2 52 n D nx WG (n + 1 - nx) := ⟨_, rfl⟩
                rw [← hT3]
                have f3 : ∀ k, k ≠ 73 → T3 k = T k := fun k q => by rw [hT3]; exact (bmSt_ne q).trans (f2 k q)
                refine yp_run 2 (pc' := 95) (lv' := [(0, .ref 52), (1, .int l), (2, .int (t ||| (hv l (fun p => -TT p) n))), (3, .int (Int32.ofNat nx)), (4, .int (Int32.ofNat i)), (5, .int (bmk n D nx WG (hv (hv l (fun p => -TT p) n) (wpl D PL (Int32.ofNat nx)) n) (n + 1 - nx))), (6, .int 10)]) (st' := [.int (bmk n D nx WG (hv (hv l (fun p => -TT p) n) (wpl D PL (Int32.ofNat nx)) n) (n + 1 - nx))]) (s' := T3) rfl ?_
                refine yp_st rfl rfl (c_bits ?_)
                refine yp_run 1 (pc' := 99) (lv' := [(0, .ref 52), (1, .int l), (2, .int (t ||| (hv l (fun p => -TT p) n))), (3, .int (Int32.ofNat nx)), (4, .int (Int32.ofNat i)), (5, .int (bmk n D nx WG (hv (hv l (fun p => -TT p) n) (wpl D PL (Int32.ofNat nx)) n) (n + 1 - nx))), (6, .int 10)]) (st' := [.int 1, .int (bc6 (bmk n D nx WG (hv (hv l (fun p => -TT p) n) (wpl D PL (Int32.ofNat nx)) n) (n + 1 - nx)))]) (s' := T3) rfl ?_
                refine yp_icmp rfl rfl (fun h99 => ?_) (fun h99 => ?_)
                · refine yp_run 6 (pc' := 117) (lv' := [(0, .ref 52), (1, .int l), (2, .int (t ||| (hv l (fun p => -TT p) n))), (3, .int (Int32.ofNat nx)), (4, .int (Int32.ofNat i)), (5, .int (bmk n D nx WG (hv (hv l (fun p => -TT p) n) (wpl D PL (Int32.ofNat nx)) n) (n + 1 - nx))), (6, .int 11)]) (st' := [.int 11, .int (Int32.ofNat nx), .int (bmk n D nx WG (hv (hv l (fun p => -TT p) n) (wpl D PL (Int32.ofNat nx)) n) (n + 1 - nx)), .ref 52]) (s' := T3) rfl ?_
                  have y0 : T3 52 0 = Int32.ofNat n := (congrFun (f3 _ (by decide)) 0).trans u0
                  refine yp_vi rfl rfl rfl rfl (c_take (w := 11) (by decide) hn y0 ?_)
                  obtain ⟨T4, hT4⟩ : ∃ X, X = tkSt T3 52 (bmk n D nx WG (hv (hv l (fun p => -TT p) n) (wpl D PL (Int32.ofNat nx)) n) (n + 1 - nx)) (2 * (Int32.ofNat nx) + bc6 (bmk n D nx WG (hv (hv l (fun p => -TT p) n) (wpl D PL (Int32.ofNat nx)) n) (n + 1 - nx)) - 1) 11 n := ⟨_, rfl⟩
                  rw [← hT4]
                  have g4 : ∀ k, k ≠ 60 → k ≠ 62 → k ≠ 73 → T4 k = s k := fun k a b c => by rw [hT4]; exact (tkSt_ne a b).trans ((f3 k c).trans (fr k a b c))
                  have gE : ∀ p, p < n → T4 60 p = bif xcmp .eq (hd (bmk n D nx WG (hv (hv l (fun p => -TT p) n) (wpl D PL (Int32.ofNat nx)) n) (n + 1 - nx)) (Int32.ofNat p)) 0 then E p else 2 * Int32.ofNat nx + bc6 (bmk n D nx WG (hv (hv l (fun p => -TT p) n) (wpl D PL (Int32.ofNat nx)) n) (n + 1 - nx)) - 1 := fun p hp => by
                    rw [hT4]
                    unfold tkSt
                    rw [wr_ne (by decide), wr_in (Nat.zero_le _) hp]
                    unfold tkf
                    rw [show T3 (52 + 8) p = E p from (congrFun (f3 _ (by decide)) p).trans (hE p hp)]
                  have gR : ∀ p, p < n → T4 62 p = bif xcmp .eq (hd (bmk n D nx WG (hv (hv l (fun p => -TT p) n) (wpl D PL (Int32.ofNat nx)) n) (n + 1 - nx)) (Int32.ofNat p)) 0 then R p else 11 := fun p hp => by
                    rw [hT4]
                    unfold tkSt
                    rw [show 62 = 52 + 10 from rfl, wr_in (Nat.zero_le _) hp]
                    unfold tkf
                    rw [show T3 (52 + 10) p = R p from (congrFun (f3 _ (by decide)) p).trans (hR p hp)]
                  refine yp_run 2 (pc' := 123) (lv' := [(0, .ref 52), (1, .int l), (2, .int (t ||| (hv l (fun p => -TT p) n))), (3, .int (Int32.ofNat nx)), (4, .int (Int32.ofNat i)), (5, .int (bmk n D nx WG (hv (hv l (fun p => -TT p) n) (wpl D PL (Int32.ofNat nx)) n) (n + 1 - nx))), (6, .int 11)]) (st' := [.int (bmk n D nx WG (hv (hv l (fun p => -TT p) n) (wpl D PL (Int32.ofNat nx)) n) (n + 1 - nx)), .int (Int32.ofNat nx)]) (s' := T4) rfl ?_
                  refine yp_st rfl rfl (c_bits ?_)
                  refine yp_run 10 (pc' := 16) (lv' := [(0, .ref 52), (1, .int (l &&& ((bmk n D nx WG (hv (hv l (fun p => -TT p) n) (wpl D PL (Int32.ofNat nx)) n) (n + 1 - nx)) ^^^ (-1)))), (2, .int (t ||| (hv l (fun p => -TT p) n))), (3, .int ((Int32.ofNat nx) + (bc6 (bmk n D nx WG (hv (hv l (fun p => -TT p) n) (wpl D PL (Int32.ofNat nx)) n) (n + 1 - nx))))), (4, .int ((Int32.ofNat i) + 1)), (5, .int (bmk n D nx WG (hv (hv l (fun p => -TT p) n) (wpl D PL (Int32.ofNat nx)) n) (n + 1 - nx))), (6, .int 11)]) (st' := []) (s' := T4) rfl ?_
                  have e9 : pos n D TT PL WG nx (l, t) = ((l &&& ((bmk n D nx WG (hv (hv l (fun p => -TT p) n) (wpl D PL (Int32.ofNat nx)) n) (n + 1 - nx)) ^^^ (-1))), (t ||| (hv l (fun p => -TT p) n)), (bmk n D nx WG (hv (hv l (fun p => -TT p) n) (wpl D PL (Int32.ofNat nx)) n) (n + 1 - nx)), 11) := by
                    refine (pos_eq n D TT PL WG nx (l, t)).trans ?_
                    simp only [h42, h54, h81, h99, cond_true, cond_false]
                  have e7 := bcN_ok (bmk n D nx WG (hv (hv l (fun p => -TT p) n) (wpl D PL (Int32.ofNat nx)) n) (n + 1 - nx))
                  have e6 := bcN_le (bmk n D nx WG (hv (hv l (fun p => -TT p) n) (wpl D PL (Int32.ofNat nx)) n) (n + 1 - nx))
                  rw [i32_s, show Int32.ofNat nx + bc6 (bmk n D nx WG (hv (hv l (fun p => -TT p) n) (wpl D PL (Int32.ofNat nx)) n) (n + 1 - nx)) = Int32.ofNat (nx + bcN (bmk n D nx WG (hv (hv l (fun p => -TT p) n) (wpl D PL (Int32.ofNat nx)) n) (n + 1 - nx))) from by rw [e7, Int32.ofNat_add]]
                  refine yp_sel [0, 1, 2, 3, 4] ?_
                  refine ih (i + 1) (nx + bcN (bmk n D nx WG (hv (hv l (fun p => -TT p) n) (wpl D PL (Int32.ofNat nx)) n) (n + 1 - nx))) _ _ _ _ T4 (by omega) (by omega) (by omega) g4 gE gR (fun T9 a1 a2 a3 => kk T9 a1 ?_ ?_)
                  · intro p hp
                    rw [a2 p hp]
                    refine congrFun (congrArg Prod.fst ?_) p
                    refine Eq.symm ?_
                    refine (poR_s (hl := h26)).trans ?_
                    rw [e9]
                    rfl
                  · intro p hp
                    rw [a3 p hp]
                    refine congrFun (congrArg Prod.snd ?_) p
                    refine Eq.symm ?_
                    refine (poR_s (hl := h26)).trans ?_
                    rw [e9]
                    rfl
                · refine yp_run 7 (pc' := 117) (lv' := [(0, .ref 52), (1, .int l), (2, .int (t ||| (hv l (fun p => -TT p) n))), (3, .int (Int32.ofNat nx)), (4, .int (Int32.ofNat i)), (5, .int (bmk n D nx WG (hv (hv l (fun p => -TT p) n) (wpl D PL (Int32.ofNat nx)) n) (n + 1 - nx))), (6, .int 12)]) (st' := [.int 12, .int (Int32.ofNat nx), .int (bmk n D nx WG (hv (hv l (fun p => -TT p) n) (wpl D PL (Int32.ofNat nx)) n) (n + 1 - nx)), .ref 52]) (s' := T3) rfl ?_
                  have y0 : T3 52 0 = Int32.ofNat n := (congrFun (f3 _ (by decide)) 0).trans u0
                  refine yp_vi rfl rfl rfl rfl (c_take (w := 12) (by decide) hn y0 ?_)
                  obtain ⟨T4, hT4⟩ : ∃ X, X = tkSt T3 52 (bmk n D nx WG (hv (hv l (fun p => -TT p) n) (wpl D PL (Int32.ofNat nx)) n) (n + 1 - nx)) (2 * (Int32.ofNat nx) + bc6 (bmk n D nx WG (hv (hv l (fun p => -TT p) n) (wpl D PL (Int32.ofNat nx)) n) (n + 1 - nx)) - 1) 12 n := ⟨_, rfl⟩
                  rw [← hT4]
                  have g4 : ∀ k, k ≠ 60 → k ≠ 62 → k ≠ 73 → T4 k = s k := fun k a b c => by rw [hT4]; exact (tkSt_ne a b).trans ((f3 k c).trans (fr k a b c))
                  have gE : ∀ p, p < n → T4 60 p = bif xcmp .eq (hd (bmk n D nx WG (hv (hv l (fun p => -TT p) n) (wpl D PL (Int32.ofNat nx)) n) (n + 1 - nx)) (Int32.ofNat p)) 0 then E p else 2 * Int32.ofNat nx + bc6 (bmk n D nx WG (hv (hv l (fun p => -TT p) n) (wpl D PL (Int32.ofNat nx)) n) (n + 1 - nx)) - 1 := fun p hp => by
                    rw [hT4]
                    unfold tkSt
                    rw [wr_ne (by decide), wr_in (Nat.zero_le _) hp]
                    unfold tkf
                    rw [show T3 (52 + 8) p = E p from (congrFun (f3 _ (by decide)) p).trans (hE p hp)]
                  have gR : ∀ p, p < n → T4 62 p = bif xcmp .eq (hd (bmk n D nx WG (hv (hv l (fun p => -TT p) n) (wpl D PL (Int32.ofNat nx)) n) (n + 1 - nx)) (Int32.ofNat p)) 0 then R p else 12 := fun p hp => by
                    rw [hT4]
                    unfold tkSt
                    rw [show 62 = 52 + 10 from rfl, wr_in (Nat.zero_le _) hp]
                    unfold tkf
                    rw [show T3 (52 + 10) p = R p from (congrFun (f3 _ (by decide)) p).trans (hR p hp)]
                  refine yp_run 2 (pc' := 123) (lv' := [(0, .ref 52), (1, .int l), (2, .int (t ||| (hv l (fun p => -TT p) n))), (3, .int (Int32.ofNat nx)), (4, .int (Int32.ofNat i)), (5, .int (bmk n D nx WG (hv (hv l (fun p => -TT p) n) (wpl D PL (Int32.ofNat nx)) n) (n + 1 - nx))), (6, .int 12)]) (st' := [.int (bmk n D nx WG (hv (hv l (fun p => -TT p) n) (wpl D PL (Int32.ofNat nx)) n) (n + 1 - nx)), .int (Int32.ofNat nx)]) (s' := T4) rfl ?_
                  refine yp_st rfl rfl (c_bits ?_)
                  refine yp_run 10 (pc' := 16) (lv' := [(0, .ref 52), (1, .int (l &&& ((bmk n D nx WG (hv (hv l (fun p => -TT p) n) (wpl D PL (Int32.ofNat nx)) n) (n + 1 - nx)) ^^^ (-1)))), (2, .int (t ||| (hv l (fun p => -TT p) n))), (3, .int ((Int32.ofNat nx) + (bc6 (bmk n D nx WG (hv (hv l (fun p => -TT p) n) (wpl D PL (Int32.ofNat nx)) n) (n + 1 - nx))))), (4, .int ((Int32.ofNat i) + 1)), (5, .int (bmk n D nx WG (hv (hv l (fun p => -TT p) n) (wpl D PL (Int32.ofNat nx)) n) (n + 1 - nx))), (6, .int 12)]) (st' := []) (s' := T4) rfl ?_
                  have e9 : pos n D TT PL WG nx (l, t) = ((l &&& ((bmk n D nx WG (hv (hv l (fun p => -TT p) n) (wpl D PL (Int32.ofNat nx)) n) (n + 1 - nx)) ^^^ (-1))), (t ||| (hv l (fun p => -TT p) n)), (bmk n D nx WG (hv (hv l (fun p => -TT p) n) (wpl D PL (Int32.ofNat nx)) n) (n + 1 - nx)), 12) := by
                    refine (pos_eq n D TT PL WG nx (l, t)).trans ?_
                    simp only [h42, h54, h81, h99, cond_true, cond_false]
                  have e7 := bcN_ok (bmk n D nx WG (hv (hv l (fun p => -TT p) n) (wpl D PL (Int32.ofNat nx)) n) (n + 1 - nx))
                  have e6 := bcN_le (bmk n D nx WG (hv (hv l (fun p => -TT p) n) (wpl D PL (Int32.ofNat nx)) n) (n + 1 - nx))
                  rw [i32_s, show Int32.ofNat nx + bc6 (bmk n D nx WG (hv (hv l (fun p => -TT p) n) (wpl D PL (Int32.ofNat nx)) n) (n + 1 - nx)) = Int32.ofNat (nx + bcN (bmk n D nx WG (hv (hv l (fun p => -TT p) n) (wpl D PL (Int32.ofNat nx)) n) (n + 1 - nx))) from by rw [e7, Int32.ofNat_add]]
                  refine yp_sel [0, 1, 2, 3, 4] ?_
                  refine ih (i + 1) (nx + bcN (bmk n D nx WG (hv (hv l (fun p => -TT p) n) (wpl D PL (Int32.ofNat nx)) n) (n + 1 - nx))) _ _ _ _ T4 (by omega) (by omega) (by omega) g4 gE gR (fun T9 a1 a2 a3 => kk T9 a1 ?_ ?_)
                  · intro p hp
                    rw [a2 p hp]
                    refine congrFun (congrArg Prod.fst ?_) p
                    refine Eq.symm ?_
                    refine (poR_s (hl := h26)).trans ?_
                    rw [e9]
                    rfl
                  · intro p hp
                    rw [a3 p hp]
                    refine congrFun (congrArg Prod.snd ?_) p
                    refine Eq.symm ?_
                    refine (poR_s (hl := h26)).trans ?_
                    rw [e9]
                    rfl
            · refine yp_run 6 (pc' := 70) (lv' := [(0, .ref 52), (1, .int l), (2, .int (t ||| (hv l (fun p => -TT p) n))), (3, .int (Int32.ofNat nx)), (4, .int (Int32.ofNat i)), (5, .int (hv l (fun p => -TT p) n)), (6, .int 9)]) (st' := [.int (Int32.ofNat nx), .int (hv l (fun p => -TT p) n), .ref 52]) (s' := T1) rfl ?_
              have v0 : T1 52 0 = Int32.ofNat n := (congrFun (f1 _ (by decide)) 0).trans u0
              have v1 : T1 52 1 = Int32.ofNat D := (congrFun (f1 _ (by decide)) 1).trans u1
              refine yp_vi rfl rfl rfl rfl (c_bplc (PL := PL) (by decide) hn hD v0 v1 (fun d p h1 h2 => (congrFun ((f1 _ (by decide)).trans (fr _ (by decide) (by decide) (by decide))) _).trans (hPL d p h1 h2)) ?_)
              obtain ⟨T2, hT2⟩ : ∃ X, X = wr T1 73 0 n (wpl D PL (Int32.ofNat nx)) := ⟨_, rfl⟩
              rw [← hT2]
              have f2 : ∀ k, k ≠ 73 → T2 k = T k := fun k q => by rw [hT2]; exact (wr_ne q).trans (f1 k q)
              refine yp_run 2 (pc' := 77) (lv' := [(0, .ref 52), (1, .int l), (2, .int (t ||| (hv l (fun p => -TT p) n))), (3, .int (Int32.ofNat nx)), (4, .int (Int32.ofNat i)), (5, .int (hv (hv l (fun p => -TT p) n) (wpl D PL (Int32.ofNat nx)) n)), (6, .int 9)]) (st' := [.int (hv (hv l (fun p => -TT p) n) (wpl D PL (Int32.ofNat nx)) n)]) (s' := T2) rfl ?_
              refine yp_st rfl rfl (c_bits ?_)
              refine yp_run 1 (pc' := 81) (lv' := [(0, .ref 52), (1, .int l), (2, .int (t ||| (hv l (fun p => -TT p) n))), (3, .int (Int32.ofNat nx)), (4, .int (Int32.ofNat i)), (5, .int (hv (hv l (fun p => -TT p) n) (wpl D PL (Int32.ofNat nx)) n)), (6, .int 9)]) (st' := [.int 1, .int (bc6 (hv (hv l (fun p => -TT p) n) (wpl D PL (Int32.ofNat nx)) n))]) (s' := T2) rfl ?_
              refine yp_icmp rfl rfl (fun h81 => ?_) (fun h81 => ?_)
              · refine yp_run 4 (pc' := 117) (lv' := [(0, .ref 52), (1, .int l), (2, .int (t ||| (hv l (fun p => -TT p) n))), (3, .int (Int32.ofNat nx)), (4, .int (Int32.ofNat i)), (5, .int (hv (hv l (fun p => -TT p) n) (wpl D PL (Int32.ofNat nx)) n)), (6, .int 9)]) (st' := [.int 9, .int (Int32.ofNat nx), .int (hv (hv l (fun p => -TT p) n) (wpl D PL (Int32.ofNat nx)) n), .ref 52]) (s' := T2) rfl ?_
                have y0 : T2 52 0 = Int32.ofNat n := (congrFun (f2 _ (by decide)) 0).trans u0
                refine yp_vi rfl rfl rfl rfl (c_take (w := 9) (by decide) hn y0 ?_)
                obtain ⟨T4, hT4⟩ : ∃ X, X = tkSt T2 52 (hv (hv l (fun p => -TT p) n) (wpl D PL (Int32.ofNat nx)) n) (2 * (Int32.ofNat nx) + bc6 (hv (hv l (fun p => -TT p) n) (wpl D PL (Int32.ofNat nx)) n) - 1) 9 n := ⟨_, rfl⟩
                rw [← hT4]
                have g4 : ∀ k, k ≠ 60 → k ≠ 62 → k ≠ 73 → T4 k = s k := fun k a b c => by rw [hT4]; exact (tkSt_ne a b).trans ((f2 k c).trans (fr k a b c))
                have gE : ∀ p, p < n → T4 60 p = bif xcmp .eq (hd (hv (hv l (fun p => -TT p) n) (wpl D PL (Int32.ofNat nx)) n) (Int32.ofNat p)) 0 then E p else 2 * Int32.ofNat nx + bc6 (hv (hv l (fun p => -TT p) n) (wpl D PL (Int32.ofNat nx)) n) - 1 := fun p hp => by
                  rw [hT4]
                  unfold tkSt
                  rw [wr_ne (by decide), wr_in (Nat.zero_le _) hp]
                  unfold tkf
                  rw [show T2 (52 + 8) p = E p from (congrFun (f2 _ (by decide)) p).trans (hE p hp)]
                have gR : ∀ p, p < n → T4 62 p = bif xcmp .eq (hd (hv (hv l (fun p => -TT p) n) (wpl D PL (Int32.ofNat nx)) n) (Int32.ofNat p)) 0 then R p else 9 := fun p hp => by
                  rw [hT4]
                  unfold tkSt
                  rw [show 62 = 52 + 10 from rfl, wr_in (Nat.zero_le _) hp]
                  unfold tkf
                  rw [show T2 (52 + 10) p = R p from (congrFun (f2 _ (by decide)) p).trans (hR p hp)]
                refine yp_run 2 (pc' := 123) (lv' := [(0, .ref 52), (1, .int l), (2, .int (t ||| (hv l (fun p => -TT p) n))), (3, .int (Int32.ofNat nx)), (4, .int (Int32.ofNat i)), (5, .int (hv (hv l (fun p => -TT p) n) (wpl D PL (Int32.ofNat nx)) n)), (6, .int 9)]) (st' := [.int (hv (hv l (fun p => -TT p) n) (wpl D PL (Int32.ofNat nx)) n), .int (Int32.ofNat nx)]) (s' := T4) rfl ?_
                refine yp_st rfl rfl (c_bits ?_)
                refine yp_run 10 (pc' := 16) (lv' := [(0, .ref 52), (1, .int (l &&& ((hv (hv l (fun p => -TT p) n) (wpl D PL (Int32.ofNat nx)) n) ^^^ (-1)))), (2, .int (t ||| (hv l (fun p => -TT p) n))), (3, .int ((Int32.ofNat nx) + (bc6 (hv (hv l (fun p => -TT p) n) (wpl D PL (Int32.ofNat nx)) n)))), (4, .int ((Int32.ofNat i) + 1)), (5, .int (hv (hv l (fun p => -TT p) n) (wpl D PL (Int32.ofNat nx)) n)), (6, .int 9)]) (st' := []) (s' := T4) rfl ?_
                have e9 : pos n D TT PL WG nx (l, t) = ((l &&& ((hv (hv l (fun p => -TT p) n) (wpl D PL (Int32.ofNat nx)) n) ^^^ (-1))), (t ||| (hv l (fun p => -TT p) n)), (hv (hv l (fun p => -TT p) n) (wpl D PL (Int32.ofNat nx)) n), 9) := by
                  refine (pos_eq n D TT PL WG nx (l, t)).trans ?_
                  simp only [h42, h54, h81, cond_true, cond_false]
                have e7 := bcN_ok (hv (hv l (fun p => -TT p) n) (wpl D PL (Int32.ofNat nx)) n)
                have e6 := bcN_le (hv (hv l (fun p => -TT p) n) (wpl D PL (Int32.ofNat nx)) n)
                rw [i32_s, show Int32.ofNat nx + bc6 (hv (hv l (fun p => -TT p) n) (wpl D PL (Int32.ofNat nx)) n) = Int32.ofNat (nx + bcN (hv (hv l (fun p => -TT p) n) (wpl D PL (Int32.ofNat nx)) n)) from by rw [e7, Int32.ofNat_add]]
                refine yp_sel [0, 1, 2, 3, 4] ?_
                refine ih (i + 1) (nx + bcN (hv (hv l (fun p => -TT p) n) (wpl D PL (Int32.ofNat nx)) n)) _ _ _ _ T4 (by omega) (by omega) (by omega) g4 gE gR (fun T9 a1 a2 a3 => kk T9 a1 ?_ ?_)
                · intro p hp
                  rw [a2 p hp]
                  refine congrFun (congrArg Prod.fst ?_) p
                  refine Eq.symm ?_
                  refine (poR_s (hl := h26)).trans ?_
                  rw [e9]
                  rfl
                · intro p hp
                  rw [a3 p hp]
                  refine congrFun (congrArg Prod.snd ?_) p
                  refine Eq.symm ?_
                  refine (poR_s (hl := h26)).trans ?_
                  rw [e9]
                  rfl
              · refine yp_run 3 (pc' := 88) (lv' := [(0, .ref 52), (1, .int l), (2, .int (t ||| (hv l (fun p => -TT p) n))), (3, .int (Int32.ofNat nx)), (4, .int (Int32.ofNat i)), (5, .int (hv (hv l (fun p => -TT p) n) (wpl D PL (Int32.ofNat nx)) n)), (6, .int 9)]) (st' := [.int (Int32.ofNat nx), .int (hv (hv l (fun p => -TT p) n) (wpl D PL (Int32.ofNat nx)) n), .ref 52]) (s' := T2) rfl ?_
                have v0 : T2 52 0 = Int32.ofNat n := (congrFun (f2 _ (by decide)) 0).trans u0
                have v1 : T2 52 1 = Int32.ofNat D := (congrFun (f2 _ (by decide)) 1).trans u1
                refine yp_vi rfl rfl rfl rfl (c_bmrk (WG := WG) (by decide) hn hD h1x (by omega) v0 v1 (fun d p q h1 h2 h3 h4 => (congrFun ((f2 _ (by decide)).trans (fr _ (by decide) (by decide) (by decide))) _).trans (hWG d p q h1 h2 h3 h4)) ?_)
                obtain ⟨T3, hT3⟩ : ∃ X, X = bmSt T2 52 n D nx WG (n + 1 - nx) := ⟨_, rfl⟩
                rw [← hT3]
                have f3 : ∀ k, k ≠ 73 → T3 k = T k := fun k q => by rw [hT3]; exact (bmSt_ne q).trans (f2 k q)
                refine yp_run 2 (pc' := 95) (lv' := [(0, .ref 52), (1, .int l), (2, .int (t ||| (hv l (fun p => -TT p) n))), (3, .int (Int32.ofNat nx)), (4, .int (Int32.ofNat i)), (5, .int (bmk n D nx WG (hv (hv l (fun p => -TT p) n) (wpl D PL (Int32.ofNat nx)) n) (n + 1 - nx))), (6, .int 9)]) (st' := [.int (bmk n D nx WG (hv (hv l (fun p => -TT p) n) (wpl D PL (Int32.ofNat nx)) n) (n + 1 - nx))]) (s' := T3) rfl ?_
                refine yp_st rfl rfl (c_bits ?_)
                refine yp_run 1 (pc' := 99) (lv' := [(0, .ref 52), (1, .int l), (2, .int (t ||| (hv l (fun p => -TT p) n))), (3, .int (Int32.ofNat nx)), (4, .int (Int32.ofNat i)), (5, .int (bmk n D nx WG (hv (hv l (fun p => -TT p) n) (wpl D PL (Int32.ofNat nx)) n) (n + 1 - nx))), (6, .int 9)]) (st' := [.int 1, .int (bc6 (bmk n D nx WG (hv (hv l (fun p => -TT p) n) (wpl D PL (Int32.ofNat nx)) n) (n + 1 - nx)))]) (s' := T3) rfl ?_
                refine yp_icmp rfl rfl (fun h99 => ?_) (fun h99 => ?_)
                · refine yp_run 6 (pc' := 117) (lv' := [(0, .ref 52), (1, .int l), (2, .int (t ||| (hv l (fun p => -TT p) n))), (3, .int (Int32.ofNat nx)), (4, .int (Int32.ofNat i)), (5, .int (bmk n D nx WG (hv (hv l (fun p => -TT p) n) (wpl D PL (Int32.ofNat nx)) n) (n + 1 - nx))), (6, .int 11)]) (st' := [.int 11, .int (Int32.ofNat nx), .int (bmk n D nx WG (hv (hv l (fun p => -TT p) n) (wpl D PL (Int32.ofNat nx)) n) (n + 1 - nx)), .ref 52]) (s' := T3) rfl ?_
                  have y0 : T3 52 0 = Int32.ofNat n := (congrFun (f3 _ (by decide)) 0).trans u0
                  refine yp_vi rfl rfl rfl rfl (c_take (w := 11) (by decide) hn y0 ?_)
                  obtain ⟨T4, hT4⟩ : ∃ X, X = tkSt T3 52 (bmk n D nx WG (hv (hv l (fun p => -TT p) n) (wpl D PL (Int32.ofNat nx)) n) (n + 1 - nx)) (2 * (Int32.ofNat nx) + bc6 (bmk n D nx WG (hv (hv l (fun p => -TT p) n) (wpl D PL (Int32.ofNat nx)) n) (n + 1 - nx)) - 1) 11 n := ⟨_, rfl⟩
                  rw [← hT4]
                  have g4 : ∀ k, k ≠ 60 → k ≠ 62 → k ≠ 73 → T4 k = s k := fun k a b c => by rw [hT4]; exact (tkSt_ne a b).trans ((f3 k c).trans (fr k a b c))
                  have gE : ∀ p, p < n → T4 60 p = bif xcmp .eq (hd (bmk n D nx WG (hv (hv l (fun p => -TT p) n) (wpl D PL (Int32.ofNat nx)) n) (n + 1 - nx)) (Int32.ofNat p)) 0 then E p else 2 * Int32.ofNat nx + bc6 (bmk n D nx WG (hv (hv l (fun p => -TT p) n) (wpl D PL (Int32.ofNat nx)) n) (n + 1 - nx)) - 1 := fun p hp => by
                    rw [hT4]
                    unfold tkSt
                    rw [wr_ne (by decide), wr_in (Nat.zero_le _) hp]
                    unfold tkf
                    rw [show T3 (52 + 8) p = E p from (congrFun (f3 _ (by decide)) p).trans (hE p hp)]
                  have gR : ∀ p, p < n → T4 62 p = bif xcmp .eq (hd (bmk n D nx WG (hv (hv l (fun p => -TT p) n) (wpl D PL (Int32.ofNat nx)) n) (n + 1 - nx)) (Int32.ofNat p)) 0 then R p else 11 := fun p hp => by
                    rw [hT4]
                    unfold tkSt
                    rw [show 62 = 52 + 10 from rfl, wr_in (Nat.zero_le _) hp]
                    unfold tkf
                    rw [show T3 (52 + 10) p = R p from (congrFun (f3 _ (by decide)) p).trans (hR p hp)]
                  refine yp_run 2 (pc' := 123) (lv' := [(0, .ref 52), (1, .int l), (2, .int (t ||| (hv l (fun p => -TT p) n))), (3, .int (Int32.ofNat nx)), (4, .int (Int32.ofNat i)), (5, .int (bmk n D nx WG (hv (hv l (fun p => -TT p) n) (wpl D PL (Int32.ofNat nx)) n) (n + 1 - nx))), (6, .int 11)]) (st' := [.int (bmk n D nx WG (hv (hv l (fun p => -TT p) n) (wpl D PL (Int32.ofNat nx)) n) (n + 1 - nx)), .int (Int32.ofNat nx)]) (s' := T4) rfl ?_
                  refine yp_st rfl rfl (c_bits ?_)
                  refine yp_run 10 (pc' := 16) (lv' := [(0, .ref 52), (1, .int (l &&& ((bmk n D nx WG (hv (hv l (fun p => -TT p) n) (wpl D PL (Int32.ofNat nx)) n) (n + 1 - nx)) ^^^ (-1)))), (2, .int (t ||| (hv l (fun p => -TT p) n))), (3, .int ((Int32.ofNat nx) + (bc6 (bmk n D nx WG (hv (hv l (fun p => -TT p) n) (wpl D PL (Int32.ofNat nx)) n) (n + 1 - nx))))), (4, .int ((Int32.ofNat i) + 1)), (5, .int (bmk n D nx WG (hv (hv l (fun p => -TT p) n) (wpl D PL (Int32.ofNat nx)) n) (n + 1 - nx))), (6, .int 11)]) (st' := []) (s' := T4) rfl ?_
                  have e9 : pos n D TT PL WG nx (l, t) = ((l &&& ((bmk n D nx WG (hv (hv l (fun p => -TT p) n) (wpl D PL (Int32.ofNat nx)) n) (n + 1 - nx)) ^^^ (-1))), (t ||| (hv l (fun p => -TT p) n)), (bmk n D nx WG (hv (hv l (fun p => -TT p) n) (wpl D PL (Int32.ofNat nx)) n) (n + 1 - nx)), 11) := by
                    refine (pos_eq n D TT PL WG nx (l, t)).trans ?_
                    simp only [h42, h54, h81, h99, cond_true, cond_false]
                  have e7 := bcN_ok (bmk n D nx WG (hv (hv l (fun p => -TT p) n) (wpl D PL (Int32.ofNat nx)) n) (n + 1 - nx))
                  have e6 := bcN_le (bmk n D nx WG (hv (hv l (fun p => -TT p) n) (wpl D PL (Int32.ofNat nx)) n) (n + 1 - nx))
                  rw [i32_s, show Int32.ofNat nx + bc6 (bmk n D nx WG (hv (hv l (fun p => -TT p) n) (wpl D PL (Int32.ofNat nx)) n) (n + 1 - nx)) = Int32.ofNat (nx + bcN (bmk n D nx WG (hv (hv l (fun p => -TT p) n) (wpl D PL (Int32.ofNat nx)) n) (n + 1 - nx))) from by rw [e7, Int32.ofNat_add]]
                  refine yp_sel [0, 1, 2, 3, 4] ?_
                  refine ih (i + 1) (nx + bcN (bmk n D nx WG (hv (hv l (fun p => -TT p) n) (wpl D PL (Int32.ofNat nx)) n) (n + 1 - nx))) _ _ _ _ T4 (by omega) (by omega) (by omega) g4 gE gR (fun T9 a1 a2 a3 => kk T9 a1 ?_ ?_)
                  · intro p hp
                    rw [a2 p hp]
                    refine congrFun (congrArg Prod.fst ?_) p
                    refine Eq.symm ?_
                    refine (poR_s (hl := h26)).trans ?_
                    rw [e9]
                    rfl
                  · intro p hp
                    rw [a3 p hp]
                    refine congrFun (congrArg Prod.snd ?_) p
                    refine Eq.symm ?_
                    refine (poR_s (hl := h26)).trans ?_
                    rw [e9]
                    rfl
                · refine yp_run 7 (pc' := 117) (lv' := [(0, .ref 52), (1, .int l), (2, .int (t ||| (hv l (fun p => -TT p) n))), (3, .int (Int32.ofNat nx)), (4, .int (Int32.ofNat i)), (5, .int (bmk n D nx WG (hv (hv l (fun p => -TT p) n) (wpl D PL (Int32.ofNat nx)) n) (n + 1 - nx))), (6, .int 12)]) (st' := [.int 12, .int (Int32.ofNat nx), .int (bmk n D nx WG (hv (hv l (fun p => -TT p) n) (wpl D PL (Int32.ofNat nx)) n) (n + 1 - nx)), .ref 52]) (s' := T3) rfl ?_
                  have y0 : T3 52 0 = Int32.ofNat n := (congrFun (f3 _ (by decide)) 0).trans u0
                  refine yp_vi rfl rfl rfl rfl (c_take (w := 12) (by decide) hn y0 ?_)
                  obtain ⟨T4, hT4⟩ : ∃ X, X = tkSt T3 52 (bmk n D nx WG (hv (hv l (fun p => -TT p) n) (wpl D PL (Int32.ofNat nx)) n) (n + 1 - nx)) (2 * (Int32.ofNat nx) + bc6 (bmk n D nx WG (hv (hv l (fun p => -TT p) n) (wpl D PL (Int32.ofNat nx)) n) (n + 1 - nx)) - 1) 12 n := ⟨_, rfl⟩
                  rw [← hT4]
                  have g4 : ∀ k, k ≠ 60 → k ≠ 62 → k ≠ 73 → T4 k = s k := fun k a b c => by rw [hT4]; exact (tkSt_ne a b).trans ((f3 k c).trans (fr k a b c))
                  have gE : ∀ p, p < n → T4 60 p = bif xcmp .eq (hd (bmk n D nx WG (hv (hv l (fun p => -TT p) n) (wpl D PL (Int32.ofNat nx)) n) (n + 1 - nx)) (Int32.ofNat p)) 0 then E p else 2 * Int32.ofNat nx + bc6 (bmk n D nx WG (hv (hv l (fun p => -TT p) n) (wpl D PL (Int32.ofNat nx)) n) (n + 1 - nx)) - 1 := fun p hp => by
                    rw [hT4]
                    unfold tkSt
                    rw [wr_ne (by decide), wr_in (Nat.zero_le _) hp]
                    unfold tkf
                    rw [show T3 (52 + 8) p = E p from (congrFun (f3 _ (by decide)) p).trans (hE p hp)]
                  have gR : ∀ p, p < n → T4 62 p = bif xcmp .eq (hd (bmk n D nx WG (hv (hv l (fun p => -TT p) n) (wpl D PL (Int32.ofNat nx)) n) (n + 1 - nx)) (Int32.ofNat p)) 0 then R p else 12 := fun p hp => by
                    rw [hT4]
                    unfold tkSt
                    rw [show 62 = 52 + 10 from rfl, wr_in (Nat.zero_le _) hp]
                    unfold tkf
                    rw [show T3 (52 + 10) p = R p from (congrFun (f3 _ (by decide)) p).trans (hR p hp)]
                  refine yp_run 2 (pc' := 123) (lv' := [(0, .ref 52), (1, .int l), (2, .int (t ||| (hv l (fun p => -TT p) n))), (3, .int (Int32.ofNat nx)), (4, .int (Int32.ofNat i)), (5, .int (bmk n D nx WG (hv (hv l (fun p => -TT p) n) (wpl D PL (Int32.ofNat nx)) n) (n + 1 - nx))), (6, .int 12)]) (st' := [.int (bmk n D nx WG (hv (hv l (fun p => -TT p) n) (wpl D PL (Int32.ofNat nx)) n) (n + 1 - nx)), .int (Int32.ofNat nx)]) (s' := T4) rfl ?_
                  refine yp_st rfl rfl (c_bits ?_)
                  refine yp_run 10 (pc' := 16) (lv' := [(0, .ref 52), (1, .int (l &&& ((bmk n D nx WG (hv (hv l (fun p => -TT p) n) (wpl D PL (Int32.ofNat nx)) n) (n + 1 - nx)) ^^^ (-1)))), (2, .int (t ||| (hv l (fun p => -TT p) n))), (3, .int ((Int32.ofNat nx) + (bc6 (bmk n D nx WG (hv (hv l (fun p => -TT p) n) (wpl D PL (Int32.ofNat nx)) n) (n + 1 - nx))))), (4, .int ((Int32.ofNat i) + 1)), (5, .int (bmk n D nx WG (hv (hv l (fun p => -TT p) n) (wpl D PL (Int32.ofNat nx)) n) (n + 1 - nx))), (6, .int 12)]) (st' := []) (s' := T4) rfl ?_
                  have e9 : pos n D TT PL WG nx (l, t) = ((l &&& ((bmk n D nx WG (hv (hv l (fun p => -TT p) n) (wpl D PL (Int32.ofNat nx)) n) (n + 1 - nx)) ^^^ (-1))), (t ||| (hv l (fun p => -TT p) n)), (bmk n D nx WG (hv (hv l (fun p => -TT p) n) (wpl D PL (Int32.ofNat nx)) n) (n + 1 - nx)), 12) := by
                    refine (pos_eq n D TT PL WG nx (l, t)).trans ?_
                    simp only [h42, h54, h81, h99, cond_true, cond_false]
                  have e7 := bcN_ok (bmk n D nx WG (hv (hv l (fun p => -TT p) n) (wpl D PL (Int32.ofNat nx)) n) (n + 1 - nx))
                  have e6 := bcN_le (bmk n D nx WG (hv (hv l (fun p => -TT p) n) (wpl D PL (Int32.ofNat nx)) n) (n + 1 - nx))
                  rw [i32_s, show Int32.ofNat nx + bc6 (bmk n D nx WG (hv (hv l (fun p => -TT p) n) (wpl D PL (Int32.ofNat nx)) n) (n + 1 - nx)) = Int32.ofNat (nx + bcN (bmk n D nx WG (hv (hv l (fun p => -TT p) n) (wpl D PL (Int32.ofNat nx)) n) (n + 1 - nx))) from by rw [e7, Int32.ofNat_add]]
                  refine yp_sel [0, 1, 2, 3, 4] ?_
                  refine ih (i + 1) (nx + bcN (bmk n D nx WG (hv (hv l (fun p => -TT p) n) (wpl D PL (Int32.ofNat nx)) n) (n + 1 - nx))) _ _ _ _ T4 (by omega) (by omega) (by omega) g4 gE gR (fun T9 a1 a2 a3 => kk T9 a1 ?_ ?_)
                  · intro p hp
                    rw [a2 p hp]
                    refine congrFun (congrArg Prod.fst ?_) p
                    refine Eq.symm ?_
                    refine (poR_s (hl := h26)).trans ?_
                    rw [e9]
                    rfl
                  · intro p hp
                    rw [a3 p hp]
                    refine congrFun (congrArg Prod.snd ?_) p
                    refine Eq.symm ?_
                    refine (poR_s (hl := h26)).trans ?_
                    rw [e9]
                    rfl
theorem c_over {S n D : Nat} {TT : Nat → Int32} {PL : Nat → Nat → Int32} {WG : Nat → Nat → Nat → Int32} (hS : yss S) (hn : n ≤ 8) (hD : D ≤ 5) (hz : s S 0 = Int32.ofNat n) (hD1 : s S 1 = Int32.ofNat D) (hTT : ∀ p, p < n → s (S + 6) p = TT p) (hPL : ∀ d p, d < D → p < n → s (S + 2) (d * 8 + p) = PL d p) (hWG : ∀ d p q, d < D → p < n → 1 ≤ q → q ≤ n → s (S + 15) ((d * 8 + p) * 9 + q) = WG d p q)
    (kk : ∀ T' : yS, (∀ k, k ≠ S + 8 → k ≠ S + 10 → k ≠ S + 21 → T' k = s k) → (∀ p, p < n → T' (S + 8) p = (poR n D TT PL WG n 1 ((1 <<< (Int32.ofNat n &&& 31)) - 1, 0) (s (S + 8), s (S + 10))).1 p) → (∀ p, p < n → T' (S + 10) p = (poR n D TT PL WG n 1 ((1 <<< (Int32.ofNat n &&& 31)) - 1, 0) (s (S + 8), s (S + 10))).2 p) → Φ none T') : Yq sd 31 [.ref S] s Φ := by
  refine Yq.of rfl (Nat.le_of_ble_eq_true rfl) ?_
  rcases hS with rfl | rfl
  · have hz : s 30 0 = Int32.ofNat n := hz
    refine yp_run 13 (pc' := 16) (lv' := [(0, .ref 30), (1, .int ((1 <<< ((s 30 0) &&& 31)) - 1)), (2, .int 0), (3, .int 1), (4, .int 0)]) (st' := []) (s' := s) rfl ?_
    rw [hz]
    exact lz_po (by decide) hn hD hz hD1 hTT hPL hWG n 0 1 _ 0 (s 38) (s 40) s (Nat.zero_add n) (Nat.le_refl _) (Nat.le_refl _) (fun _ _ _ _ => rfl) (fun _ _ => rfl) (fun _ _ => rfl) kk
  · have hz : s 52 0 = Int32.ofNat n := hz
    refine yp_run 13 (pc' := 16) (lv' := [(0, .ref 52), (1, .int ((1 <<< ((s 52 0) &&& 31)) - 1)), (2, .int 0), (3, .int 1), (4, .int 0)]) (st' := []) (s' := s) rfl ?_
    rw [hz]
    exact lz_po (by decide) hn hD hz hD1 hTT hPL hWG n 0 1 _ 0 (s 60) (s 62) s (Nat.zero_add n) (Nat.le_refl _) (Nat.le_refl _) (fun _ _ _ _ => rfl) (fun _ _ => rfl) (fun _ _ => rfl) kk
end YP2
end
section
/-! totals; turns; who is ahead in a dance; reasons -/
section YQ2
variable {sd : Option (List Int32)} {μ pc : Nat} {lv : xL} {st : List Value} {s : yS} {Φ : Option Value → yS → Prop}
def ads (PL : Nat → Int32) (i : Nat) (a : Int32) : Int32 := (a + (PL i))
theorem ads_eq (PL : Nat → Int32) (i : Nat) (a : Int32) : ads PL i a = (a + (PL i)) := rfl
theorem lz_ad {S : Nat} {D : Nat} {PL : Nat → Int32} {a0 : Int32} {p : Nat} (hS : yss S) (hp : p < 8) (hD : D ≤ 5) (hD1 : s S 1 = Int32.ofNat D) (hP : ∀ d, d < D → s (S + 2) (d * 8 + p) = PL d) (kk : Yp sd 30 40 [(0, .ref S), (1, .int (Int32.ofNat p)), (2, .int (itf (ads PL) D a0)), (3, .int (Int32.ofNat D))] [] s Φ) : ∀ m i : Nat, i + m = D → Yp sd 30 14 [(0, .ref S), (1, .int (Int32.ofNat p)), (2, .int (itf (ads PL) i a0)), (3, .int (Int32.ofNat i))] [] s Φ := by
  intro m
  rcases hS with rfl | rfl
  · have hD1 : s 30 1 = Int32.ofNat D := hD1
    induction m with
    | zero =>
      intro i hi
      refine yp_run 3 (pc' := 19) (lv' := [(0, .ref 30), (1, .int (Int32.ofNat p)), (2, .int (itf (ads PL) i a0)), (3, .int (Int32.ofNat i))]) (st' := [.int (s 30 1), .int (Int32.ofNat i)]) (s' := s) rfl ?_
      refine yp_icmp rfl rfl (fun h => ?_) (fun h => ?_)
      · rw [show i = D by omega]
        exact kk
      · have h := xN (xc_ge _ _) h
        rw [hD1, i32_to (by omega), i32_to (by omega)] at h
        omega
    | succ m ih =>
      intro i hi
      refine yp_run 3 (pc' := 19) (lv' := [(0, .ref 30), (1, .int (Int32.ofNat p)), (2, .int (itf (ads PL) i a0)), (3, .int (Int32.ofNat i))]) (st' := [.int (s 30 1), .int (Int32.ofNat i)]) (s' := s) rfl ?_
      refine yp_icmp rfl rfl (fun h => ?_) (fun h => ?_)
      · have h := xT (xc_ge _ _) h
        rw [hD1, i32_to (by omega), i32_to (by omega)] at h
        omega
      · refine yp_run 5 (pc' := 29) (lv' := [(0, .ref 30), (1, .int (Int32.ofNat p)), (2, .int (itf (ads PL) i a0)), (3, .int (Int32.ofNat i))]) (st' := [.int (Int32.ofNat p), .int (Int32.ofNat i), .ref 31, .int (itf (ads PL) i a0)]) (s' := s) rfl ?_
        have gP : gget s 31 (Int32.ofNat i) (Int32.ofNat p) = PL i := (gget_i (k := 31) (by show p < 8; omega) (by decide) (by show i * 8 + p < 40; omega)).trans (hP i (by omega))
        refine yp_vi rfl rfl rfl rfl (c_ggetv rfl gP ?_)
        refine yp_run 4 (pc' := 14) (lv' := [(0, .ref 30), (1, .int (Int32.ofNat p)), (2, .int ((itf (ads PL) i a0) + (PL i))), (3, .int ((Int32.ofNat i) + 1))]) (st' := []) (s' := s) rfl ?_
        have e9 : (itf (ads PL) (i + 1) a0) = ((itf (ads PL) i a0) + (PL i)) := by
          refine (ads_eq PL i (itf (ads PL) i a0)).trans ?_
          rfl
        have e8 := ih (i + 1) (by omega)
        rw [e9] at e8
        rw [i32_s]
        refine yp_sel [0, 1, 2, 3] ?_
        exact e8
  · have hD1 : s 52 1 = Int32.ofNat D := hD1
    induction m with
    | zero =>
      intro i hi
      refine yp_run 3 (pc' := 19) (lv' := [(0, .ref 52), (1, .int (Int32.ofNat p)), (2, .int (itf (ads PL) i a0)), (3, .int (Int32.ofNat i))]) (st' := [.int (s 52 1), .int (Int32.ofNat i)]) (s' := s) rfl ?_
      refine yp_icmp rfl rfl (fun h => ?_) (fun h => ?_)
      · rw [show i = D by omega]
        exact kk
      · have h := xN (xc_ge _ _) h
        rw [hD1, i32_to (by omega), i32_to (by omega)] at h
        omega
    | succ m ih =>
      intro i hi
      refine yp_run 3 (pc' := 19) (lv' := [(0, .ref 52), (1, .int (Int32.ofNat p)), (2, .int (itf (ads PL) i a0)), (3, .int (Int32.ofNat i))]) (st' := [.int (s 52 1), .int (Int32.ofNat i)]) (s' := s) rfl ?_
      refine yp_icmp rfl rfl (fun h => ?_) (fun h => ?_)
      · have h := xT (xc_ge _ _) h
        rw [hD1, i32_to (by omega), i32_to (by omega)] at h
        omega
      · refine yp_run 5 (pc' := 29) (lv' := [(0, .ref 52), (1, .int (Int32.ofNat p)), (2, .int (itf (ads PL) i a0)), (3, .int (Int32.ofNat i))]) (st' := [.int (Int32.ofNat p), .int (Int32.ofNat i), .ref 53, .int (itf (ads PL) i a0)]) (s' := s) rfl ?_
        have gP : gget s 53 (Int32.ofNat i) (Int32.ofNat p) = PL i := (gget_i (k := 53) (by show p < 8; omega) (by decide) (by show i * 8 + p < 40; omega)).trans (hP i (by omega))
        refine yp_vi rfl rfl rfl rfl (c_ggetv rfl gP ?_)
        refine yp_run 4 (pc' := 14) (lv' := [(0, .ref 52), (1, .int (Int32.ofNat p)), (2, .int ((itf (ads PL) i a0) + (PL i))), (3, .int ((Int32.ofNat i) + 1))]) (st' := []) (s' := s) rfl ?_
        have e9 : (itf (ads PL) (i + 1) a0) = ((itf (ads PL) i a0) + (PL i)) := by
          refine (ads_eq PL i (itf (ads PL) i a0)).trans ?_
          rfl
        have e8 := ih (i + 1) (by omega)
        rw [e9] at e8
        rw [i32_s]
        refine yp_sel [0, 1, 2, 3] ?_
        exact e8
theorem lz_ao {S : Nat} {n : Nat} {PL : Nat → Nat → Int32} {D : Nat} (hS : yss S) (hn : n ≤ 8) (hD : D ≤ 5) (hz : s S 0 = Int32.ofNat n) (hD1 : s S 1 = Int32.ofNat D) (hP : ∀ d p, d < D → p < n → s (S + 2) (d * 8 + p) = PL d p) (kk : Yp sd 30 55 [(0, .ref S), (1, .int (Int32.ofNat n))] [] (wr s (S + 6) 0 n (fun p => itf (ads (fun d => PL d p)) D 0)) Φ) : ∀ m i : Nat, i + m = n → Yp sd 30 2 [(0, .ref S), (1, .int (Int32.ofNat i))] [] (wr s (S + 6) 0 i (fun p => itf (ads (fun d => PL d p)) D 0)) Φ := by
  intro m
  rcases hS with rfl | rfl
  · have hz : s 30 0 = Int32.ofNat n := hz
    have hD1 : s 30 1 = Int32.ofNat D := hD1
    induction m with
    | zero =>
      intro i hi
      obtain ⟨T, hT⟩ : ∃ T, T = (wr s 36 0 i (fun p => itf (ads (fun d => PL d p)) D 0)) := ⟨_, rfl⟩
      rw [← hT]
      have hk : ∀ k, k ≠ 36 → T k = s k := fun k q => by rw [hT]; exact wr_ne q
      have hzT : T 30 0 = Int32.ofNat n := (congrFun (hk 30 (by decide)) 0).trans hz
      have hdT : T 30 1 = Int32.ofNat D := (congrFun (hk 30 (by decide)) 1).trans hD1
      refine yp_run 3 (pc' := 7) (lv' := [(0, .ref 30), (1, .int (Int32.ofNat i))]) (st' := [.int (T 30 0), .int (Int32.ofNat i)]) (s' := T) rfl ?_
      refine yp_icmp rfl rfl (fun h => ?_) (fun h => ?_)
      · rw [hT, show i = n by omega]
        exact kk
      · have h := xN (xc_ge _ _) h
        rw [hzT, i32_to (by omega), i32_to (by omega)] at h
        omega
    | succ m ih =>
      intro i hi
      obtain ⟨T, hT⟩ : ∃ T, T = (wr s 36 0 i (fun p => itf (ads (fun d => PL d p)) D 0)) := ⟨_, rfl⟩
      rw [← hT]
      have hk : ∀ k, k ≠ 36 → T k = s k := fun k q => by rw [hT]; exact wr_ne q
      have hzT : T 30 0 = Int32.ofNat n := (congrFun (hk 30 (by decide)) 0).trans hz
      have hdT : T 30 1 = Int32.ofNat D := (congrFun (hk 30 (by decide)) 1).trans hD1
      refine yp_run 3 (pc' := 7) (lv' := [(0, .ref 30), (1, .int (Int32.ofNat i))]) (st' := [.int (T 30 0), .int (Int32.ofNat i)]) (s' := T) rfl ?_
      refine yp_icmp rfl rfl (fun h => ?_) (fun h => ?_)
      · have h := xT (xc_ge _ _) h
        rw [hzT, i32_to (by omega), i32_to (by omega)] at h
        omega
      · refine yp_run 4 (pc' := 14) (lv' := [(0, .ref 30), (1, .int (Int32.ofNat i)), (2, .int 0), (3, .int 0)]) (st' := []) (s' := T) rfl ?_
        refine lz_ad (a0 := 0) (PL := (fun d => PL d i)) (by decide) (by omega) hD hdT (fun d hd9 => (congrFun (hk 32 (by decide)) _).trans (hP d i hd9 (by omega))) ?_ D 0 (Nat.zero_add _)
        refine yp_run 4 (pc' := 46) (lv' := [(0, .ref 30), (1, .int (Int32.ofNat i)), (2, .int (itf (ads (fun d => PL d i)) D 0)), (3, .int (Int32.ofNat D))]) (st' := [.int (itf (ads (fun d => PL d i)) D 0), .int (Int32.ofNat i), .ref 35]) (s' := T) rfl ?_
        refine yp_vi rfl rfl rfl rfl (c_rset rfl ?_)
        refine yp_run 2 (pc' := 2) (lv' := [(0, .ref 30), (1, .int ((Int32.ofNat i) + 1)), (2, .int (itf (ads (fun d => PL d i)) D 0)), (3, .int (Int32.ofNat D))]) (st' := []) (s' := (rset T 35 (Int32.ofNat i) (itf (ads (fun d => PL d i)) D 0))) rfl ?_
        have e9 : (rset T 35 (Int32.ofNat i) (itf (ads (fun d => PL d i)) D 0)) = (wr s 36 0 (i + 1) (fun p => itf (ads (fun d => PL d p)) D 0)) := by
          rw [rset_i (k := 35) (by show i < 8; omega), hT]
          exact wr_s (by omega) (rfl)
        have e8 := ih (i + 1) (by omega)
        rw [e9, i32_s]
        refine yp_sel [0, 1] ?_
        exact e8
  · have hz : s 52 0 = Int32.ofNat n := hz
    have hD1 : s 52 1 = Int32.ofNat D := hD1
    induction m with
    | zero =>
      intro i hi
      obtain ⟨T, hT⟩ : ∃ T, T = (wr s 58 0 i (fun p => itf (ads (fun d => PL d p)) D 0)) := ⟨_, rfl⟩
      rw [← hT]
      have hk : ∀ k, k ≠ 58 → T k = s k := fun k q => by rw [hT]; exact wr_ne q
      have hzT : T 52 0 = Int32.ofNat n := (congrFun (hk 52 (by decide)) 0).trans hz
      have hdT : T 52 1 = Int32.ofNat D := (congrFun (hk 52 (by decide)) 1).trans hD1
      refine yp_run 3 (pc' := 7) (lv' := [(0, .ref 52), (1, .int (Int32.ofNat i))]) (st' := [.int (T 52 0), .int (Int32.ofNat i)]) (s' := T) rfl ?_
      refine yp_icmp rfl rfl (fun h => ?_) (fun h => ?_)
      · rw [hT, show i = n by omega]
        exact kk
      · have h := xN (xc_ge _ _) h
        rw [hzT, i32_to (by omega), i32_to (by omega)] at h
        omega
    | succ m ih =>
      intro i hi
      obtain ⟨T, hT⟩ : ∃ T, T = (wr s 58 0 i (fun p => itf (ads (fun d => PL d p)) D 0)) := ⟨_, rfl⟩
      rw [← hT]
      have hk : ∀ k, k ≠ 58 → T k = s k := fun k q => by rw [hT]; exact wr_ne q
      have hzT : T 52 0 = Int32.ofNat n := (congrFun (hk 52 (by decide)) 0).trans hz
      have hdT : T 52 1 = Int32.ofNat D := (congrFun (hk 52 (by decide)) 1).trans hD1
      refine yp_run 3 (pc' := 7) (lv' := [(0, .ref 52), (1, .int (Int32.ofNat i))]) (st' := [.int (T 52 0), .int (Int32.ofNat i)]) (s' := T) rfl ?_
      refine yp_icmp rfl rfl (fun h => ?_) (fun h => ?_)
      · have h := xT (xc_ge _ _) h
        rw [hzT, i32_to (by omega), i32_to (by omega)] at h
        omega
      · refine yp_run 4 (pc' := 14) (lv' := [(0, .ref 52), (1, .int (Int32.ofNat i)), (2, .int 0), (3, .int 0)]) (st' := []) (s' := T) rfl ?_
        refine lz_ad (a0 := 0) (PL := (fun d => PL d i)) (by decide) (by omega) hD hdT (fun d hd9 => (congrFun (hk 54 (by decide)) _).trans (hP d i hd9 (by omega))) ?_ D 0 (Nat.zero_add _)
        refine yp_run 4 (pc' := 46) (lv' := [(0, .ref 52), (1, .int (Int32.ofNat i)), (2, .int (itf (ads (fun d => PL d i)) D 0)), (3, .int (Int32.ofNat D))]) (st' := [.int (itf (ads (fun d => PL d i)) D 0), .int (Int32.ofNat i), .ref 57]) (s' := T) rfl ?_
        refine yp_vi rfl rfl rfl rfl (c_rset rfl ?_)
        refine yp_run 2 (pc' := 2) (lv' := [(0, .ref 52), (1, .int ((Int32.ofNat i) + 1)), (2, .int (itf (ads (fun d => PL d i)) D 0)), (3, .int (Int32.ofNat D))]) (st' := []) (s' := (rset T 57 (Int32.ofNat i) (itf (ads (fun d => PL d i)) D 0))) rfl ?_
        have e9 : (rset T 57 (Int32.ofNat i) (itf (ads (fun d => PL d i)) D 0)) = (wr s 58 0 (i + 1) (fun p => itf (ads (fun d => PL d p)) D 0)) := by
          rw [rset_i (k := 57) (by show i < 8; omega), hT]
          exact wr_s (by omega) (rfl)
        have e8 := ih (i + 1) (by omega)
        rw [e9, i32_s]
        refine yp_sel [0, 1] ?_
        exact e8
def tot (D : Nat) (PL : Nat → Nat → Int32) (p : Nat) : Int32 := itf (ads (fun d => PL d p)) D 0
theorem c_addp {S n D : Nat} {PL : Nat → Nat → Int32} (hS : yss S) (hn : n ≤ 8) (hD : D ≤ 5) (hz : s S 0 = Int32.ofNat n) (hD1 : s S 1 = Int32.ofNat D) (hP : ∀ d p, d < D → p < n → s (S + 2) (d * 8 + p) = PL d p) (kk : Φ none (wr s (S + 6) 0 n (tot D PL))) : Yq sd 30 [.ref S] s Φ := by
  refine Yq.of rfl (Nat.le_of_ble_eq_true rfl) ?_
  rcases hS with rfl | rfl
  · have w1 : Yp sd 30 55 [(0, .ref 30), (1, .int (Int32.ofNat n))] [] (wr s 36 0 n (tot D PL)) Φ := by
      refine yp_rv rfl rfl ?_
      exact kk
    have w2 := lz_ao (by decide) hn hD hz hD1 hP w1 n 0 (Nat.zero_add _)
    rw [wr_0] at w2
    refine yp_run 2 (pc' := 2) (lv' := [(0, .ref 30), (1, .int 0)]) (st' := []) (s' := s) rfl ?_
    exact w2
  · have w1 : Yp sd 30 55 [(0, .ref 52), (1, .int (Int32.ofNat n))] [] (wr s 58 0 n (tot D PL)) Φ := by
      refine yp_rv rfl rfl ?_
      exact kk
    have w2 := lz_ao (by decide) hn hD hz hD1 hP w1 n 0 (Nat.zero_add _)
    rw [wr_0] at w2
    refine yp_run 2 (pc' := 2) (lv' := [(0, .ref 52), (1, .int 0)]) (st' := []) (s' := s) rfl ?_
    exact w2
/-- from p on, the first of m places that is enough; else what is behind n -/
def trN (n : Nat) (NB : Nat → Int32) (mj : Int32) : Nat → Nat → Nat
  | 0, _ => n + 1
  | m + 1, p => bif xcmp .lt (NB p) mj then trN n NB mj m (p + 1) else p
theorem trN_in {n : Nat} {NB : Nat → Int32} {mj : Int32} : ∀ (m i : Nat), i + m = n → 1 ≤ trN n NB mj m (i + 1) ∧ trN n NB mj m (i + 1) ≤ n + 1
  | 0, i, h => ⟨by show 1 ≤ n + 1; omega, Nat.le_refl _⟩
  | m + 1, i, h => by
    show 1 ≤ (bif _ then _ else _) ∧ (bif _ then _ else _) ≤ n + 1
    cases xcmp .lt (NB (i + 1)) mj with
    | true => exact trN_in m (i + 1) (by omega)
    | false => exact ⟨by show 1 ≤ i + 1; omega, by show i + 1 ≤ n + 1; omega⟩
theorem lz_tr {S n d p : Nat} {NB : Nat → Int32} {mj : Int32} (hS : yss S) (hn : n ≤ 7) (hd5 : d < 5) (hp : p < 8) (hz : s S 0 = Int32.ofNat n) (hN : ∀ q, 1 ≤ q → q ≤ n → s (S + 13) ((d * 8 + p) * 9 + q) = NB q) : ∀ m i : Nat, i + m = n → Φ (some (.int (Int32.ofNat (trN n NB mj m (i + 1))))) s →
    Yp sd 22 17 [(0, .ref S), (1, .int (Int32.ofNat d)), (2, .int (Int32.ofNat p)), (3, .int 0), (4, .int mj), (5, .int (Int32.ofNat (i + 1)))] [] s Φ := by
  intro m
  rcases hS with rfl | rfl
  · have hz : s 30 0 = Int32.ofNat n := hz
    induction m with
    | zero =>
      intro i hi kk
      refine yp_run 3 (pc' := 23) (lv' := [(0, .ref 30), (1, .int (Int32.ofNat d)), (2, .int (Int32.ofNat p)), (3, .int 0), (4, .int mj), (5, .int (Int32.ofNat (i + 1)))]) (st' := [.int (s 30 0), .int (Int32.ofNat (i + 1))]) (s' := s) rfl ?_
      refine yp_icmp rfl rfl (fun h => ?_) (fun h => ?_)
      · refine yp_run 4 (pc' := 64) (lv' := [(0, .ref 30), (1, .int (Int32.ofNat d)), (2, .int (Int32.ofNat p)), (3, .int 0), (4, .int mj), (5, .int (Int32.ofNat (i + 1)))]) (st' := [.int ((s 30 0) + 1)]) (s' := s) rfl ?_
        refine yp_ri rfl rfl ?_
        rw [hz, i32_s]
        exact kk
      · have h := xN (xc_gt _ _) h
        rw [hz, i32_to (by omega), i32_to (by omega)] at h
        omega
    | succ m ih =>
      intro i hi kk
      refine yp_run 3 (pc' := 23) (lv' := [(0, .ref 30), (1, .int (Int32.ofNat d)), (2, .int (Int32.ofNat p)), (3, .int 0), (4, .int mj), (5, .int (Int32.ofNat (i + 1)))]) (st' := [.int (s 30 0), .int (Int32.ofNat (i + 1))]) (s' := s) rfl ?_
      refine yp_icmp rfl rfl (fun h => ?_) (fun h => ?_)
      · have h := xT (xc_gt _ _) h
        rw [hz, i32_to (by omega), i32_to (by omega)] at h
        omega
      · refine yp_run 1 (pc' := 27) (lv' := [(0, .ref 30), (1, .int (Int32.ofNat d)), (2, .int (Int32.ofNat p)), (3, .int 0), (4, .int mj), (5, .int (Int32.ofNat (i + 1)))]) (st' := [.int 0]) (s' := s) rfl ?_
        refine yp_if rfl rfl (fun h27 => ?_) (fun h27 => ?_)
        · cases h27
        · refine yp_run 4 (pc' := 36) (lv' := [(0, .ref 30), (1, .int (Int32.ofNat d)), (2, .int (Int32.ofNat p)), (3, .int 0), (4, .int mj), (5, .int (Int32.ofNat (i + 1)))]) (st' := [.int (Int32.ofNat p), .int (Int32.ofNat d), .ref 41]) (s' := s) rfl ?_
          refine yp_st rfl rfl (c_rowOf ?_)
          refine yp_run 1 (pc' := 41) (lv' := [(0, .ref 30), (1, .int (Int32.ofNat d)), (2, .int (Int32.ofNat p)), (3, .int 0), (4, .int mj), (5, .int (Int32.ofNat (i + 1)))]) (st' := [.int (Int32.ofNat (i + 1)), .int ((Int32.ofNat d) * 8 + (Int32.ofNat p)), .ref 41]) (s' := s) rfl ?_
          have gN : gget s 42 (Int32.ofNat d * 8 + Int32.ofNat p) (Int32.ofNat (i + 1)) = NB (i + 1) := by rw [row_i]; exact (gget_i (k := 42) (by show i + 1 < 9; omega) (by decide) (by show (d * 8 + p) * 9 + (i + 1) < 360; omega)).trans (hN (i + 1) (by omega) (by omega))
          refine yp_vi rfl rfl rfl rfl (c_numv (by decide) gN ?_)
          refine yp_run 1 (pc' := 46) (lv' := [(0, .ref 30), (1, .int (Int32.ofNat d)), (2, .int (Int32.ofNat p)), (3, .int 0), (4, .int mj), (5, .int (Int32.ofNat (i + 1)))]) (st' := [.int mj, .int (NB (i + 1))]) (s' := s) rfl ?_
          refine yp_icmp rfl rfl (fun h46 => ?_) (fun h46 => ?_)
          · refine yp_run 2 (pc' := 17) (lv' := [(0, .ref 30), (1, .int (Int32.ofNat d)), (2, .int (Int32.ofNat p)), (3, .int 0), (4, .int mj), (5, .int ((Int32.ofNat (i + 1)) + 1))]) (st' := []) (s' := s) rfl ?_
            have kk : Φ (some (.int (Int32.ofNat (trN n NB mj m (i + 1 + 1))))) s := by
              have e9 : trN n NB mj (m + 1) (i + 1) = trN n NB mj m (i + 1 + 1) := by
                show (bif xcmp .lt (NB (i + 1)) mj then _ else _) = _
                rw [h46]
                rfl
              rw [← e9]
              exact kk
            rw [i32_s]
            refine yp_sel [0, 1, 2, 3, 4, 5] ?_
            exact ih (i + 1) (by omega) kk
          · refine yp_run 1 (pc' := 51) (lv' := [(0, .ref 30), (1, .int (Int32.ofNat d)), (2, .int (Int32.ofNat p)), (3, .int 0), (4, .int mj), (5, .int (Int32.ofNat (i + 1)))]) (st' := [.int (Int32.ofNat (i + 1))]) (s' := s) rfl ?_
            refine yp_ri rfl rfl ?_
            have e9 : trN n NB mj (m + 1) (i + 1) = i + 1 := by
              show (bif xcmp .lt (NB (i + 1)) mj then _ else _) = _
              rw [h46]
              rfl
            rw [e9] at kk
            exact kk
  · have hz : s 52 0 = Int32.ofNat n := hz
    induction m with
    | zero =>
      intro i hi kk
      refine yp_run 3 (pc' := 23) (lv' := [(0, .ref 52), (1, .int (Int32.ofNat d)), (2, .int (Int32.ofNat p)), (3, .int 0), (4, .int mj), (5, .int (Int32.ofNat (i + 1)))]) (st' := [.int (s 52 0), .int (Int32.ofNat (i + 1))]) (s' := s) rfl ?_
      refine yp_icmp rfl rfl (fun h => ?_) (fun h => ?_)
      · refine yp_run 4 (pc' := 64) (lv' := [(0, .ref 52), (1, .int (Int32.ofNat d)), (2, .int (Int32.ofNat p)), (3, .int 0), (4, .int mj), (5, .int (Int32.ofNat (i + 1)))]) (st' := [.int ((s 52 0) + 1)]) (s' := s) rfl ?_
        refine yp_ri rfl rfl ?_
        rw [hz, i32_s]
        exact kk
      · have h := xN (xc_gt _ _) h
        rw [hz, i32_to (by omega), i32_to (by omega)] at h
        omega
    | succ m ih =>
      intro i hi kk
      refine yp_run 3 (pc' := 23) (lv' := [(0, .ref 52), (1, .int (Int32.ofNat d)), (2, .int (Int32.ofNat p)), (3, .int 0), (4, .int mj), (5, .int (Int32.ofNat (i + 1)))]) (st' := [.int (s 52 0), .int (Int32.ofNat (i + 1))]) (s' := s) rfl ?_
      refine yp_icmp rfl rfl (fun h => ?_) (fun h => ?_)
      · have h := xT (xc_gt _ _) h
        rw [hz, i32_to (by omega), i32_to (by omega)] at h
        omega
      · refine yp_run 1 (pc' := 27) (lv' := [(0, .ref 52), (1, .int (Int32.ofNat d)), (2, .int (Int32.ofNat p)), (3, .int 0), (4, .int mj), (5, .int (Int32.ofNat (i + 1)))]) (st' := [.int 0]) (s' := s) rfl ?_
        refine yp_if rfl rfl (fun h27 => ?_) (fun h27 => ?_)
        · cases h27
        · refine yp_run 4 (pc' := 36) (lv' := [(0, .ref 52), (1, .int (Int32.ofNat d)), (2, .int (Int32.ofNat p)), (3, .int 0), (4, .int mj), (5, .int (Int32.ofNat (i + 1)))]) (st' := [.int (Int32.ofNat p), .int (Int32.ofNat d), .ref 63]) (s' := s) rfl ?_
          refine yp_st rfl rfl (c_rowOf ?_)
          refine yp_run 1 (pc' := 41) (lv' := [(0, .ref 52), (1, .int (Int32.ofNat d)), (2, .int (Int32.ofNat p)), (3, .int 0), (4, .int mj), (5, .int (Int32.ofNat (i + 1)))]) (st' := [.int (Int32.ofNat (i + 1)), .int ((Int32.ofNat d) * 8 + (Int32.ofNat p)), .ref 63]) (s' := s) rfl ?_
          have gN : gget s 64 (Int32.ofNat d * 8 + Int32.ofNat p) (Int32.ofNat (i + 1)) = NB (i + 1) := by rw [row_i]; exact (gget_i (k := 64) (by show i + 1 < 9; omega) (by decide) (by show (d * 8 + p) * 9 + (i + 1) < 360; omega)).trans (hN (i + 1) (by omega) (by omega))
          refine yp_vi rfl rfl rfl rfl (c_numv (by decide) gN ?_)
          refine yp_run 1 (pc' := 46) (lv' := [(0, .ref 52), (1, .int (Int32.ofNat d)), (2, .int (Int32.ofNat p)), (3, .int 0), (4, .int mj), (5, .int (Int32.ofNat (i + 1)))]) (st' := [.int mj, .int (NB (i + 1))]) (s' := s) rfl ?_
          refine yp_icmp rfl rfl (fun h46 => ?_) (fun h46 => ?_)
          · refine yp_run 2 (pc' := 17) (lv' := [(0, .ref 52), (1, .int (Int32.ofNat d)), (2, .int (Int32.ofNat p)), (3, .int 0), (4, .int mj), (5, .int ((Int32.ofNat (i + 1)) + 1))]) (st' := []) (s' := s) rfl ?_
            have kk : Φ (some (.int (Int32.ofNat (trN n NB mj m (i + 1 + 1))))) s := by
              have e9 : trN n NB mj (m + 1) (i + 1) = trN n NB mj m (i + 1 + 1) := by
                show (bif xcmp .lt (NB (i + 1)) mj then _ else _) = _
                rw [h46]
                rfl
              rw [← e9]
              exact kk
            rw [i32_s]
            refine yp_sel [0, 1, 2, 3, 4, 5] ?_
            exact ih (i + 1) (by omega) kk
          · refine yp_run 1 (pc' := 51) (lv' := [(0, .ref 52), (1, .int (Int32.ofNat d)), (2, .int (Int32.ofNat p)), (3, .int 0), (4, .int mj), (5, .int (Int32.ofNat (i + 1)))]) (st' := [.int (Int32.ofNat (i + 1))]) (s' := s) rfl ?_
            refine yp_ri rfl rfl ?_
            have e9 : trN n NB mj (m + 1) (i + 1) = i + 1 := by
              show (bif xcmp .lt (NB (i + 1)) mj then _ else _) = _
              rw [h46]
              rfl
            rw [e9] at kk
            exact kk
theorem c_turn {S n d p : Nat} {NB : Nat → Int32} {SH : Int32} (hS : yss S) (hn : n ≤ 7) (hd5 : d < 5) (hp : p < 8) (hz : s S 0 = Int32.ofNat n) (hN : ∀ q, 1 ≤ q → q ≤ n → s (S + 13) ((d * 8 + p) * 9 + q) = NB q) (hSH : s (S + 17) d = SH) (kk : Φ (some (.int (Int32.ofNat (trN n NB (SH / 2 + 1) n 1)))) s) : Yq sd 22 [.ref S, .int (Int32.ofNat d), .int (Int32.ofNat p), .int 0] s Φ := by
  refine Yq.of rfl (Nat.le_of_ble_eq_true rfl) ?_
  rcases hS with rfl | rfl
  · have hz : s 30 0 = Int32.ofNat n := hz
    refine yp_run 3 (pc' := 5) (lv' := [(0, .ref 30), (1, .int (Int32.ofNat d)), (2, .int (Int32.ofNat p)), (3, .int 0)]) (st' := [.int (Int32.ofNat d), .ref 46]) (s' := s) rfl ?_
    have gS : rget s 46 (Int32.ofNat d) = SH := (rget_i (by show d < 5; omega)).trans hSH
    refine yp_vi rfl rfl rfl rfl (c_rgetv rfl gS ?_)
    refine yp_run 7 (pc' := 17) (lv' := [(0, .ref 30), (1, .int (Int32.ofNat d)), (2, .int (Int32.ofNat p)), (3, .int 0), (4, .int ((SH / 2) + 1)), (5, .int 1)]) (st' := []) (s' := s) rfl ?_
    exact lz_tr (by decide) hn hd5 hp hz hN n 0 (Nat.zero_add n) kk
  · have hz : s 52 0 = Int32.ofNat n := hz
    refine yp_run 3 (pc' := 5) (lv' := [(0, .ref 52), (1, .int (Int32.ofNat d)), (2, .int (Int32.ofNat p)), (3, .int 0)]) (st' := [.int (Int32.ofNat d), .ref 68]) (s' := s) rfl ?_
    have gS : rget s 68 (Int32.ofNat d) = SH := (rget_i (by show d < 5; omega)).trans hSH
    refine yp_vi rfl rfl rfl rfl (c_rgetv rfl gS ?_)
    refine yp_run 7 (pc' := 17) (lv' := [(0, .ref 52), (1, .int (Int32.ofNat d)), (2, .int (Int32.ofNat p)), (3, .int 0), (4, .int ((SH / 2) + 1)), (5, .int 1)]) (st' := []) (s' := s) rfl ?_
    exact lz_tr (by decide) hn hd5 hp hz hN n 0 (Nat.zero_add n) kk
/-- the first difference of weights, from p on -/
def tcm (WA WB : Nat → Int32) : Nat → Nat → Int32
  | 0, _ => 0
  | m + 1, p => bif xcmp .eq (WB p - WA p) 0 then tcm WA WB m (p + 1) else WB p - WA p
theorem lz_tc {S n a b : Nat} {f : Int32} {WA WB : Nat → Int32} (hS : yss S) (hn : n ≤ 7) (ha : a < 40) (hb : b < 40) (hw : s (S + 11) 0 = Int32.ofNat n) (hWA : ∀ q, 1 ≤ q → q ≤ n → s (S + 15) (a * 9 + q) = WA q) (hWB : ∀ q, 1 ≤ q → q ≤ n → s (S + 15) (b * 9 + q) = WB q) : ∀ m i : Nat, 1 ≤ i → i + m = n + 1 → Φ (some (.int (tcm WA WB m i))) s →
    Yp sd 26 3 [(0, .ref (S + 11)), (1, .int (Int32.ofNat a)), (2, .int (Int32.ofNat b)), (3, .int f), (4, .int (Int32.ofNat i))] [] s Φ := by
  intro m
  rcases hS with rfl | rfl
  · have hw : s 41 0 = Int32.ofNat n := hw
    induction m with
    | zero =>
      intro i h1 hi kk
      refine yp_run 3 (pc' := 9) (lv' := [(0, .ref 41), (1, .int (Int32.ofNat a)), (2, .int (Int32.ofNat b)), (3, .int f), (4, .int (Int32.ofNat i))]) (st' := [.int (s 41 0), .int (Int32.ofNat i)]) (s' := s) rfl ?_
      refine yp_icmp rfl rfl (fun h => ?_) (fun h => ?_)
      · refine yp_run 1 (pc' := 50) (lv' := [(0, .ref 41), (1, .int (Int32.ofNat a)), (2, .int (Int32.ofNat b)), (3, .int f), (4, .int (Int32.ofNat i))]) (st' := [.int 0]) (s' := s) rfl ?_
        refine yp_ri rfl rfl ?_
        exact kk
      · have h := xN (xc_gt _ _) h
        rw [hw, i32_to (by omega), i32_to (by omega)] at h
        omega
    | succ m ih =>
      intro i h1 hi kk
      refine yp_run 3 (pc' := 9) (lv' := [(0, .ref 41), (1, .int (Int32.ofNat a)), (2, .int (Int32.ofNat b)), (3, .int f), (4, .int (Int32.ofNat i))]) (st' := [.int (s 41 0), .int (Int32.ofNat i)]) (s' := s) rfl ?_
      refine yp_icmp rfl rfl (fun h => ?_) (fun h => ?_)
      · have h := xT (xc_gt _ _) h
        rw [hw, i32_to (by omega), i32_to (by omega)] at h
        omega
      · refine yp_run 4 (pc' := 19) (lv' := [(0, .ref 41), (1, .int (Int32.ofNat a)), (2, .int (Int32.ofNat b)), (3, .int f), (4, .int (Int32.ofNat i))]) (st' := [.int (Int32.ofNat i), .int (Int32.ofNat b), .ref 44]) (s' := s) rfl ?_
        have gb : gget s 44 (Int32.ofNat b) (Int32.ofNat i) = WB i := (gget_i (k := 44) (by show i < 9; omega) (by decide) (by show b * 9 + i < 360; omega)).trans (hWB i h1 (by omega))
        refine yp_vi rfl rfl rfl rfl (c_ggetv rfl gb ?_)
        refine yp_run 4 (pc' := 29) (lv' := [(0, .ref 41), (1, .int (Int32.ofNat a)), (2, .int (Int32.ofNat b)), (3, .int f), (4, .int (Int32.ofNat i))]) (st' := [.int (Int32.ofNat i), .int (Int32.ofNat a), .ref 44, .int (WB i)]) (s' := s) rfl ?_
        have ga : gget s 44 (Int32.ofNat a) (Int32.ofNat i) = WA i := (gget_i (k := 44) (by show i < 9; omega) (by decide) (by show a * 9 + i < 360; omega)).trans (hWA i h1 (by omega))
        refine yp_vi rfl rfl rfl rfl (c_ggetv rfl ga ?_)
        refine yp_run 3 (pc' := 37) (lv' := [(0, .ref 41), (1, .int (Int32.ofNat a)), (2, .int (Int32.ofNat b)), (3, .int f), (4, .int (Int32.ofNat i)), (5, .int ((WB i) - (WA i)))]) (st' := [.int ((WB i) - (WA i))]) (s' := s) rfl ?_
        refine yp_if rfl rfl (fun h37 => ?_) (fun h37 => ?_)
        · refine yp_run 2 (pc' := 3) (lv' := [(0, .ref 41), (1, .int (Int32.ofNat a)), (2, .int (Int32.ofNat b)), (3, .int f), (4, .int ((Int32.ofNat i) + 1)), (5, .int ((WB i) - (WA i)))]) (st' := []) (s' := s) rfl ?_
          have e9 : tcm WA WB (m + 1) i = tcm WA WB m (i + 1) := by
            show (bif xcmp .eq (WB i - WA i) 0 then _ else _) = _
            rw [h37]
            rfl
          rw [e9] at kk
          rw [i32_s]
          refine yp_sel [0, 1, 2, 3, 4] ?_
          exact ih (i + 1) (by omega) (by omega) kk
        · refine yp_run 1 (pc' := 42) (lv' := [(0, .ref 41), (1, .int (Int32.ofNat a)), (2, .int (Int32.ofNat b)), (3, .int f), (4, .int (Int32.ofNat i)), (5, .int ((WB i) - (WA i)))]) (st' := [.int ((WB i) - (WA i))]) (s' := s) rfl ?_
          refine yp_ri rfl rfl ?_
          have e9 : tcm WA WB (m + 1) i = WB i - WA i := by
            show (bif xcmp .eq (WB i - WA i) 0 then _ else _) = _
            rw [h37]
            rfl
          rw [e9] at kk
          exact kk
  · have hw : s 63 0 = Int32.ofNat n := hw
    induction m with
    | zero =>
      intro i h1 hi kk
      refine yp_run 3 (pc' := 9) (lv' := [(0, .ref 63), (1, .int (Int32.ofNat a)), (2, .int (Int32.ofNat b)), (3, .int f), (4, .int (Int32.ofNat i))]) (st' := [.int (s 63 0), .int (Int32.ofNat i)]) (s' := s) rfl ?_
      refine yp_icmp rfl rfl (fun h => ?_) (fun h => ?_)
      · refine yp_run 1 (pc' := 50) (lv' := [(0, .ref 63), (1, .int (Int32.ofNat a)), (2, .int (Int32.ofNat b)), (3, .int f), (4, .int (Int32.ofNat i))]) (st' := [.int 0]) (s' := s) rfl ?_
        refine yp_ri rfl rfl ?_
        exact kk
      · have h := xN (xc_gt _ _) h
        rw [hw, i32_to (by omega), i32_to (by omega)] at h
        omega
    | succ m ih =>
      intro i h1 hi kk
      refine yp_run 3 (pc' := 9) (lv' := [(0, .ref 63), (1, .int (Int32.ofNat a)), (2, .int (Int32.ofNat b)), (3, .int f), (4, .int (Int32.ofNat i))]) (st' := [.int (s 63 0), .int (Int32.ofNat i)]) (s' := s) rfl ?_
      refine yp_icmp rfl rfl (fun h => ?_) (fun h => ?_)
      · have h := xT (xc_gt _ _) h
        rw [hw, i32_to (by omega), i32_to (by omega)] at h
        omega
      · refine yp_run 4 (pc' := 19) (lv' := [(0, .ref 63), (1, .int (Int32.ofNat a)), (2, .int (Int32.ofNat b)), (3, .int f), (4, .int (Int32.ofNat i))]) (st' := [.int (Int32.ofNat i), .int (Int32.ofNat b), .ref 66]) (s' := s) rfl ?_
        have gb : gget s 66 (Int32.ofNat b) (Int32.ofNat i) = WB i := (gget_i (k := 66) (by show i < 9; omega) (by decide) (by show b * 9 + i < 360; omega)).trans (hWB i h1 (by omega))
        refine yp_vi rfl rfl rfl rfl (c_ggetv rfl gb ?_)
        refine yp_run 4 (pc' := 29) (lv' := [(0, .ref 63), (1, .int (Int32.ofNat a)), (2, .int (Int32.ofNat b)), (3, .int f), (4, .int (Int32.ofNat i))]) (st' := [.int (Int32.ofNat i), .int (Int32.ofNat a), .ref 66, .int (WB i)]) (s' := s) rfl ?_
        have ga : gget s 66 (Int32.ofNat a) (Int32.ofNat i) = WA i := (gget_i (k := 66) (by show i < 9; omega) (by decide) (by show a * 9 + i < 360; omega)).trans (hWA i h1 (by omega))
        refine yp_vi rfl rfl rfl rfl (c_ggetv rfl ga ?_)
        refine yp_run 3 (pc' := 37) (lv' := [(0, .ref 63), (1, .int (Int32.ofNat a)), (2, .int (Int32.ofNat b)), (3, .int f), (4, .int (Int32.ofNat i)), (5, .int ((WB i) - (WA i)))]) (st' := [.int ((WB i) - (WA i))]) (s' := s) rfl ?_
        refine yp_if rfl rfl (fun h37 => ?_) (fun h37 => ?_)
        · refine yp_run 2 (pc' := 3) (lv' := [(0, .ref 63), (1, .int (Int32.ofNat a)), (2, .int (Int32.ofNat b)), (3, .int f), (4, .int ((Int32.ofNat i) + 1)), (5, .int ((WB i) - (WA i)))]) (st' := []) (s' := s) rfl ?_
          have e9 : tcm WA WB (m + 1) i = tcm WA WB m (i + 1) := by
            show (bif xcmp .eq (WB i - WA i) 0 then _ else _) = _
            rw [h37]
            rfl
          rw [e9] at kk
          rw [i32_s]
          refine yp_sel [0, 1, 2, 3, 4] ?_
          exact ih (i + 1) (by omega) (by omega) kk
        · refine yp_run 1 (pc' := 42) (lv' := [(0, .ref 63), (1, .int (Int32.ofNat a)), (2, .int (Int32.ofNat b)), (3, .int f), (4, .int (Int32.ofNat i)), (5, .int ((WB i) - (WA i)))]) (st' := [.int ((WB i) - (WA i))]) (s' := s) rfl ?_
          refine yp_ri rfl rfl ?_
          have e9 : tcm WA WB (m + 1) i = WB i - WA i := by
            show (bif xcmp .eq (WB i - WA i) 0 then _ else _) = _
            rw [h37]
            rfl
          rw [e9] at kk
          exact kk
theorem c_comp {S n a b f : Nat} {WA WB : Nat → Int32} (hS : yss S) (hn : n ≤ 7) (ha : a < 40) (hb : b < 40) (hw : s (S + 11) 0 = Int32.ofNat n) (hWA : ∀ q, 1 ≤ q → q ≤ n → s (S + 15) (a * 9 + q) = WA q) (hWB : ∀ q, 1 ≤ q → q ≤ n → s (S + 15) (b * 9 + q) = WB q) (hf1 : 1 ≤ f) (hf2 : f ≤ n + 1) (kk : Φ (some (.int (tcm WA WB (n + 1 - f) f))) s) : Yq sd 26 [.ref (S + 11), .int (Int32.ofNat a), .int (Int32.ofNat b), .int (Int32.ofNat f)] s Φ := by
  refine Yq.of rfl (Nat.le_of_ble_eq_true rfl) ?_
  rcases hS with rfl | rfl
  · have hw : s 41 0 = Int32.ofNat n := hw
    refine yp_run 2 (pc' := 3) (lv' := [(0, .ref 41), (1, .int (Int32.ofNat a)), (2, .int (Int32.ofNat b)), (3, .int (Int32.ofNat f)), (4, .int (Int32.ofNat f))]) (st' := []) (s' := s) rfl ?_
    exact lz_tc (by decide) hn ha hb hw hWA hWB (n + 1 - f) f hf1 (by omega) kk
  · have hw : s 63 0 = Int32.ofNat n := hw
    refine yp_run 2 (pc' := 3) (lv' := [(0, .ref 63), (1, .int (Int32.ofNat a)), (2, .int (Int32.ofNat b)), (3, .int (Int32.ofNat f)), (4, .int (Int32.ofNat f))]) (st' := []) (s' := s) rfl ?_
    exact lz_tc (by decide) hn ha hb hw hWA hWB (n + 1 - f) f hf1 (by omega) kk
def cmd (n : Nat) (TR : Nat → Nat) (WG : Nat → Nat → Int32) (a b : Nat) : Int32 := bif xcmp .eq (Int32.ofNat (TR a) - Int32.ofNat (TR b)) 0 then tcm (WG a) (WG b) (n + 1 - TR a) (TR a) else Int32.ofNat (TR a) - Int32.ofNat (TR b)
theorem c_cmpD {S n d a b : Nat} {TR : Nat → Nat} {WG : Nat → Nat → Int32} (hS : yss S) (hn : n ≤ 7) (hd5 : d < 5) (han : a < n) (hbn : b < n) (hw : s (S + 11) 0 = Int32.ofNat n) (hTR : ∀ p, p < n → s (S + 19) p = Int32.ofNat (TR p)) (hT1 : ∀ p, p < n → 1 ≤ TR p ∧ TR p ≤ n + 1) (hWG : ∀ p q, p < n → 1 ≤ q → q ≤ n → s (S + 15) ((d * 8 + p) * 9 + q) = WG p q) (kk : Φ (some (.int (cmd n TR WG a b))) s) : Yq sd 25 [.ref S, .int (Int32.ofNat d), .int (Int32.ofNat a), .int (Int32.ofNat b)] s Φ := by
  refine Yq.of rfl (Nat.le_of_ble_eq_true rfl) ?_
  rcases hS with rfl | rfl
  · refine yp_run 3 (pc' := 5) (lv' := [(0, .ref 30), (1, .int (Int32.ofNat d)), (2, .int (Int32.ofNat a)), (3, .int (Int32.ofNat b))]) (st' := [.int (Int32.ofNat a), .ref 48]) (s' := s) rfl ?_
    have ta : rget s 48 (Int32.ofNat a) = Int32.ofNat (TR a) := (rget_i (by show a < 8; omega)).trans (hTR a han)
    refine yp_vi rfl rfl rfl rfl (c_rgetv rfl ta ?_)
    refine yp_run 5 (pc' := 17) (lv' := [(0, .ref 30), (1, .int (Int32.ofNat d)), (2, .int (Int32.ofNat a)), (3, .int (Int32.ofNat b)), (4, .int (Int32.ofNat (TR a)))]) (st' := [.int (Int32.ofNat b), .ref 48, .int (Int32.ofNat (TR a))]) (s' := s) rfl ?_
    have tb : rget s 48 (Int32.ofNat b) = Int32.ofNat (TR b) := (rget_i (by show b < 8; omega)).trans (hTR b hbn)
    refine yp_vi rfl rfl rfl rfl (c_rgetv rfl tb ?_)
    refine yp_run 3 (pc' := 25) (lv' := [(0, .ref 30), (1, .int (Int32.ofNat d)), (2, .int (Int32.ofNat a)), (3, .int (Int32.ofNat b)), (4, .int (Int32.ofNat (TR a))), (5, .int ((Int32.ofNat (TR a)) - (Int32.ofNat (TR b))))]) (st' := [.int ((Int32.ofNat (TR a)) - (Int32.ofNat (TR b)))]) (s' := s) rfl ?_
    refine yp_if rfl rfl (fun h25 => ?_) (fun h25 => ?_)
    · refine yp_run 4 (pc' := 39) (lv' := [(0, .ref 30), (1, .int (Int32.ofNat d)), (2, .int (Int32.ofNat a)), (3, .int (Int32.ofNat b)), (4, .int (Int32.ofNat (TR a))), (5, .int ((Int32.ofNat (TR a)) - (Int32.ofNat (TR b))))]) (st' := [.int (Int32.ofNat a), .int (Int32.ofNat d), .ref 41]) (s' := s) rfl ?_
      refine yp_st rfl rfl (c_rowOf ?_)
      refine yp_run 2 (pc' := 44) (lv' := [(0, .ref 30), (1, .int (Int32.ofNat d)), (2, .int (Int32.ofNat a)), (3, .int (Int32.ofNat b)), (4, .int (Int32.ofNat (TR a))), (5, .int ((Int32.ofNat (TR a)) - (Int32.ofNat (TR b))))]) (st' := [.int (Int32.ofNat b), .int (Int32.ofNat d), .int ((Int32.ofNat d) * 8 + (Int32.ofNat a)), .ref 41]) (s' := s) rfl ?_
      refine yp_st rfl rfl (c_rowOf ?_)
      refine yp_run 1 (pc' := 49) (lv' := [(0, .ref 30), (1, .int (Int32.ofNat d)), (2, .int (Int32.ofNat a)), (3, .int (Int32.ofNat b)), (4, .int (Int32.ofNat (TR a))), (5, .int ((Int32.ofNat (TR a)) - (Int32.ofNat (TR b))))]) (st' := [.int (Int32.ofNat (TR a)), .int ((Int32.ofNat d) * 8 + (Int32.ofNat b)), .int ((Int32.ofNat d) * 8 + (Int32.ofNat a)), .ref 41]) (s' := s) rfl ?_
      rw [row_i, row_i]
      have q1 := hT1 a han
      refine yp_vi rfl rfl rfl rfl (c_comp (a := d * 8 + a) (b := d * 8 + b) (WA := WG a) (WB := WG b) (by decide) hn (by omega) (by omega) hw (fun q h1 h2 => hWG a q han h1 h2) (fun q h1 h2 => hWG b q hbn h1 h2) q1.1 q1.2 ?_)
      refine yp_ri rfl rfl ?_
      unfold cmd at kk
      rw [h25] at kk
      exact kk
    · refine yp_run 2 (pc' := 52) (lv' := [(0, .ref 30), (1, .int (Int32.ofNat d)), (2, .int (Int32.ofNat a)), (3, .int (Int32.ofNat b)), (4, .int (Int32.ofNat (TR a))), (5, .int ((Int32.ofNat (TR a)) - (Int32.ofNat (TR b))))]) (st' := [.int ((Int32.ofNat (TR a)) - (Int32.ofNat (TR b)))]) (s' := s) rfl ?_
      refine yp_ri rfl rfl ?_
      unfold cmd at kk
      rw [h25] at kk
      exact kk
  · refine yp_run 3 (pc' := 5) (lv' := [(0, .ref 52), (1, .int (Int32.ofNat d)), (2, .int (Int32.ofNat a)), (3, .int (Int32.ofNat b))]) (st' := [.int (Int32.ofNat a), .ref 70]) (s' := s) rfl ?_
    have ta : rget s 70 (Int32.ofNat a) = Int32.ofNat (TR a) := (rget_i (by show a < 8; omega)).trans (hTR a han)
    refine yp_vi rfl rfl rfl rfl (c_rgetv rfl ta ?_)
    refine yp_run 5 (pc' := 17) (lv' := [(0, .ref 52), (1, .int (Int32.ofNat d)), (2, .int (Int32.ofNat a)), (3, .int (Int32.ofNat b)), (4, .int (Int32.ofNat (TR a)))]) (st' := [.int (Int32.ofNat b), .ref 70, .int (Int32.ofNat (TR a))]) (s' := s) rfl ?_
    have tb : rget s 70 (Int32.ofNat b) = Int32.ofNat (TR b) := (rget_i (by show b < 8; omega)).trans (hTR b hbn)
    refine yp_vi rfl rfl rfl rfl (c_rgetv rfl tb ?_)
    refine yp_run 3 (pc' := 25) (lv' := [(0, .ref 52), (1, .int (Int32.ofNat d)), (2, .int (Int32.ofNat a)), (3, .int (Int32.ofNat b)), (4, .int (Int32.ofNat (TR a))), (5, .int ((Int32.ofNat (TR a)) - (Int32.ofNat (TR b))))]) (st' := [.int ((Int32.ofNat (TR a)) - (Int32.ofNat (TR b)))]) (s' := s) rfl ?_
    refine yp_if rfl rfl (fun h25 => ?_) (fun h25 => ?_)
    · refine yp_run 4 (pc' := 39) (lv' := [(0, .ref 52), (1, .int (Int32.ofNat d)), (2, .int (Int32.ofNat a)), (3, .int (Int32.ofNat b)), (4, .int (Int32.ofNat (TR a))), (5, .int ((Int32.ofNat (TR a)) - (Int32.ofNat (TR b))))]) (st' := [.int (Int32.ofNat a), .int (Int32.ofNat d), .ref 63]) (s' := s) rfl ?_
      refine yp_st rfl rfl (c_rowOf ?_)
      refine yp_run 2 (pc' := 44) (lv' := [(0, .ref 52), (1, .int (Int32.ofNat d)), (2, .int (Int32.ofNat a)), (3, .int (Int32.ofNat b)), (4, .int (Int32.ofNat (TR a))), (5, .int ((Int32.ofNat (TR a)) - (Int32.ofNat (TR b))))]) (st' := [.int (Int32.ofNat b), .int (Int32.ofNat d), .int ((Int32.ofNat d) * 8 + (Int32.ofNat a)), .ref 63]) (s' := s) rfl ?_
      refine yp_st rfl rfl (c_rowOf ?_)
      refine yp_run 1 (pc' := 49) (lv' := [(0, .ref 52), (1, .int (Int32.ofNat d)), (2, .int (Int32.ofNat a)), (3, .int (Int32.ofNat b)), (4, .int (Int32.ofNat (TR a))), (5, .int ((Int32.ofNat (TR a)) - (Int32.ofNat (TR b))))]) (st' := [.int (Int32.ofNat (TR a)), .int ((Int32.ofNat d) * 8 + (Int32.ofNat b)), .int ((Int32.ofNat d) * 8 + (Int32.ofNat a)), .ref 63]) (s' := s) rfl ?_
      rw [row_i, row_i]
      have q1 := hT1 a han
      refine yp_vi rfl rfl rfl rfl (c_comp (a := d * 8 + a) (b := d * 8 + b) (WA := WG a) (WB := WG b) (by decide) hn (by omega) (by omega) hw (fun q h1 h2 => hWG a q han h1 h2) (fun q h1 h2 => hWG b q hbn h1 h2) q1.1 q1.2 ?_)
      refine yp_ri rfl rfl ?_
      unfold cmd at kk
      rw [h25] at kk
      exact kk
    · refine yp_run 2 (pc' := 52) (lv' := [(0, .ref 52), (1, .int (Int32.ofNat d)), (2, .int (Int32.ofNat a)), (3, .int (Int32.ofNat b)), (4, .int (Int32.ofNat (TR a))), (5, .int ((Int32.ofNat (TR a)) - (Int32.ofNat (TR b))))]) (st' := [.int ((Int32.ofNat (TR a)) - (Int32.ofNat (TR b)))]) (s' := s) rfl ?_
      refine yp_ri rfl rfl ?_
      unfold cmd at kk
      rw [h25] at kk
      exact kk
end YQ2
end
