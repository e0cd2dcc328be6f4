/-! locals: their order, and what more there is; runs of some instructions -/
section YAV
def lvD : xL → Bool
  | [] => true
  | q :: r => r.all (fun z => !(Nat.beq z.1 q.1)) && lvD r
theorem lvD_lk {k : Nat} {v : Value} : ∀ {lv : xL}, lvD lv = true → (k, v) ∈ lv → xlk k lv = some v := by
  intro lv
  induction lv with
  | nil => intro _ hm; cases hm
  | cons q r ih =>
    intro hd hm
    obtain ⟨j, w⟩ := q
    replace hd : (r.all (fun z => !(Nat.beq z.1 j)) && lvD r) = true := hd
    rw [Bool.and_eq_true] at hd
    show (bif Nat.beq j k then some w else xlk k r) = some v
    rcases List.mem_cons.mp hm with e | e
    · cases e
      rw [show Nat.beq k k = true from Nat.beq_refl k]
      rfl
    · have h1 := List.all_eq_true.mp hd.1 _ e
      cases hj : Nat.beq j k with
      | true =>
        have e2 := Nat.eq_of_beq_eq_true hj
        subst e2
        rw [show Nat.beq j j = true from hj] at h1
        cases h1
      | false => exact ih hd.2 e
theorem lvD_filter (p : Nat × Value → Bool) : ∀ {lv : xL}, lvD lv = true → lvD (lv.filter p) = true := by
  intro lv
  induction lv with
  | nil => exact fun _ => rfl
  | cons q r ih =>
    intro hd
    replace hd : (r.all (fun z => !(Nat.beq z.1 q.1)) && lvD r) = true := hd
    rw [Bool.and_eq_true] at hd
    rw [List.filter_cons]
    split
    · show ((r.filter p).all (fun z => !(Nat.beq z.1 q.1)) && lvD (r.filter p)) = true
      rw [Bool.and_eq_true]
      refine ⟨List.all_eq_true.mpr (fun z hz => List.all_eq_true.mp hd.1 z (List.mem_filter.mp hz).1), ih hd.2⟩
    · exact ih hd.2
/-- the one list's locals stand in the other -/
def lvS (lv xlv : xL) : Prop := (∀ q ∈ lv, q ∈ xlv) ∧ lvD xlv = true
theorem lvS.lk {lv xlv : xL} (h : lvS lv xlv) {k : Nat} {v : Value} (e : xlk k lv = some v) : xlk k xlv = some v := lvD_lk h.2 (h.1 _ (xlk_mem e))
theorem lvS.fil {lv xlv : xL} (h : lvS lv xlv) (p : Nat × Value → Bool) : lvS (lv.filter p) (xlv.filter p) := ⟨fun q hq => List.mem_filter.mpr ⟨h.1 q (List.mem_filter.mp hq).1, (List.mem_filter.mp hq).2⟩, lvD_filter p h.2⟩
theorem lvS.cons {lv xlv : xL} (h : lvS lv xlv) (i : Nat) (v : Value) (hi : ∀ q ∈ xlv, Nat.beq q.1 i = false) : lvS ((i, v) :: lv) ((i, v) :: xlv) := by
  refine ⟨fun q hq => ?_, ?_⟩
  · rcases List.mem_cons.mp hq with e | e
    · rw [e]; exact List.mem_cons_self
    · exact List.mem_cons_of_mem _ (h.1 q e)
  · show (xlv.all (fun z => !(Nat.beq z.1 i)) && lvD xlv) = true
    rw [Bool.and_eq_true]
    exact ⟨List.all_eq_true.mpr (fun z hz => by rw [hi z hz]; rfl), h.2⟩
theorem beq_no {a b : Nat} (h : (!(a == b)) = true) : Nat.beq a b = false := by
  cases hb : Nat.beq a b with
  | false => rfl
  | true =>
    have e := Nat.eq_of_beq_eq_true hb
    subst e
    simp at h
theorem lvS.s1 {lv xlv : xL} (h : lvS lv xlv) (i : Nat) (v : Value) : lvS (xs1 i v lv) (xs1 i v xlv) := by
  unfold xs1
  refine (h.fil _).cons i v (fun q hq => ?_)
  have := (List.mem_filter.mp hq).2
  rw [Bool.and_eq_true] at this
  exact beq_no this.1
theorem lvS.s2 {lv xlv : xL} (h : lvS lv xlv) (i : Nat) (v : Value) : lvS (xs2 i v lv) (xs2 i v xlv) := by
  unfold xs2
  refine (h.fil _).cons i v (fun q hq => ?_)
  have := (List.mem_filter.mp hq).2
  rw [Bool.and_eq_true] at this
  exact beq_no this.1
theorem lvS.del {lv xlv : xL} (h : lvS lv xlv) (i : Nat) : lvS (xdel i lv) (xdel i xlv) := h.fil _
def xlf : Instr → Bool
  | .iload_n _ => false | .iload _ => false | .lload_n _ => false | .lload _ => false | .dload _ => false | .aload_n _ => false | .aload _ => false
  | .istore_n _ => false | .istore _ => false | .astore_n _ => false | .astore _ => false | .lstore_n _ => false | .lstore _ => false | .dstore _ => false | .iinc _ _ => false
  | _ => true
set_option maxHeartbeats 4000000 in
theorem xstep_fr {o nL : Nat} {ini : Bool} {sc : Option (List Int32)} {i : Instr} {pc : Nat} {lv xlv : xL} {st : List Value} {h : xH} {ks : Nat} {pc' : Nat} {lv' : xL} {st' : List Value} {h' : xH} {ks' : Nat} (hi : xlf i = true) (he : xstep o nL ini sc i pc lv st h ks = some (pc', lv', st', h', ks')) : lv' = lv ∧ xstep o nL ini sc i pc xlv st h ks = some (pc', xlv, st', h', ks') := by
  cases i <;> simp only [xlf, Bool.false_eq_true] at hi
  all_goals (simp only [xstep, Bool.cond_eq_ite] at he ⊢)
  all_goals (repeat' split at he)
  all_goals first
    | (cases he; done)
    | (cases he; simp only [*, reduceIte, and_self, true_or, or_true]; done)
    | (cases he; simp_all only [if_true, if_false, reduceIte, and_self, true_or, or_true]; done)
    | (cases he; simp_all; done)
set_option maxHeartbeats 4000000 in
theorem xstep_lv {o nL : Nat} {ini : Bool} {sc : Option (List Int32)} {i : Instr} {pc : Nat} {lv xlv : xL} {st : List Value} {h : xH} {ks : Nat} {pc' : Nat} {lv' : xL} {st' : List Value} {h' : xH} {ks' : Nat} (hs : lvS lv xlv) (he : xstep o nL ini sc i pc lv st h ks = some (pc', lv', st', h', ks')) : ∃ xlv', xstep o nL ini sc i pc xlv st h ks = some (pc', xlv', st', h', ks') ∧ lvS lv' xlv' := by
  cases hf : xlf i with
  | true =>
    obtain ⟨e1, e2⟩ := xstep_fr (xlv := xlv) hf he
    subst e1
    exact ⟨xlv, e2, hs⟩
  | false =>
    cases i <;> simp only [xlf, reduceCtorEq] at hf
    all_goals (simp only [xstep] at he ⊢)
    all_goals (repeat' split at he)
    all_goals first
      | (cases he; done)
      | (rename_i hk; cases he; exact ⟨xlv, by rw [hs.lk hk], hs⟩)
      | (rename_i hk; cases he; refine ⟨_, ?_, hs.s1 _ _⟩; rw [if_pos hk]; done)
      | (rename_i hk; cases he; refine ⟨_, ?_, hs.s2 _ _⟩; rw [if_pos hk]; done)
      | (rename_i hk hn; cases he; refine ⟨_, ?_, hs.s1 _ _⟩; rw [hs.lk hk]; dsimp only; rw [if_pos hn]; done)
set_option maxHeartbeats 4000000 in
theorem xloop_lv {call : Nat → List Value → xH → Nat → Option xO} {sc : Option (List Int32)} {μ o nL : Nat} {ini : Bool} {cod : List (Option Instr)} :
    ∀ (n pc : Nat) (lv xlv : xL) (st : List Value) (h : xH) (ks : Nat) (out : xO), lvS lv xlv → xloop call sc μ o nL ini cod n pc lv st h ks = some out → xloop call sc μ o nL ini cod n pc xlv st h ks = some out := by
  intro n
  induction n with
  | zero => intro pc lv xlv st h ks out hs he; cases he
  | succ n ih =>
    intro pc lv xlv st h ks out hs he
    have ih1 : ∀ (pc : Nat) (st : List Value) (h : xH) (ks : Nat), xloop call sc μ o nL ini cod n pc lv st h ks = some out → xloop call sc μ o nL ini cod n pc xlv st h ks = some out := fun pc st h ks => ih pc lv xlv st h ks out hs
    have ih2 : ∀ (pc j : Nat) (st : List Value) (h : xH) (ks : Nat), xloop call sc μ o nL ini cod n pc (xdel j lv) st h ks = some out → xloop call sc μ o nL ini cod n pc (xdel j xlv) st h ks = some out := fun pc j st h ks => ih pc (xdel j lv) (xdel j xlv) st h ks out (hs.del j)
    have ih3 : ∀ {i : Instr} {pc' : Nat} {lv' : xL} {st' : List Value} {h' : xH} {ks' : Nat}, xstep o nL ini sc i pc lv st h ks = some (pc', lv', st', h', ks') → xloop call sc μ o nL ini cod n pc' lv' st' h' ks' = some out → ∃ xlv', xstep o nL ini sc i pc xlv st h ks = some (pc', xlv', st', h', ks') ∧ xloop call sc μ o nL ini cod n pc' xlv' st' h' ks' = some out := fun e1 e2 => by
      obtain ⟨xlv', a, b⟩ := xstep_lv hs e1
      exact ⟨xlv', a, ih _ _ _ _ _ _ _ b e2⟩
    clear ih hs
    unfold xloop at he ⊢
    repeat' split at he
    all_goals first
      | (cases he; done)
      | (have ih9 := ih1 _ _ _ _ he; clear he ih1 ih2 ih3; simp only [*, ↓reduceIte, and_self, true_or, or_true]; done)
      | (have ih9 := ih2 _ _ _ _ _ he; clear he ih1 ih2 ih3; simp only [*, ↓reduceIte, and_self, true_or, or_true]; done)
      | (obtain ⟨xlv', e1, e2⟩ := ih3 (by assumption) he; clear he ih1 ih2 ih3; simp only [*, ↓reduceIte, and_self]; done)
      | (clear ih1 ih2 ih3; simp only [*, ↓reduceIte, and_self]; done)
      | (rename_i hk3 _ _ _ _ _; obtain ⟨hk3, hcd⟩ := hk3; subst hk3; have ih9 := ih1 _ _ _ _ he; clear he ih1 ih2 ih3; simp only [*, ↓reduceIte, and_self, Nat.reduceEqDiff]; done)
theorem ysel_in {ks9 : List Nat} {lv : xL} {q : Nat × Value} (h : q ∈ ysel ks9 lv) : q ∈ lv := by
  unfold ysel at h
  obtain ⟨k, -, hk⟩ := List.mem_filterMap.mp h
  split at hk
  · rename_i v hv
    cases hk
    exact xlk_mem hv
  · cases hk
variable {sd sc : Option (List Int32)} {μ pc : Nat} {lv : xL} {st : List Value} {h : xH} {ks : Nat} {Φ : xO → Prop}
theorem px_sel (ks9 : List Nat) (hd : lvD lv = true) (k : Px sd sc μ pc (ysel ks9 lv) st h ks Φ) : Px sd sc μ pc lv st h ks Φ := by
  obtain ⟨out, ⟨F, d, n, e⟩, hΦ⟩ := k
  exact ⟨out, ⟨F, d, n, xloop_lv n _ _ _ _ _ _ _ ⟨fun q hq => ysel_in hq, hd⟩ e⟩, hΦ⟩
/-- some instructions, one behind the other -/
def xrun (o nL : Nat) (ini : Bool) (sc : Option (List Int32)) (cod : List (Option Instr)) : Nat → Nat → xL → List Value → xH → Nat → Option xC
  | 0, pc, lv, st, h, ks => some (pc, lv, st, h, ks)
  | n + 1, pc, lv, st, h, ks => match cod[pc]? with
    | some (some i) => bif xpl i then (match xstep o nL ini sc i pc lv st h ks with
      | some (pc', lv', st', h', ks') => xrun o nL ini sc cod n pc' lv' st' h' ks'
      | none => none) else none
    | _ => none
theorem px_run (n : Nat) {pc' : Nat} {lv' : xL} {st' : List Value} {h' : xH} {ks' : Nat} (he : xrun (xmo μ) (xml μ) (xini μ) sc (xmc μ) n pc lv st h ks = some (pc', lv', st', h', ks')) (k : Px sd sc μ pc' lv' st' h' ks' Φ) : Px sd sc μ pc lv st h ks Φ := by
  induction n generalizing pc lv st h ks with
  | zero => cases he; exact k
  | succ n ih =>
    unfold xrun at he
    split at he
    · rename_i i hi
      cases hp : xpl i with
      | false => rw [hp] at he; cases he
      | true =>
        rw [hp] at he
        dsimp only [cond_true] at he
        split at he
        · rename_i hs
          exact px_step hi hp hs (ih he)
        · cases he
    · cases he
end YAV
