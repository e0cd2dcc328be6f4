section XI0
theorem xdef_map (ci : Nat) (ad : Nat → Nat) : (xdef ci).map (xv ad) = xdef ci := by
  unfold xdef
  split <;> rfl
theorem xati_ok {aty : ArrayType} {t : Nat} (h : xati aty = some t) : newarray.typeOf aty = xtT t := by
  cases aty <;> simp only [xati, reduceCtorEq, Option.some.injEq] at h <;> subst h <;> rfl
theorem xati_lt {aty : ArrayType} {t : Nat} (h : xati aty = some t) : t < 3 := by
  cases aty <;> simp only [xati, reduceCtorEq, Option.some.injEq] at h <;> omega
theorem xdv_ok {t : Nat} (h : t < 3) : defaultValue (xtT t) = xdv t := by
  match t, h with
  | 0, _ => rfl
  | 1, _ => rfl
  | 2, _ => rfl
theorem xdv_map (ad : Nat → Nat) (t : Nat) : xv ad (xdv t) = xdv t := by
  unfold xdv
  split <;> rfl
theorem xget_ge {h : xH} {a : Nat} {e : xE} {old : Nat → Nat} {n0 : Nat} (hg : xget h a = some e) : n0 ≤ xad old n0 a := by
  obtain ⟨k9, e9, -⟩ := xget_ok hg
  rw [e9, xad_new]
  exact Nat.le_add_right _ _
theorem xtoI (n : Nat) : n.toInt32 = Int32.ofNat n := rfl
theorem xtT_ref {t : Nat} (h : 103 ≤ t ∧ t < 106) : (xtT (t - 100)).isReference = true := by
  obtain ⟨h1, h2⟩ := h
  rcases (show t = 103 ∨ t = 104 ∨ t = 105 by omega) with rfl | rfl | rfl <;> rfl
theorem xvI (ad : Nat → Nat) (x : Int32) : xv ad (.int x) = .int x := rfl
theorem xvL (ad : Nat → Nat) (x : Int64) : xv ad (.long x) = .long x := rfl
theorem xvR (ad : Nat → Nat) (x : Nat) : xv ad (.ref x) = .ref (ad x) := rfl
theorem xnarB (ad : Nat → Nat) (x : Int32) : xv ad (narrow .boolean (.int x)) = narrow .boolean (.int x) := rfl
theorem xcomp_ok {t t2 : Nat} (h : (t = 103 ∧ t2 = 100) ∨ (t = 104 ∧ t2 = 103) ∨ (t = 105 ∧ t2 = 102)) : t2 - 100 = xcomp (t - 100) := by
  rcases h with ⟨rfl, rfl⟩ | ⟨rfl, rfl⟩ | ⟨rfl, rfl⟩ <;> rfl
end XI0
/-! one instruction of the machine, out of one on lists -/
section XI
variable {p : Program} {l : Launch} {e : Env} {R : Room} {s : State} {m : MethodId} {args : Array Value} {below : List Frame} {meth : Method} {c : Code} {Q : State → Prop}
set_option maxHeartbeats 4000000 in
set_option maxRecDepth 100000 in
theorem x_step {cc : ByteArray} {D : va_G} {tA : Nat → ClassId} {old : Nat → Nat} {n0 hb kb nL o : Nat} {ini : Bool} {sc : Option (List Int32)} {i : Instr} {pc : Nat} {lv : xL} {st : List Value} {h : xH} {ks : Nat} {pc' : Nat} {lv' : xL} {st' : List Value} {h' : xH} {ks' : Nat}
    (hx : p.tables.exec = Jvm.exec) (hb9 : c.code = cc) (hown : s.vm.findClass (xown o) = some m.cls) (hts : ∀ w ∈ xgw, w.before args s = true) (hnw : ∀ w ∈ xnw, w.before args s = true) (hK : xK D tA s) (hX : xX sc old n0 s)
    (hini : ini = true → meth.name = "<init>") (hac : ∀ t, t < 3 → (Jvm.Cond.arrayClass (xtT t)).before args s = true) (hlb : hb ≤ h.length) (hkb : kb ≤ ks) (hn0 : n0 ≤ s.heap.size)
    (hd : ∃ len, decode cc pc = .ok (i, len) ∧ (xlen i = 0 ∨ len = xlen i))
    (he : xstep o nL ini sc i pc lv st h ks = some (pc', lv', st', h', ks'))
    (hRc : h'.length - hb ≤ R.cells) (hRs : ks' - kb ≤ R.slots)
    (kk : xG p l e R s m args below meth c Q D tA old n0 hb kb nL pc' lv' st' h' ks') : xG p l e R s m args below meth c Q D tA old n0 hb kb nL pc lv st h ks := by
  intro H locs ls hz hP hS hl
  cases i
  case iconst n =>
    have hd1 := xdl hd rfl
    simp only [xstep] at he
    cases he
    exact lv_iconst hx hb9 hd1 rfl (kk H locs ls hz hP hS hl)
  case bipush n =>
    have hd1 := xdl hd rfl
    simp only [xstep] at he
    cases he
    exact lv_bipush hx hb9 hd1 rfl (kk H locs ls hz hP hS hl)
  case sipush n =>
    have hd1 := xdl hd rfl
    simp only [xstep] at he
    cases he
    exact lv_sipush hx hb9 hd1 rfl (kk H locs ls hz hP hS hl)
  case lconst n =>
    have hd1 := xdl hd rfl
    simp only [xstep] at he
    cases he
    exact lv_lconst hx hb9 hd1 rfl (kk H locs ls hz hP hS hl)
  case aconst_null =>
    have hd1 := xdl hd rfl
    simp only [xstep] at he
    cases he
    exact lv_null hx hb9 hd1 (kk H locs ls hz hP hS hl)
  case dconst n =>
    have hd1 := xdl hd rfl
    simp only [xstep] at he
    cases he
    by_cases hn : n = 0
    · subst hn
      exact lv_dconst0 hx hb9 hd1 (kk H locs ls hz hP hS hl)
    · have : n = 1 := by omega
      subst this
      exact lv_dconst1 hx hb9 hd1 (kk H locs ls hz hP hS hl)
  case ldc x =>
    have hd1 := xdl hd rfl
    simp only [xstep] at he
    split at he
    · rename_i hf
      cases he
      exact lv_ldc hx hb9 hown (hts _ (xcon_ok hf)) hd1 (kk H locs ls hz hP hS hl)
    · cases he
  case ldc_w x =>
    have hd1 := xdl hd rfl
    simp only [xstep] at he
    split at he
    · rename_i hf
      cases he
      exact lv_ldcw hx hb9 hown (hts _ (xcon_ok hf)) hd1 (kk H locs ls hz hP hS hl)
    · cases he
  case ldc2_w x =>
    have hd1 := xdl hd rfl
    simp only [xstep] at he
    split at he
    · rename_i hf
      cases he
      exact lv_ldc2 hx hb9 hown (hts _ (xcol_ok hf)) hd1 (kk H locs ls hz hP hS hl)
    · cases he
  case iload_n k =>
    have hd1 := xdl hd rfl
    simp only [xstep] at he
    split at he
    · rename_i hf
      cases he
      exact lv_iload_n hx hb9 hd1 rfl (xlk_has hf hl) (kk H locs ls hz hP hS hl)
    · cases he
  case iload k =>
    have hd1 := xdl hd rfl
    simp only [xstep] at he
    split at he
    · rename_i hf
      cases he
      exact lv_iload hx hb9 hd1 (xlk_has hf hl) (kk H locs ls hz hP hS hl)
    · cases he
  case lload_n k =>
    have hd1 := xdl hd rfl
    simp only [xstep] at he
    split at he
    · rename_i hf
      cases he
      exact lv_lload_n hx hb9 hd1 rfl (xlk_has hf hl) (kk H locs ls hz hP hS hl)
    · cases he
  case lload k =>
    have hd1 := xdl hd rfl
    simp only [xstep] at he
    split at he
    · rename_i hf
      cases he
      exact lv_lload hx hb9 hd1 (xlk_has hf hl) (kk H locs ls hz hP hS hl)
    · cases he
  case dload k =>
    have hd1 := xdl hd rfl
    simp only [xstep] at he
    split at he
    · rename_i hf
      cases he
      exact lv_dload hx hb9 hd1 (xlk_has hf hl) (kk H locs ls hz hP hS hl)
    · cases he
  case aload_n k =>
    have hd1 := xdl hd rfl
    simp only [xstep] at he
    split at he
    · rename_i hf
      cases he
      exact lv_aload_n hx hb9 hd1 rfl (xlk_has hf hl) (kk H locs ls hz hP hS hl)
    · cases he
  case aload k =>
    have hd1 := xdl hd rfl
    simp only [xstep] at he
    split at he
    · rename_i hf
      cases he
      exact lv_aload hx hb9 hd1 (xlk_has hf hl) (kk H locs ls hz hP hS hl)
    · cases he
  case istore_n k =>
    have hd1 := xdl hd rfl
    simp only [xstep] at he
    split at he
    · split at he
      · rename_i hk
        cases he
        exact lv_istore_n hx hb9 hd1 rfl hl hk (xs1_m _ (.int _) lv (xad old n0)) (fun ls' hl' => kk H locs ls' hz hP hS hl')
      · cases he
    · cases he
  case istore k =>
    have hd1 := xdl hd rfl
    simp only [xstep] at he
    split at he
    · split at he
      · rename_i hk
        cases he
        exact lv_istore hx hb9 hd1 hl hk (xs1_m _ (.int _) lv (xad old n0)) (fun ls' hl' => kk H locs ls' hz hP hS hl')
      · cases he
    · cases he
  case astore_n k =>
    have hd1 := xdl hd rfl
    simp only [xstep] at he
    split at he
    · split at he
      · rename_i hk
        cases he
        exact lv_astore_n hx hb9 hd1 rfl hl hk (xs1_m _ (.ref _) lv (xad old n0)) (fun ls' hl' => kk H locs ls' hz hP hS hl')
      · cases he
    · cases he
  case astore k =>
    have hd1 := xdl hd rfl
    simp only [xstep] at he
    split at he
    · split at he
      · rename_i hk
        cases he
        exact lv_astore hx hb9 hd1 hl hk (xs1_m _ (.ref _) lv (xad old n0)) (fun ls' hl' => kk H locs ls' hz hP hS hl')
      · cases he
    · cases he
  case lstore_n k =>
    have hd1 := xdl hd rfl
    simp only [xstep] at he
    split at he
    · split at he
      · rename_i hk
        cases he
        exact lv_lstore_n hx hb9 hd1 rfl hl hk (xs2_m _ (.long _) lv (xad old n0)) (fun ls' hl' => kk H locs ls' hz hP hS hl')
      · cases he
    · cases he
  case lstore k =>
    have hd1 := xdl hd rfl
    simp only [xstep] at he
    split at he
    · split at he
      · rename_i hk
        cases he
        exact lv_lstore hx hb9 hd1 hl hk (xs2_m _ (.long _) lv (xad old n0)) (fun ls' hl' => kk H locs ls' hz hP hS hl')
      · cases he
    · cases he
  case dstore k =>
    have hd1 := xdl hd rfl
    simp only [xstep] at he
    split at he
    · split at he
      · rename_i hk
        cases he
        exact lv_dstore hx hb9 hd1 hl hk (xs2_m _ (.double _) lv (xad old n0)) (fun ls' hl' => kk H locs ls' hz hP hS hl')
      · cases he
    · cases he
  case iinc k n =>
    have hd1 := xdl hd rfl
    simp only [xstep] at he
    split at he
    · rename_i hf
      split at he
      · rename_i hk
        cases he
        obtain ⟨j, hj⟩ := xlk_at (ad := xad old n0) hf
        exact lv_iinc hx hb9 hd1 hl hj rfl hk (xs1_m _ (.int _) lv (xad old n0)) (fun ls' hl' => kk H locs ls' hz hP hS hl')
      · cases he
    · cases he
  case iadd =>
    have hd1 := xdl hd rfl
    simp only [xstep] at he
    split at he
    · cases he
      exact lv_iadd hx hb9 hd1 (kk H locs ls hz hP hS hl)
    · cases he
  case isub =>
    have hd1 := xdl hd rfl
    simp only [xstep] at he
    split at he
    · cases he
      exact lv_isub hx hb9 hd1 (kk H locs ls hz hP hS hl)
    · cases he
  case imul =>
    have hd1 := xdl hd rfl
    simp only [xstep] at he
    split at he
    · cases he
      exact lv_imul hx hb9 hd1 (kk H locs ls hz hP hS hl)
    · cases he
  case ineg =>
    have hd1 := xdl hd rfl
    simp only [xstep] at he
    split at he
    · cases he
      exact lv_ineg hx hb9 hd1 (kk H locs ls hz hP hS hl)
    · cases he
  case iand =>
    have hd1 := xdl hd rfl
    simp only [xstep] at he
    split at he
    · cases he
      exact lv_iand hx hb9 hd1 (kk H locs ls hz hP hS hl)
    · cases he
  case ior =>
    have hd1 := xdl hd rfl
    simp only [xstep] at he
    split at he
    · cases he
      exact lv_ior hx hb9 hd1 (kk H locs ls hz hP hS hl)
    · cases he
  case ixor =>
    have hd1 := xdl hd rfl
    simp only [xstep] at he
    split at he
    · cases he
      exact lv_ixor hx hb9 hd1 (kk H locs ls hz hP hS hl)
    · cases he
  case ishl =>
    have hd1 := xdl hd rfl
    simp only [xstep] at he
    split at he
    · cases he
      exact lv_ishl hx hb9 hd1 (kk H locs ls hz hP hS hl)
    · cases he
  case ishr =>
    have hd1 := xdl hd rfl
    simp only [xstep] at he
    split at he
    · cases he
      exact lv_ishr hx hb9 hd1 (kk H locs ls hz hP hS hl)
    · cases he
  case ladd =>
    have hd1 := xdl hd rfl
    simp only [xstep] at he
    split at he
    · cases he
      exact lv_ladd hx hb9 hd1 (kk H locs ls hz hP hS hl)
    · cases he
  case lmul =>
    have hd1 := xdl hd rfl
    simp only [xstep] at he
    split at he
    · cases he
      exact lv_lmul hx hb9 hd1 (kk H locs ls hz hP hS hl)
    · cases he
  case idiv =>
    have hd1 := xdl hd rfl
    simp only [xstep] at he
    split at he
    · split at he
      · cases he
      · rename_i hne
        cases he
        exact lv_idiv hx hb9 hd1 hne (kk H locs ls hz hP hS hl)
    · cases he
  case irem =>
    have hd1 := xdl hd rfl
    simp only [xstep] at he
    split at he
    · split at he
      · cases he
      · rename_i hne
        cases he
        exact lv_irem hx hb9 hd1 hne (kk H locs ls hz hP hS hl)
    · cases he
  case iushr =>
    have hd1 := xdl hd rfl
    simp only [xstep] at he
    split at he
    · cases he
      exact lv_iushr hx hb9 hd1 rfl (kk H locs ls hz hP hS hl)
    · cases he
  case i2l =>
    have hd1 := xdl hd rfl
    simp only [xstep] at he
    split at he
    · cases he
      exact lv_i2l hx hb9 hd1 rfl (kk H locs ls hz hP hS hl)
    · cases he
  case lcmp =>
    have hd1 := xdl hd rfl
    simp only [xstep] at he
    split at he
    · cases he
      exact W.lcmp hx hb9 hd1 (kk H locs ls hz hP hS hl)
    · cases he
  case dcmp op =>
    have hd1 := xdl hd rfl
    simp only [xstep] at he
    split at he
    · cases he
      exact lv_dcmp hx hb9 hd1 (kk H locs ls hz hP hS hl)
    · cases he
  case dup =>
    have hd1 := xdl hd rfl
    simp only [xstep] at he
    split at he
    · split at he
      · rename_i hc
        cases he
        exact lv_dup hx hb9 hd1 (by rw [xv_cat]; exact hc) (kk H locs ls hz hP hS hl)
      · cases he
    · cases he
  case pop =>
    have hd1 := xdl hd rfl
    simp only [xstep] at he
    split at he
    · split at he
      · rename_i hc
        cases he
        exact lv_pop hx hb9 hd1 (by rw [xv_cat]; exact hc) (kk H locs ls hz hP hS hl)
      · cases he
    · cases he
  case dup_x1 =>
    have hd1 := xdl hd rfl
    simp only [xstep] at he
    split at he
    · split at he
      · rename_i hc
        split at he
        · rename_i hc2
          cases he
          exact lv_dup_x1 hx hb9 hd1 (by rw [xv_cat]; exact hc) (by rw [xv_cat]; exact hc2) (kk H locs ls hz hP hS hl)
        · cases he
      · cases he
    · cases he
  case dup2 =>
    have hd1 := xdl hd rfl
    simp only [xstep] at he
    split at he
    · split at he
      · rename_i hc
        split at he
        · rename_i hc2
          cases he
          exact lv_dup2_11 hx hb9 hd1 (by rw [xv_cat]; exact hc) (by rw [xv_cat]; exact hc2) (kk H locs ls hz hP hS hl)
        · cases he
      · cases he
    · cases he
  case if_icmp cd off =>
    have hd1 := xdl hd rfl
    simp only [xstep] at he
    split at he
    · split at he
      · rename_i ht
        cases cd
        case eq =>
          refine lv_icmp_eq hx hb9 hd1 (xj_eq ht) (fun hc => ?_) (fun hc => ?_)
          · simp only [xcmp, hc, decide_true, decide_false, Bool.not_false, Bool.not_true, not_false_eq_true, cond_true, cond_false] at he
            cases he
            exact kk H locs ls hz hP hS hl
          · simp only [xcmp, hc, decide_true, decide_false, Bool.not_false, Bool.not_true, not_false_eq_true, cond_true, cond_false] at he
            cases he
            exact kk H locs ls hz hP hS hl
        case ne =>
          refine lv_icmp_ne hx hb9 hd1 (xj_eq ht) (fun hc => ?_) (fun hc => ?_)
          · simp only [xcmp, hc, decide_true, decide_false, Bool.not_false, Bool.not_true, not_false_eq_true, cond_true, cond_false] at he
            cases he
            exact kk H locs ls hz hP hS hl
          · simp only [xcmp, hc, decide_true, decide_false, Bool.not_false, Bool.not_true, not_false_eq_true, cond_true, cond_false] at he
            cases he
            exact kk H locs ls hz hP hS hl
        case lt =>
          refine lv_icmp_lt hx hb9 hd1 (xj_eq ht) (fun hc => ?_) (fun hc => ?_)
          · simp only [xcmp, hc, decide_true, decide_false, Bool.not_false, Bool.not_true, not_false_eq_true, cond_true, cond_false] at he
            cases he
            exact kk H locs ls hz hP hS hl
          · simp only [xcmp, hc, decide_true, decide_false, Bool.not_false, Bool.not_true, not_false_eq_true, cond_true, cond_false] at he
            cases he
            exact kk H locs ls hz hP hS hl
        case ge =>
          refine lv_icmp_ge hx hb9 hd1 (xj_eq ht) (fun hc => ?_) (fun hc => ?_)
          · simp only [xcmp, hc, decide_true, decide_false, Bool.not_false, Bool.not_true, not_false_eq_true, cond_true, cond_false] at he
            cases he
            exact kk H locs ls hz hP hS hl
          · simp only [xcmp, hc, decide_true, decide_false, Bool.not_false, Bool.not_true, not_false_eq_true, cond_true, cond_false] at he
            cases he
            exact kk H locs ls hz hP hS hl
        case gt =>
          refine lv_icmp_gt hx hb9 hd1 (xj_eq ht) (fun hc => ?_) (fun hc => ?_)
          · simp only [xcmp, hc, decide_true, decide_false, Bool.not_false, Bool.not_true, not_false_eq_true, cond_true, cond_false] at he
            cases he
            exact kk H locs ls hz hP hS hl
          · simp only [xcmp, hc, decide_true, decide_false, Bool.not_false, Bool.not_true, not_false_eq_true, cond_true, cond_false] at he
            cases he
            exact kk H locs ls hz hP hS hl
        case le =>
          refine lv_icmp_le hx hb9 hd1 (xj_eq ht) (fun hc => ?_) (fun hc => ?_)
          · simp only [xcmp, hc, decide_true, decide_false, Bool.not_false, Bool.not_true, not_false_eq_true, cond_true, cond_false] at he
            cases he
            exact kk H locs ls hz hP hS hl
          · simp only [xcmp, hc, decide_true, decide_false, Bool.not_false, Bool.not_true, not_false_eq_true, cond_true, cond_false] at he
            cases he
            exact kk H locs ls hz hP hS hl
      · cases he
    · cases he
  case ifCond cd off =>
    have hd1 := xdl hd rfl
    simp only [xstep] at he
    split at he
    · split at he
      · rename_i ht
        cases cd
        case eq =>
          refine lv_if_eq hx hb9 hd1 (xj_eq ht) (fun hc => ?_) (fun hc => ?_)
          · simp only [xcmp, hc, decide_true, decide_false, Bool.not_false, Bool.not_true, not_false_eq_true, cond_true, cond_false] at he
            cases he
            exact kk H locs ls hz hP hS hl
          · simp only [xcmp, hc, decide_true, decide_false, Bool.not_false, Bool.not_true, not_false_eq_true, cond_true, cond_false] at he
            cases he
            exact kk H locs ls hz hP hS hl
        case ne =>
          refine lv_if_ne hx hb9 hd1 (xj_eq ht) (fun hc => ?_) (fun hc => ?_)
          · simp only [xcmp, hc, decide_true, decide_false, Bool.not_false, Bool.not_true, not_false_eq_true, cond_true, cond_false] at he
            cases he
            exact kk H locs ls hz hP hS hl
          · simp only [xcmp, hc, decide_true, decide_false, Bool.not_false, Bool.not_true, not_false_eq_true, cond_true, cond_false] at he
            cases he
            exact kk H locs ls hz hP hS hl
        case lt =>
          refine lv_if_lt hx hb9 hd1 (xj_eq ht) (fun hc => ?_) (fun hc => ?_)
          · simp only [xcmp, hc, decide_true, decide_false, Bool.not_false, Bool.not_true, not_false_eq_true, cond_true, cond_false] at he
            cases he
            exact kk H locs ls hz hP hS hl
          · simp only [xcmp, hc, decide_true, decide_false, Bool.not_false, Bool.not_true, not_false_eq_true, cond_true, cond_false] at he
            cases he
            exact kk H locs ls hz hP hS hl
        case ge =>
          refine lv_if_ge hx hb9 hd1 (xj_eq ht) (fun hc => ?_) (fun hc => ?_)
          · simp only [xcmp, hc, decide_true, decide_false, Bool.not_false, Bool.not_true, not_false_eq_true, cond_true, cond_false] at he
            cases he
            exact kk H locs ls hz hP hS hl
          · simp only [xcmp, hc, decide_true, decide_false, Bool.not_false, Bool.not_true, not_false_eq_true, cond_true, cond_false] at he
            cases he
            exact kk H locs ls hz hP hS hl
        case gt =>
          refine lv_if_gt hx hb9 hd1 (xj_eq ht) (fun hc => ?_) (fun hc => ?_)
          · simp only [xcmp, hc, decide_true, decide_false, Bool.not_false, Bool.not_true, not_false_eq_true, cond_true, cond_false] at he
            cases he
            exact kk H locs ls hz hP hS hl
          · simp only [xcmp, hc, decide_true, decide_false, Bool.not_false, Bool.not_true, not_false_eq_true, cond_true, cond_false] at he
            cases he
            exact kk H locs ls hz hP hS hl
        case le =>
          refine lv_if_le hx hb9 hd1 (xj_eq ht) (fun hc => ?_) (fun hc => ?_)
          · simp only [xcmp, hc, decide_true, decide_false, Bool.not_false, Bool.not_true, not_false_eq_true, cond_true, cond_false] at he
            cases he
            exact kk H locs ls hz hP hS hl
          · simp only [xcmp, hc, decide_true, decide_false, Bool.not_false, Bool.not_true, not_false_eq_true, cond_true, cond_false] at he
            cases he
            exact kk H locs ls hz hP hS hl
      · cases he
    · cases he
  case goto off =>
    have hd1 := xdl hd rfl
    simp only [xstep] at he
    split at he
    · rename_i ht
      cases he
      exact lv_goto hx hb9 hd1 (xj_eq ht) (kk H locs ls hz hP hS hl)
    · cases he
  case tableswitch d lo hi offs =>
    obtain ⟨len, hd1, -⟩ := hd
    simp only [xstep] at he
    split at he
    · split at he
      · rename_i hlo
        split at he
        · rename_i ht
          cases he
          exact lv_tableOut hx hb9 hd1 (Or.inl hlo) (xj_eq ht) (kk H locs ls hz hP hS hl)
        · cases he
      · rename_i hlo
        split at he
        · rename_i hhi
          split at he
          · rename_i ht
            cases he
            exact lv_tableOut hx hb9 hd1 (Or.inr hhi) (xj_eq ht) (kk H locs ls hz hP hS hl)
          · cases he
        · rename_i hhi
          split at he
          · rename_i ho
            split at he
            · rename_i ht
              cases he
              exact lv_tableIn hx hb9 hd1 hlo hhi ho (xj_eq ht) (kk H locs ls hz hP hS hl)
            · cases he
          · cases he
    · cases he
  case lookupswitch d ps =>
    obtain ⟨len, hd1, -⟩ := hd
    simp only [xstep] at he
    split at he
    · cases hq : (ps.toList.zip (ps.toList.drop 1)).all (fun (a, next) => a.1 < next.1) with
      | false => rw [hq] at he; cases he
      | true =>
        rw [hq] at he
        simp only [cond_true] at he
        split at he
        · rename_i ht
          cases he
          exact lv_lookup hx hb9 hd1 hq rfl (xj_eq ht) (kk H locs ls hz hP hS hl)
        · cases he
    · cases he
  case getfield x =>
    have hd1 := xdl hd rfl
    simp only [xstep] at he
    split at he
    · split at he
      · rename_i hf
        split at he
        · rename_i hg
          split at he
          · rename_i hci
            split at he
            · rename_i hv
              cases he
              subst hci
              obtain ⟨C, T, N, hc, -, -⟩ := xfld_ok hf
              have hlt : _ < 100 := Nat.lt_of_lt_of_le (List.getElem?_eq_some_iff.mp hc).1 (by decide)
              exact x_gf hx hb9 hown hts hnw hK hf (xP_obj hP hg hlt) (by rw [List.getElem?_map, hv]; rfl) hd1 (kk H locs ls hz hP hS hl)
            · cases he
          · cases he
        · cases he
      · cases he
    · cases he
  case putfield x =>
    have hd1 := xdl hd rfl
    simp only [xstep] at he
    split at he
    · split at he
      · rename_i hf
        split at he
        · rename_i hg
          split at he
          · rename_i hc
            split at he
            · rename_i hcnd
              obtain ⟨hci, hkl, hn, hfit, hfin⟩ := hcnd
              cases he
              subst hci
              have hlt : _ < 100 := Nat.lt_of_lt_of_le (List.getElem?_eq_some_iff.mp hc).1 (by decide)
              refine x_put hx hb9 hown hts hnw hK hc hf (xP_obj hP hg hlt) (by rw [List.length_map]; exact hkl) (xnar hn) (by rw [xfit]; exact hfit) (hfin.imp id (fun q => ⟨hini q.1, q.2⟩)) hd1 (fun H1 i9 h1 h2 h3 => ?_)
              have hge := xget_ge (old := old) (n0 := n0) hg
              have hk := kk H1 (locs ++ [⟨_, i9⟩]) ls (by rw [h2, hz]; unfold xset; rw [List.length_set]) (xP_set hP hg (by unfold xcell; rw [if_pos hlt]; rw [← List.map_set] at h1; exact h1) h3) (hS.put h2 h3 hge) hl
              unfold xset at hk
              rw [List.length_set] at hk
              exact hk
            · cases he
          · cases he
        · cases he
      · cases he
    · cases he
  case new x =>
    have hd1 := xdl hd rfl
    simp only [xstep] at he
    split at he
    · rename_i ci r hf
      split at he
      · rename_i C T N hc
        split at he
        · rename_i hN
          cases he
          obtain ⟨w1, w2, w3⟩ := xnew_ok hf hc hN
          obtain ⟨hin, hty, -, hdf, hdl⟩ := xcls_ok hc
          have hKn := hK.1.1 _ _ hc
          have hlt : _ < 100 := Nat.lt_of_lt_of_le (List.getElem?_eq_some_iff.mp hc).1 (by decide)
          rw [List.length_append, List.length_singleton] at hRc
          refine W.newcK hx hb9 hown (hts _ w1) (hts _ w2) (hts _ w3) rfl hd1 (by omega) (by omega) hKn.2.1 rfl fun H1 kC hkC e1 z1 o1 => ?_
          have hk := kk H1 locs ls (by rw [z1, hz, List.length_append, List.length_singleton]; omega) (xP_push hP hz (by
              unfold xcell
              rw [if_pos hlt]
              show va_at D xcl (H.size, .inr (ci, (xdef ci).map (xv (xad old n0)))) H1
              rw [xdef_map]
              exact ⟨_, hc, (u_born _ hts hin hKn hkC e1 hty).to hdf⟩) o1) ⟨Nat.le_trans hS.1 (by omega), fun q h1 h2 => (o1 q (Nat.lt_of_lt_of_le h1 hS.1)).trans (hS.2.1 q h1 h2), hS.2.2⟩ hl
          rw [List.length_append, List.length_singleton, show h.length + 1 - hb = h.length - hb + 1 by omega, show ks + N - kb = ks - kb + N by omega] at hk
          simp only [List.map_cons, xv] at hk
          rw [xad_new, ← hz] at hk
          exact hk
        · cases he
      · cases he
    · cases he
  case newarray aty =>
    have hd1 := xdl hd rfl
    simp only [xstep] at he
    split at he
    · rename_i n st1
      split at he
      · rename_i t hf
        split at he
        · cases he
        · rename_i hn
          split at he
          · rename_i hby
            cases he
            rw [List.length_append, List.length_singleton] at hRc
            have hty := xati_ok hf
            have ht3 := xati_lt hf
            refine W.newa hx hb9 (by rw [hty]; exact hac _ ht3) rfl hd1 rfl hn (by rw [hty]; exact hby) (by omega) (by omega) fun cA kA comp f1 f2 f3 => ?_
            have ecA : cA = tA t := by
              have := (hK.2 t (by omega)).1
              rw [hty] at f1
              exact Option.some.inj (f1.symm.trans this)
            have hk := kk (H.push { cls := cA, slots := Array.replicate n.toNatClampNeg (defaultValue (newarray.typeOf aty)), vm := .none }) locs ls (by rw [Array.size_push, hz, List.length_append, List.length_singleton]; omega) (xP_push hP hz (by
                unfold xcell
                rw [if_neg (by omega), Nat.add_sub_cancel_left, ← ecA, hty, xdv_ok ht3, List.map_replicate, xdv_map, List.toArray_replicate]
                simp) (fun q hq => by rw [Array.getElem?_push, if_neg (Nat.ne_of_lt hq)])) ⟨Nat.le_trans hS.1 (by rw [Array.size_push]; omega), fun q h1 h2 => by rw [Array.getElem?_push, if_neg (by have := hS.1; omega)]; exact hS.2.1 q h1 h2, hS.2.2⟩ hl
            rw [List.length_append, List.length_singleton, show h.length + 1 - hb = h.length - hb + 1 by omega, show ks + n.toNatClampNeg - kb = ks - kb + n.toNatClampNeg by omega] at hk
            simp only [List.map_cons, xv] at hk
            rw [xad_new, ← hz] at hk
            exact hk
          · cases he
      · cases he
    · cases he
  case arraylength =>
    have hd1 := xdl hd rfl
    simp only [xstep] at he
    split at he
    · split at he
      · rename_i hg
        split at he
        · rename_i ht
          cases he
          exact W.alen hx hb9 (xP_arr hP hg ht.1) (xIsA hK (by omega)) (by simp [xtoI]) rfl rfl hd1 (kk H locs ls hz hP hS hl)
        · cases he
      · split at he
        · rename_i hg
          split at he
          · rename_i ha
            cases he
            subst ha
            exact va_slen hx hb9 hX.1 (Nat.lt_of_lt_of_le hX.2 hn0) (Nat.not_le.mpr hX.2) hS hd1 (kk H locs ls hz hP hS hl)
          · cases he
        · cases he
    · cases he
  case iaload =>
    have hd1 := xdl hd rfl
    simp only [xstep] at he
    split at he
    · split at he
      · rename_i hg
        split at he
        · rename_i ht
          subst ht
          split at he
          · rename_i hi
            split at he
            · rename_i hv
              cases he
              obtain ⟨hin, hik⟩ := xix_in hi
              exact W.iald hx hb9 (xP_arr hP hg (by omega)) (xIsA (t := 0) hK (by omega)) (by intro q; cases q) (by simpa using hin) (by simp [hik, hv]) rfl rfl hd1 (kk H locs ls hz hP hS hl)
            · cases he
          · cases he
        · cases he
      · split at he
        · split at he
          · rename_i ha
            split at he
            · rename_i hi
              cases he
              subst ha
              obtain ⟨hin, hik⟩ := xix_in hi
              subst hik
              exact va_sld hx hb9 hX.1 (Nat.lt_of_lt_of_le hX.2 hn0) (Nat.not_le.mpr hX.2) hS hin hd1 (kk H locs ls hz hP hS hl)
            · cases he
          · cases he
        · cases he
    · cases he
  case baload =>
    have hd1 := xdl hd rfl
    simp only [xstep] at he
    split at he
    · split at he
      · rename_i hg
        split at he
        · rename_i ht
          subst ht
          split at he
          · rename_i hi
            split at he
            · rename_i hv
              cases he
              obtain ⟨hin, hik⟩ := xix_in hi
              exact W.zald hx hb9 (xP_arr hP hg (by omega)) (xIsA (t := 2) hK (by omega)) (by intro q; cases q) (by simpa using hin) (by simp [hik, hv]) rfl rfl hd1 (kk H locs ls hz hP hS hl)
            · cases he
          · cases he
        · cases he
      · cases he
    · cases he
  case aaload =>
    have hd1 := xdl hd rfl
    simp only [xstep] at he
    split at he
    · split at he
      · rename_i hg
        split at he
        · rename_i ht
          split at he
          · rename_i hi
            split at he
            · rename_i hv
              cases he
              obtain ⟨hin, hik⟩ := xix_in hi
              exact W.aald hx hb9 (xP_arr hP hg (by omega)) (xIsA hK (by omega)) (xtT_ref ht) (by intro q; cases q) (by simpa using hin) (by simp [hik, hv]) rfl rfl hd1 (kk H locs ls hz hP hS hl)
            · cases he
          · cases he
        · cases he
      · cases he
    · cases he
  case iastore =>
    have hd1 := xdl hd rfl
    simp only [xstep] at he
    split at he
    · rename_i v x a st1
      split at he
      · rename_i hg
        split at he
        · rename_i ht
          subst ht
          split at he
          · rename_i hi
            cases he
            obtain ⟨hin, hik⟩ := xix_in hi
            have hge := xget_ge (old := old) (n0 := n0) hg
            refine W.iast hx hb9 (xP_arr hP hg (by omega)) (xIsA (t := 0) hK (by omega)) (by intro q; cases q) (by simpa using hin) rfl rfl hd1 fun H1 h1 h2 h3 => ?_
            have hk := kk H1 (locs ++ [⟨_, x.toNatClampNeg⟩]) ls (by rw [h2, hz]; unfold xset; rw [List.length_set]) (xP_set hP hg (by
              unfold xcell
              rw [if_neg (by show ¬ (100 : Nat) < 100; omega), h1]
              simp only [List.map_set, xnarB, xvI, xvL]
              simp [Cell.setSlot, hik]) h3) (hS.put h2 h3 hge) hl
            unfold xset at hk
            rw [List.length_set] at hk
            exact hk
          · cases he
        · cases he
      · cases he
    · cases he
  case bastore =>
    have hd1 := xdl hd rfl
    simp only [xstep] at he
    split at he
    · rename_i v x a st1
      split at he
      · rename_i hg
        split at he
        · rename_i ht
          subst ht
          split at he
          · rename_i hi
            cases he
            obtain ⟨hin, hik⟩ := xix_in hi
            have hge := xget_ge (old := old) (n0 := n0) hg
            refine W.zast hx hb9 (xP_arr hP hg (by omega)) (xIsA (t := 2) hK (by omega)) (by intro q; cases q) (by simpa using hin) rfl rfl hd1 fun H1 h1 h2 h3 => ?_
            have hk := kk H1 (locs ++ [⟨_, x.toNatClampNeg⟩]) ls (by rw [h2, hz]; unfold xset; rw [List.length_set]) (xP_set hP hg (by
              unfold xcell
              rw [if_neg (by show ¬ (102 : Nat) < 100; omega), h1]
              simp only [List.map_set, xnarB, xvI, xvL]
              simp [Cell.setSlot, hik]) h3) (hS.put h2 h3 hge) hl
            unfold xset at hk
            rw [List.length_set] at hk
            exact hk
          · cases he
        · cases he
      · cases he
    · cases he
  case aastore =>
    have hd1 := xdl hd rfl
    simp only [xstep] at he
    split at he
    · rename_i v x a st1
      split at he
      · rename_i t vs t2 vs2 hg hg2
        split at he
        · rename_i ht
          split at he
          · rename_i hi
            cases he
            obtain ⟨hin, hik⟩ := xix_in hi
            have hge := xget_ge (old := old) (n0 := n0) hg
            have ht1 : 103 ≤ t ∧ t < 106 := ⟨by omega, by omega⟩
            obtain ⟨-, kA, comp, k1, k2, k3⟩ := hK.2 (t - 100) (by omega)
            have hcomp := k3 (by omega)
            obtain ⟨-, kB, compB, b1, -, -⟩ := hK.2 (xcomp (t - 100)) (by unfold xcomp; split <;> omega)
            have he2 : t2 - 100 = xcomp (t - 100) := xcomp_ok ht
            refine W.aast hx hb9 (xP_arr hP hg (by omega)) (by intro q h; cases h) (by intro h; cases h) k1 k2 (xtT_ref ht1) (by rw [hcomp]; exact b1) ⟨fun q => hin (Or.inl q), by have := fun q => hin (Or.inr q); simpa using this⟩ (xP_arr hP hg2 (by omega)) (by intro q h; cases h) (by rw [he2]; exact b1) (by rw [hcomp, he2]; exact va_asg _ _) rfl rfl hd1 fun H1 h1 h2 h3 => ?_
            have hk := kk H1 (locs ++ [⟨_, x.toNatClampNeg⟩]) ls (by rw [h2, hz]; unfold xset; rw [List.length_set]) (xP_set hP hg (by
              unfold xcell
              rw [if_neg (by show ¬ t < 100; omega), h1]
              simp only [List.map_set, xvR]
              simp [Cell.setSlot, hik]) h3) (hS.put h2 h3 hge) hl
            unfold xset at hk
            rw [List.length_set] at hk
            exact hk
          · cases he
        · cases he
      · cases he
    · cases he
  all_goals (simp only [xstep, reduceCtorEq] at he)
end XI
