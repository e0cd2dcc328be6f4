/-! the panel, told and made -/
section YAL
variable {sd : Option (List Int32)} {scl : List Int32} {μ pc : Nat} {lv : xL} {st : List Value} {h : xH} {ks : Nat} {Φ : xO → Prop}
abbrev tfX (b D cl ju : Nat) (en da : Int32) : List Value := tfs b D cl ju 0 0 en en 0 da (b + 91) (b + 92) (b + 93) (b + 101) (b + 102) (b + 145)
def isR : List Int32 → Int32 → Int32 → Int32
  | [], _, u => u
  | a :: r, v, u => isR r v (if a = v then 0 else u)
theorem isR_0 : ∀ (R : List Int32) (v : Int32), isR R v 0 = 0 := by
  intro R
  induction R with
  | nil => exact fun _ => rfl
  | cons a r ih =>
    intro v
    show isR r v (if a = v then 0 else 0) = 0
    rw [ite_self]
    exact ih v
def isB (C : List Int32) (v : Int32) : Bool := C.all fun a => !decide (a = v)
theorem isR_B : ∀ (R : List Int32) (v : Int32), isR R v 1 = bif isB R v then 1 else 0 := by
  intro R
  induction R with
  | nil => exact fun _ => rfl
  | cons a r ih =>
    intro v
    show isR r v (if a = v then 0 else 1) = bif (!decide (a = v) && isB r v) then 1 else 0
    by_cases e : a = v
    · rw [if_pos e, isR_0, decide_eq_true e]
      rfl
    · rw [if_neg e, ih, decide_eq_false e]
      rfl
theorem hdall_tab : ∀ n, n < 8 → ∀ c, c < n → hd (all (Int32.ofNat n)) (Int32.ofNat c) = 1 := by decide +kernel
theorem all_tab : ∀ n, n < 8 → all (Int32.ofNat n) = Int32.ofNat (2 ^ n - 1) ∧ 2 ^ n - 1 < 128 := by decide +kernel
theorem cx_hall {n c : Nat} (hn8 : n < 8) (hc : c < n) (kk : Φ (none, some (.int 1), h, ks)) : Qx sd 83 [.int (all (Int32.ofNat n)), .int (Int32.ofNat c)] h ks Φ := by
  obtain ⟨t1, t2⟩ := all_tab n hn8
  have hx := hdall_tab n hn8 c hc
  rw [t1] at hx ⊢
  refine cx_has t2 (by omega) ?_
  rw [hx]
  exact kk
/-- the free ones of those from a number on -/
def fRec : List Bool → Nat → List Int32 → List Int32
  | [], _, acc => acc
  | t :: r, j, acc => fRec r (j + 1) (bif t then acc ++ [Int32.ofNat j] else acc)
theorem lz_pin {en da : Int32} {b q j n D cl ju w : Nat} {C J P : List Int32} {v : Int32} (hn : C.length = n) (hn8 : n < 8) (hj : J[j]? = some v) (hJ : J.length < 1000)
    (hg : xget h b = some (10, tfX b D cl ju en da)) (hc : xget h cl = some (100, ivs C)) (hju : xget h ju = some (100, ivs J)) : ∀ (R P : List Int32) (u : Int32), C = P ++ R → (u = 0 ∨ u = 1) →
    (Px (some scl) (some scl) 99 65 [(5, .int (Int32.ofNat n)), (4, .int (isR R v u)), (3, .int (Int32.ofNat j)), (2, .ref q), (0, .ref b), (1, .int (all (Int32.ofNat n)))] [] h ks Φ) →
    Px (some scl) (some scl) 99 21 [(5, .int (Int32.ofNat P.length)), (4, .int u), (3, .int (Int32.ofNat j)), (2, .ref q), (0, .ref b), (1, .int (all (Int32.ofNat n)))] [] h ks Φ := by
  have hCl : (ivs C).length = n := by simpa using hn
  intro R
  induction R with
  | nil =>
    intro P u hP hu kk
    have e : P.length = n := by rw [← hn, hP, List.append_nil]
    refine px_step (pc' := 23) (st' := [.int (Int32.ofNat P.length)]) rfl rfl rfl ?_
    refine px_step (pc' := 24) (st' := [.ref b, .int (Int32.ofNat P.length)]) rfl rfl rfl ?_
    refine px_gf rfl rfl hg rfl ?_
    refine px_al rfl hc (by decide) ?_
    rw [hCl, e]
    refine px_icmp rfl rfl (fun hb => kk) (fun hb => ?_)
    have hb := xN (xc_ge _ _) hb
    omega
  | cons a r ih =>
    intro P u hP hu kk
    have e : P.length < n := by rw [← hn, hP, List.length_append, List.length_cons]; omega
    refine px_step (pc' := 23) (st' := [.int (Int32.ofNat P.length)]) rfl rfl rfl ?_
    refine px_step (pc' := 24) (st' := [.ref b, .int (Int32.ofNat P.length)]) rfl rfl rfl ?_
    refine px_gf rfl rfl hg rfl ?_
    refine px_al rfl hc (by decide) ?_
    rw [hCl]
    refine px_icmp rfl rfl (fun hb => ?_) (fun hb => ?_)
    · have hb := xT (xc_ge _ _) hb
      rw [i32_to (by omega), i32_to (by omega)] at hb
      omega
    refine px_step (pc' := 32) (st' := [.int (all (Int32.ofNat n))]) rfl rfl rfl ?_
    refine px_step (pc' := 34) (st' := [.int (Int32.ofNat P.length), .int (all (Int32.ofNat n))]) rfl rfl rfl ?_
    have hnx : ∀ {u' : Int32}, (u' = 0 ∨ u' = 1) → Px (some scl) (some scl) 99 65 [(5, .int (Int32.ofNat n)), (4, .int (isR r v u')), (3, .int (Int32.ofNat j)), (2, .ref q), (0, .ref b), (1, .int (all (Int32.ofNat n)))] [] h ks Φ → Px (some scl) (some scl) 99 59 [(5, .int (Int32.ofNat P.length)), (4, .int u'), (3, .int (Int32.ofNat j)), (2, .ref q), (0, .ref b), (1, .int (all (Int32.ofNat n)))] [] h ks Φ := fun {u'} h1 h2 => by
      refine px_step (pc' := 62) (lv' := [(5, .int (Int32.ofNat (P.length + 1))), (4, .int u'), (3, .int (Int32.ofNat j)), (2, .ref q), (0, .ref b), (1, .int (all (Int32.ofNat n)))]) (st' := []) (h' := h) (ks' := ks) rfl rfl (by rw [← i32_s]; rfl) ?_
      refine px_step (pc' := 21) (st' := []) rfl rfl rfl ?_
      have := ih (P ++ [a]) u' (by rw [hP, List.append_assoc]; rfl) h1 h2
      rw [List.length_append] at this
      exact this
    refine px_st (as := [.int (all (Int32.ofNat n)), .int (Int32.ofNat P.length)]) (rest := []) rfl rfl rfl rfl rfl (cx_hall hn8 e ?_)
    show Px (some scl) (some scl) 99 37 _ [.int 1] h ks Φ
    refine px_if rfl rfl (fun hb => by cases hb) (fun hb => ?_)
    refine px_step (pc' := 41) (st' := [.ref b]) rfl rfl rfl ?_
    refine px_gf rfl rfl hg rfl ?_
    refine px_step (pc' := 46) (st' := [.int (Int32.ofNat P.length), .ref cl]) rfl rfl rfl ?_
    refine px_ial (v := .int a) rfl hc (by rw [hCl]; omega) (by rw [hP]; simp) ?_
    refine px_step (pc' := 48) (st' := [.ref b, .int a]) rfl rfl rfl ?_
    refine px_gf rfl rfl hg rfl ?_
    refine px_step (pc' := 52) (st' := [.int (Int32.ofNat j), .ref ju, .int a]) rfl rfl rfl ?_
    refine px_ial (v := .int v) rfl hju (by simpa using Nat.lt_trans hJ (by decide)) (by simp [hj]) ?_
    refine px_icmp rfl rfl (fun hb2 => ?_) (fun hb2 => ?_)
    · have hb2 : a ≠ v := by simpa [xcmp] using hb2
      have kk2 : Px (some scl) (some scl) 99 65 [(5, .int (Int32.ofNat n)), (4, .int (isR r v (if a = v then 0 else u))), (3, .int (Int32.ofNat j)), (2, .ref q), (0, .ref b), (1, .int (all (Int32.ofNat n)))] [] h ks Φ := kk
      rw [if_neg hb2] at kk2
      exact hnx hu kk2
    · have hb2 : a = v := by simpa [xcmp] using hb2
      have kk2 : Px (some scl) (some scl) 99 65 [(5, .int (Int32.ofNat n)), (4, .int (isR r v (if a = v then 0 else u))), (3, .int (Int32.ofNat j)), (2, .ref q), (0, .ref b), (1, .int (all (Int32.ofNat n)))] [] h ks Φ := kk
      rw [if_pos hb2] at kk2
      refine px_step (pc' := 57) (st' := [.int 0]) rfl rfl rfl ?_
      refine px_step (pc' := 59) (lv' := [(4, .int 0), (5, .int (Int32.ofNat P.length)), (3, .int (Int32.ofNat j)), (2, .ref q), (0, .ref b), (1, .int (all (Int32.ofNat n)))]) (st' := []) rfl rfl rfl ?_
      refine px_step (pc' := 62) (lv' := [(5, .int (Int32.ofNat (P.length + 1))), (4, .int 0), (3, .int (Int32.ofNat j)), (2, .ref q), (0, .ref b), (1, .int (all (Int32.ofNat n)))]) (st' := []) (h' := h) (ks' := ks) rfl rfl (by rw [← i32_s]; rfl) ?_
      refine px_step (pc' := 21) (st' := []) rfl rfl rfl ?_
      have := ih (P ++ [a]) 0 (by rw [hP, List.append_assoc]; rfl) (Or.inl rfl) kk2
      rw [List.length_append] at this
      exact this
/-- the free ones of a panel as the class takes them -/
def pRec : List Bool → Nat → Int32 × Int32 → Int32 × Int32
  | [], _, a => a
  | t :: r, j, a => pRec r (j + 1) (bif t then ((a.1 ||| (1 <<< (Int32.ofNat j &&& 31))), (1 <<< (Int32.ofNat j &&& 31))) else (a.1, a.2))
theorem pRec_snoc (t : Bool) : ∀ (l : List Bool) (j : Nat) (a : Int32 × Int32), pRec (l ++ [t]) j a = bif t then (((pRec l j a).1 ||| (1 <<< (Int32.ofNat (j + l.length) &&& 31))), (1 <<< (Int32.ofNat (j + l.length) &&& 31))) else ((pRec l j a).1, (pRec l j a).2) := by
  intro l
  induction l with
  | nil => exact fun _ _ => rfl
  | cons c r ih =>
    intro j a
    show pRec (r ++ [t]) (j + 1) _ = _
    rw [ih, List.length_cons, show j + 1 + r.length = j + (r.length + 1) by omega]
    rfl
def sSum : List Int32 → Int32 → Int32
  | [], a => a
  | v :: r, a => sSum r (a + (1 <<< (v &&& 31)))
def kOf (L : Nat) : Nat := L - (if L % 2 = 0 then 1 else 0)
def pSet (F : List Int32) : Int32 := sSum (F.take (kOf F.length)) 0
def panOK (l : List Bool) : Bool := decide (pSet (fRec l 0 []) = pnP (pRec l 0 (0, 0))) && decide (3 ≤ (bc6 (pnP (pRec l 0 (0, 0)))).toInt) && decide (pnP (pRec l 0 (0, 0)) = Int32.ofNat (pnP (pRec l 0 (0, 0))).toBitVec.toNat) && decide ((pnP (pRec l 0 (0, 0))).toBitVec.toNat < 2 ^ l.length)
theorem pan_3 : panOK [true, true, true] = true := by decide +kernel
theorem pan_4 : ∀ a, panOK [true, true, true, a] = true := by decide +kernel
theorem pan_5 : ∀ a b, panOK [true, true, true, a, b] = true := by decide +kernel
theorem pan_6 : ∀ a b c, panOK [true, true, true, a, b, c] = true := by decide +kernel
theorem pan_7 : ∀ a b c d, panOK [true, true, true, a, b, c, d] = true := by decide +kernel
theorem pan_ok : ∀ (r : List Bool), r.length ≤ 4 → panOK (true :: true :: true :: r) = true := by
  intro r hr
  match r, hr with
  | [], _ => exact pan_3
  | [a], _ => exact pan_4 a
  | [a, b], _ => exact pan_5 a b
  | [a, b, c], _ => exact pan_6 a b c
  | [a, b, c, d], _ => exact pan_7 a b c d
  | _ :: _ :: _ :: _ :: _ :: _, h => simp at h
theorem or_tab : ∀ M, M < 64 → ∀ a, a < 6 → (Int32.ofNat M ||| (1 <<< (Int32.ofNat a &&& 31))) = Int32.ofNat (M ||| 2 ^ a) ∧ (M ||| 2 ^ a) < 64 ∧ ∀ v, v < 6 → hd (Int32.ofNat (M ||| 2 ^ a)) (Int32.ofNat v) = if a = v then 1 else hd (Int32.ofNat M) (Int32.ofNat v) := by decide +kernel
theorem of6_tab : ∀ a, a < 6 → ∀ v, v < 6 → (Int32.ofNat a = Int32.ofNat v ↔ a = v) := by decide +kernel
theorem isB_snoc (a v : Int32) (l : List Int32) : isB (l ++ [a]) v = (isB l v && !decide (a = v)) := by
  unfold isB
  rw [List.all_append]
  show (_ && (!decide (a = v) && true)) = _
  rw [Bool.and_true]
theorem clb_ok {C : List Int32} {n : Nat} (hn : C.length = n) (hn8 : n < 8) (hC : ∀ v ∈ C, ∃ a, a < 6 ∧ v = Int32.ofNat a) : ∀ i, i ≤ n → ∃ M, M < 64 ∧ itf (css (all (Int32.ofNat n)) (lf C)) i 0 = Int32.ofNat M ∧ ∀ v, v < 6 → hd (Int32.ofNat M) (Int32.ofNat v) = bif isB (C.take i) (Int32.ofNat v) then 0 else 1 := by
  intro i
  induction i with
  | zero =>
    have z : ∀ v, v < 6 → hd (Int32.ofNat 0) (Int32.ofNat v) = 0 := by decide +kernel
    exact fun _ => ⟨0, by decide, rfl, fun v hv => z v hv⟩
  | succ i ih =>
    intro hi
    obtain ⟨M, m1, m2, m3⟩ := ih (by omega)
    have hil : i < C.length := by omega
    obtain ⟨a, a1, a2⟩ := hC C[i] (List.getElem_mem hil)
    obtain ⟨t1, t2, t3⟩ := or_tab M m1 a a1
    refine ⟨M ||| 2 ^ a, t2, ?_, fun v hv => ?_⟩
    · show (bif xcmp .eq (hd (all (Int32.ofNat n)) (Int32.ofNat i)) 0 then itf (css (all (Int32.ofNat n)) (lf C)) i 0 else (itf (css (all (Int32.ofNat n)) (lf C)) i 0 ||| (1 <<< ((lf C i) &&& 31)))) = _
      rw [hdall_tab n hn8 i (by omega), m2, show lf C i = Int32.ofNat a by
        unfold lf
        rw [List.getD_eq_getElem?_getD, List.getElem?_eq_getElem hil]
        exact a2, t1]
      rfl
    · rw [t3 v hv, m3 v hv, List.take_succ, List.getElem?_eq_getElem hil, a2]
      show _ = bif isB (C.take i ++ [Int32.ofNat a]) (Int32.ofNat v) then 0 else 1
      rw [isB_snoc]
      by_cases e : a = v
      · rw [if_pos e, decide_eq_true ((of6_tab a a1 v hv).mpr e), Bool.not_true, Bool.and_false]
        rfl
      · rw [if_neg e, decide_eq_false (fun q => e ((of6_tab a a1 v hv).mp q)), Bool.not_false, Bool.and_true]
/-- the panel of the class, by who is free -/
theorem pnB_ok {C J : List Int32} {n : Nat} (hn : C.length = n) (hn8 : n < 8) (hC : ∀ v ∈ C, ∃ a, a < 6 ∧ v = Int32.ofNat a) (hJ : ∀ v ∈ J, ∃ a, a < 6 ∧ v = Int32.ofNat a) : pnB (clb (all (Int32.ofNat n)) (lf C) n) (lf J) J.length = pRec (J.map (isB C)) 0 (0, 0) := by
  obtain ⟨M, m1, m2, m3⟩ := clb_ok hn hn8 hC n (Nat.le_refl _)
  have key : ∀ i, i ≤ J.length → itf (pns (clb (all (Int32.ofNat n)) (lf C) n) (lf J)) i (0, 0) = pRec ((J.take i).map (isB C)) 0 (0, 0) := by
    intro i
    induction i with
    | zero => exact fun _ => rfl
    | succ i ih =>
      intro hi
      have hil : i < J.length := by omega
      obtain ⟨a, a1, a2⟩ := hJ J[i] (List.getElem_mem hil)
      rw [List.take_succ, List.getElem?_eq_getElem hil, a2]
      show pns (clb (all (Int32.ofNat n)) (lf C) n) (lf J) i (itf (pns (clb (all (Int32.ofNat n)) (lf C) n) (lf J)) i (0, 0)) = pRec ((J.take i ++ [Int32.ofNat a]).map (isB C)) 0 (0, 0)
      rw [ih (by omega), List.map_append]
      show _ = pRec ((J.take i).map (isB C) ++ [isB C (Int32.ofNat a)]) 0 (0, 0)
      rw [pRec_snoc, List.length_map, List.length_take, Nat.min_eq_left (by omega), Nat.zero_add]
      unfold pns
      rw [show lf J i = Int32.ofNat a by
        unfold lf
        rw [List.getD_eq_getElem?_getD, List.getElem?_eq_getElem hil]
        exact a2, show clb (all (Int32.ofNat n)) (lf C) n = Int32.ofNat M from m2, m3 a a1, ← hn, List.take_length]
      cases isB C (Int32.ofNat a) <;> rfl
  have := key J.length (Nat.le_refl _)
  rw [List.take_length] at this
  exact this
end YAL
