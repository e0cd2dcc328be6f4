/-! sheets as lists of marks -/
section YAQ
variable {sd : Option (List Int32)} {s : yS} {Φ : Option Value → yS → Prop}
def enc : List Nat → Nat
  | [] => 0
  | a :: r => a + 10 * enc r
theorem enc_lt : ∀ (L : List Nat), (∀ a ∈ L, a ≤ 9) → enc L < 10 ^ L.length := by
  intro L
  induction L with
  | nil => exact fun _ => by decide
  | cons a r ih =>
    intro h
    have h1 := ih (fun b hb => h b (List.mem_cons_of_mem _ hb))
    have h2 := h a List.mem_cons_self
    show a + 10 * enc r < 10 ^ (r.length + 1)
    rw [Nat.pow_succ]
    omega
theorem enc_i {L : List Nat} (hL : L.length ≤ 8) (h9 : ∀ a ∈ L, a ≤ 9) (i : Nat) : enc (L.drop i) < 2147483648 := by
  have h1 := enc_lt (L.drop i) (fun a ha => h9 a (List.mem_of_mem_drop ha))
  have h2 : (L.drop i).length ≤ 8 := by rw [List.length_drop]; omega
  have h3 : 10 ^ (L.drop i).length ≤ 10 ^ 8 := Nat.pow_le_pow_right (by decide) h2
  have h4 : 10 ^ 8 = 100000000 := by decide
  omega
theorem enc_s {L : List Nat} {i : Nat} (hi : i < L.length) : enc (L.drop i) = L.getD i 0 + 10 * enc (L.drop (i + 1)) := by
  rw [List.drop_eq_getElem_cons hi, List.getD_eq_getElem?_getD, List.getElem?_eq_getElem hi]
  rfl
theorem getD_9 {L : List Nat} (h9 : ∀ a ∈ L, a ≤ 9) (i : Nat) : L.getD i 0 ≤ 9 := by
  rw [List.getD_eq_getElem?_getD]
  by_cases hi : i < L.length
  · rw [List.getElem?_eq_getElem hi]
    exact h9 _ (List.getElem_mem hi)
  · rw [List.getElem?_eq_none (by omega)]
    exact Nat.zero_le _
theorem rst_enc {L : List Nat} (hL : L.length ≤ 8) (h9 : ∀ a ∈ L, a ≤ 9) : ∀ i, i ≤ L.length → rst (Int32.ofNat (enc L)) i = Int32.ofNat (enc (L.drop i)) := by
  intro i
  induction i with
  | zero => exact fun _ => rfl
  | succ i ih =>
    intro hi
    show rst (Int32.ofNat (enc L)) i / Int32.ofNat 10 = _
    have h1 := enc_s (L := L) (i := i) (by omega)
    have h2 := getD_9 h9 i
    rw [ih (by omega), divN (enc_i hL h9 i) (by decide) (by decide)]
    congr 1
    omega
theorem dig_enc {L : List Nat} (hL : L.length ≤ 8) (h9 : ∀ a ∈ L, a ≤ 9) {i : Nat} (hi : i < L.length) : dig (Int32.ofNat (enc L)) i = Int32.ofNat (L.getD i 0) := by
  unfold dig
  have h1 := enc_s (L := L) (i := i) hi
  have h2 := getD_9 h9 i
  rw [rst_enc hL h9 i (by omega), show (10 : Int32) = Int32.ofNat 10 from rfl, remN (enc_i hL h9 i) (by decide) (by decide)]
  congr 1
  omega
theorem rst_end {L : List Nat} (hL : L.length ≤ 8) (h9 : ∀ a ∈ L, a ≤ 9) : rst (Int32.ofNat (enc L)) L.length = 0 := by
  rw [rst_enc hL h9 _ (Nat.le_refl _), List.drop_length]
  rfl
/-- marks told, as the class holds them -/
def mM (M : Nat → Nat → List Nat) (q : Nat) : Int32 := if q < 280 then Int32.ofNat ((M (q / 40) (q / 8 % 5)).getD (q % 8) 0) else 0
def upM (M : Nat → Nat → List Nat) (j d : Nat) (L : List Nat) : Nat → Nat → List Nat := fun a e => if a = j ∧ e = d then L else M a e
def okS (n : Nat) (L : List Nat) : Prop := L.length = n ∧ (∀ a ∈ L, 1 ≤ a ∧ a ≤ n) ∧ ∀ i k, i < n → k < n → L.getD i 0 = L.getD k 0 → i = k
def okM (n : Nat) (M : Nat → Nat → List Nat) : Prop := ∀ j d, M j d = [] ∨ okS n (M j d)
theorem okM_up {n j d : Nat} {M : Nat → Nat → List Nat} {L : List Nat} (hM : okM n M) (hL : L = [] ∨ okS n L) : okM n (upM M j d L) := by
  intro a e
  unfold upM
  by_cases h : a = j ∧ e = d
  · rw [if_pos h]
    exact hL
  · rw [if_neg h]
    exact hM a e
theorem okM_len {n : Nat} {M : Nat → Nat → List Nat} (hM : okM n M) (j d : Nat) : (M j d).length ≤ n := by
  rcases hM j d with h | h
  · rw [h]
    exact Nat.zero_le _
  · exact Nat.le_of_eq h.1
theorem getD_hi {L : List Nat} {i : Nat} (h : L.length ≤ i) : L.getD i 0 = 0 := by
  rw [List.getD_eq_getElem?_getD, List.getElem?_eq_none h]
  rfl
theorem mM_wr {n j d : Nat} {told : Int32} {M : Nat → Nat → List Nat} {L : List Nat} (hn : n ≤ 7) (hj : j < 7) (hd : d < 5) (hM : okM n M) (h27 : s 27 = mM M) (hL : L.length ≤ n) (hdg : ∀ i, i < n → dig told i = Int32.ofNat (L.getD i 0)) : wrs s j d n told 27 = mM (upM M j d L) := by
  funext q
  show (if 27 = 27 ∧ (j * 5 + d) * 8 ≤ q ∧ q < (j * 5 + d) * 8 + n then dig told (q - (j * 5 + d) * 8) else s 27 q) = _
  rw [h27]
  unfold mM upM
  by_cases h1 : (j * 5 + d) * 8 ≤ q ∧ q < (j * 5 + d) * 8 + 8
  · have e1 : q / 40 = j := by omega
    have e2 : q / 8 % 5 = d := by omega
    have e3 : q % 8 = q - (j * 5 + d) * 8 := by omega
    have h8 : q < 280 := by omega
    by_cases h2 : q < (j * 5 + d) * 8 + n
    · rw [if_pos ⟨rfl, h1.1, h2⟩, if_pos h8, if_pos ⟨e1, e2⟩, e3, hdg _ (by omega)]
    · rw [if_neg (fun z => h2 z.2.2), if_pos h8, if_pos h8, if_pos ⟨e1, e2⟩, e1, e2, e3, getD_hi (by have := okM_len hM j d; omega), getD_hi (by omega)]
  · rw [if_neg (fun z => h1 ⟨z.2.1, by omega⟩)]
    by_cases h3 : q < 280
    · rw [if_pos h3, if_pos h3, if_neg (fun z => h1 (by omega))]
    · rw [if_neg h3, if_neg h3]
theorem okS_9 {n : Nat} {L : List Nat} (hn : n ≤ 7) (h : okS n L) : ∀ a ∈ L, a ≤ 9 := fun a ha => by have := h.2.1 a ha; omega
theorem f_shee {n D J j d : Nat} {P : Int32} {cl jc : Nat → Int32} {M : Nat → Nat → List Nat} {L : List Nat} (hn : n ≤ 7) (hD : D ≤ 5) (hj : j < 7) (hd : d < D) (hF : finF s n D J P cl jc (mM M)) (hM : okM n M) (hL : okS n L) (hP : hds P (Int32.ofNat j)) (kk : ∀ T, finF T n D J P cl jc (mM (upM M j d L)) → Φ (some (.int (shd (fun a => hdn (mM (upM M j d L)) a d)))) T) : Yq sd 85 [.ref 0, .int (Int32.ofNat j), .int (Int32.ofNat d), .int (Int32.ofNat (enc L))] s Φ := by
  have hF' := hF
  obtain ⟨hB, h27, hS, hW⟩ := hF'
  have hB' := hB
  obtain ⟨a1, a2, a3, a4, a5, a6, a7, a8, a9, b0, b1, b2, b3, b4, b5, b6, b7, b8, b9, c0, c1, c2, c3⟩ := hB'
  have h9 := okS_9 hn hL
  have hdg : ∀ i, i < n → dig (Int32.ofNat (enc L)) i = Int32.ofNat (L.getD i 0) := fun i hi => dig_enc (by rw [hL.1]; omega) h9 (by rw [hL.1]; exact hi)
  have hd5 : d < 5 := by omega
  have hw := mM_wr hn hj hd5 hM h27 (Nat.le_of_eq hL.1) hdg
  refine c_shee hn hD hj hd a1 b5 c1 c2 c3 hS.2.2.2.2.2.2.2.2 (by rw [b4]; exact hP) hdg (fun i hi => ?_) hL.2.2 (by have := rst_end (L := L) (by rw [hL.1]; omega) h9; rw [hL.1] at this; exact this) (fun T t1 t2 t3 => ?_)
  · have hil : i < L.length := by rw [hL.1]; exact hi
    rw [List.getD_eq_getElem?_getD, List.getElem?_eq_getElem hil]
    exact hL.2.1 _ (List.getElem_mem hil)
  · rw [hw] at t2 t3 ⊢
    exact kk T ⟨inB_kept hB (fun k k1 k2 => t1 k (Or.inl k1) k2), t2, t3, fun R hR => (congrFun (t1 67 (by decide) (by decide)) _).trans (hW R hR)⟩
theorem f_lose {n D J j d : Nat} {P : Int32} {cl jc : Nat → Int32} {M : Nat → Nat → List Nat} (hn1 : 1 ≤ n) (hn : n ≤ 7) (hD : D ≤ 5) (hj : j < 7) (hd : d < D) (hF : finF s n D J P cl jc (mM M)) (hM : okM n M) (hS : okS n (M j d)) (kk : ∀ v T, finF T n D J P cl jc (mM (upM M j d [])) → Φ (some (.int v)) T) : Yq sd 0 [.ref 0, .int (Int32.ofNat j), .int (Int32.ofNat d)] s Φ := by
  have hF' := hF
  obtain ⟨hB, h27, hSt, hW⟩ := hF'
  have hB' := hB
  obtain ⟨a1, a2, a3, a4, a5, a6, a7, a8, a9, b0, b1, b2, b3, b4, b5, b6, b7, b8, b9, c0, c1, c2, c3⟩ := hB'
  have hd5 : d < 5 := by omega
  have hw := mM_wr (told := 0) (L := []) hn hj hd5 hM h27 (Nat.zero_le _) (fun i hi => by rw [dig_0, getD_hi (Nat.zero_le _)]; rfl)
  refine c_lose hn hD hj hd a1 b5 c1 c2 c3 hSt.2.2.2.2.2.2.2.2 ?_ (fun T t1 t2 t3 => ?_)
  · rw [h27]
    unfold mM
    rw [if_pos (by omega), show (j * 5 + d) * 8 / 40 = j by omega, show (j * 5 + d) * 8 / 8 % 5 = d by omega, show (j * 5 + d) * 8 % 8 = 0 by omega]
    have hil : 0 < (M j d).length := by rw [hS.1]; omega
    rw [List.getD_eq_getElem?_getD, List.getElem?_eq_getElem hil]
    have h1 := hS.2.1 _ (List.getElem_mem hil)
    intro z
    have z2 := congrArg Int32.toInt z
    rw [Option.getD_some, i32_to (by omega), Int32.toInt_zero] at z2
    omega
  · rw [hw] at t2 t3 ⊢
    exact kk _ T ⟨inB_kept hB (fun k k1 k2 => t1 k (Or.inl k1) k2), t2, t3, fun R hR => (congrFun (t1 67 (by decide) (by decide)) _).trans (hW R hR)⟩
theorem mM_0 : mM (fun _ _ => []) = fun _ => 0 := by
  funext q
  unfold mM
  rw [getD_hi (Nat.zero_le _)]
  by_cases h : q < 280
  · rw [if_pos h]
    rfl
  · rw [if_neg h]
end YAQ
