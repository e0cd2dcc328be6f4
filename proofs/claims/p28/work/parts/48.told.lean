/-! is it a sheet; sheets told and lost -/
section YAA
variable {sd : Option (List Int32)} {μ pc : Nat} {lv : xL} {st : List Value} {s : yS} {Φ : Option Value → yS → Prop}
/-- the marks that were seen -/
def sen (mk : Nat → Nat) : Nat → Int32
  | 0 => 0
  | i + 1 => sen mk i ||| (1 <<< (Int32.ofNat (mk i) &&& 31))
theorem sen_in {mk : Nat → Nat} {q : Nat} (hq : q < 10) : ∀ i, (∀ k, k < i → mk k < 10) → (hds (sen mk i) (Int32.ofNat q) ↔ ∃ k, k < i ∧ mk k = q)
  | 0, _ => ⟨fun h => absurd h (hds_zero _), fun h => by obtain ⟨k, hk, -⟩ := h; omega⟩
  | i + 1, h => by
    show hds (sen mk i ||| _) _ ↔ _
    rw [hds_or (h i (by omega)) hq, sen_in hq i (fun k hk => h k (by omega))]
    constructor
    · rintro (⟨k, h1, h2⟩ | h1)
      · exact ⟨k, by omega, h2⟩
      · exact ⟨i, by omega, h1.symm⟩
    · rintro ⟨k, h1, h2⟩
      by_cases hk : k = i
      · subst hk
        exact Or.inr h2.symm
      · exact Or.inl ⟨k, by omega, h2⟩
theorem lz_am {n : Nat} {told : Int32} {mk : Nat → Nat} (hn : n ≤ 8) (hz : s 25 0 = Int32.ofNat n) (hdg : ∀ i, i < n → dig told i = Int32.ofNat (mk i)) (hmk : ∀ i, i < n → 1 ≤ mk i ∧ mk i ≤ n) (hinj : ∀ i k, i < n → k < n → mk i = mk k → i = k) (hr : rst told n = 0) (kk : Φ (some (.int 1)) s) : ∀ m i : Nat, i + m = n → Yp sd 86 7 [(0, .ref 25), (1, .int told), (2, .int (rst told i)), (3, .int (sen mk i)), (4, .int (Int32.ofNat i))] [] s Φ := by
  intro m
  induction m with
  | zero =>
    intro i hi
    refine yp_run 3 (pc' := 13) (lv' := [(0, .ref 25), (1, .int told), (2, .int (rst told i)), (3, .int (sen mk i)), (4, .int (Int32.ofNat i))]) (st' := [.int (s 25 0), .int (Int32.ofNat i)]) (s' := s) rfl ?_
    refine yp_icmp rfl rfl (fun h => ?_) (fun h => ?_)
    · refine yp_run 1 (pc' := 67) (lv' := [(0, .ref 25), (1, .int told), (2, .int (rst told i)), (3, .int (sen mk i)), (4, .int (Int32.ofNat i))]) (st' := [.int (rst told i)]) (s' := s) rfl ?_
      refine yp_if rfl rfl (fun h67 => ?_) (fun h67 => ?_)
      · rw [show i = n by omega, hr] at h67; cases h67
      · refine yp_run 2 (pc' := 75) (lv' := [(0, .ref 25), (1, .int told), (2, .int (rst told i)), (3, .int (sen mk i)), (4, .int (Int32.ofNat i))]) (st' := [.int 1]) (s' := s) rfl ?_
        refine yp_rz rfl rfl (Or.inr rfl) ?_
        exact kk
    · have h := xN (xc_ge _ _) h
      rw [hz, i32_to (by omega), i32_to (by omega)] at h
      omega
  | succ m ih =>
    intro i hi
    refine yp_run 3 (pc' := 13) (lv' := [(0, .ref 25), (1, .int told), (2, .int (rst told i)), (3, .int (sen mk i)), (4, .int (Int32.ofNat i))]) (st' := [.int (s 25 0), .int (Int32.ofNat i)]) (s' := s) rfl ?_
    refine yp_icmp rfl rfl (fun h => ?_) (fun h => ?_)
    · have h := xT (xc_ge _ _) h
      rw [hz, i32_to (by omega), i32_to (by omega)] at h
      omega
    · have g1 : rst told i - rst told i / 10 * 10 = Int32.ofNat (mk i) := hdg i (by omega)
      have g2 := hmk i (by omega)
      refine yp_run 6 (pc' := 25) (lv' := [(0, .ref 25), (1, .int told), (2, .int (rst told i)), (3, .int (sen mk i)), (4, .int (Int32.ofNat i)), (5, .int ((rst told i) - (rst told i) / 10 * 10))]) (st' := [.int 1, .int ((rst told i) - (rst told i) / 10 * 10)]) (s' := s) rfl ?_
      refine yp_icmp rfl rfl (fun h25 => ?_) (fun h25 => ?_)
      · have h25 := xT (xc_lt _ _) h25; rw [g1, i32_to (by omega), show (1 : Int32).toInt = 1 from rfl] at h25; omega
      · refine yp_run 3 (pc' := 34) (lv' := [(0, .ref 25), (1, .int told), (2, .int (rst told i)), (3, .int (sen mk i)), (4, .int (Int32.ofNat i)), (5, .int ((rst told i) - (rst told i) / 10 * 10))]) (st' := [.int (s 25 0), .int ((rst told i) - (rst told i) / 10 * 10)]) (s' := s) rfl ?_
        refine yp_icmp rfl rfl (fun h34 => ?_) (fun h34 => ?_)
        · have h34 := xT (xc_gt _ _) h34; rw [g1, hz, i32_to (by omega), i32_to (by omega)] at h34; omega
        · refine yp_run 2 (pc' := 40) (lv' := [(0, .ref 25), (1, .int told), (2, .int (rst told i)), (3, .int (sen mk i)), (4, .int (Int32.ofNat i)), (5, .int ((rst told i) - (rst told i) / 10 * 10))]) (st' := [.int ((rst told i) - (rst told i) / 10 * 10), .int (sen mk i)]) (s' := s) rfl ?_
          refine yp_sn rfl rfl rfl (c_hold ?_)
          refine yp_if rfl rfl (fun h43 => ?_) (fun h43 => ?_)
          · refine yp_run 12 (pc' := 7) (lv' := [(0, .ref 25), (1, .int told), (2, .int ((rst told i) / 10)), (3, .int ((sen mk i) ||| (1 <<< (((rst told i) - (rst told i) / 10 * 10) &&& 31)))), (4, .int ((Int32.ofNat i) + 1)), (5, .int ((rst told i) - (rst told i) / 10 * 10))]) (st' := []) (s' := s) rfl ?_
            rw [g1, i32_s]
            refine yp_sel [0, 1, 2, 3, 4] ?_
            exact ih (i + 1) (by omega)
          · have h43 := hd_eqF h43; rw [g1, sen_in (by omega) i (fun k hk => by have := hmk k (by omega); omega)] at h43; obtain ⟨k, hk, h2⟩ := h43; exact absurd (hinj k i (by omega) (by omega) h2) (by omega)
theorem c_arem {n : Nat} {told : Int32} {mk : Nat → Nat} (hn : n ≤ 8) (hz : s 25 0 = Int32.ofNat n) (hdg : ∀ i, i < n → dig told i = Int32.ofNat (mk i)) (hmk : ∀ i, i < n → 1 ≤ mk i ∧ mk i ≤ n) (hinj : ∀ i k, i < n → k < n → mk i = mk k → i = k) (hr : rst told n = 0) (kk : Φ (some (.int 1)) s) : Yq sd 86 [.ref 25, .int told] s Φ := by
  refine Yq.of rfl (Nat.le_of_ble_eq_true rfl) ?_
  refine yp_run 6 (pc' := 7) (lv' := [(0, .ref 25), (1, .int told), (2, .int told), (3, .int 0), (4, .int 0)]) (st' := []) (s' := s) rfl ?_
  exact lz_am hn hz hdg hmk hinj hr kk n 0 (Nat.zero_add n)
theorem has_i {s : yS} {j d : Nat} (hj : j < 7) (hd5 : d < 5) : has s (Int32.ofNat j) (Int32.ofNat d) = bif decide (s 27 ((j * 5 + d) * 8) = 0) then 0 else 1 := by
  have e : gget s 26 (Int32.ofNat j * 5 + Int32.ofNat d) 0 = s 27 ((j * 5 + d) * 8) := by
    rw [jd_i]
    exact gget_i (k := 26) (b := 0) (by decide) (by decide) (by show (j * 5 + d) * 8 + 0 < 280; omega)
  have hj9 : yin (Int32.ofNat j) 7 := by unfold yin; rw [i32_to (by omega)]; omega
  have hd9 : yin (Int32.ofNat d) 5 := by unfold yin; rw [i32_to (by omega)]; omega
  by_cases h : s 27 ((j * 5 + d) * 8) = 0
  · rw [has_f (fun q => q.2.2 (e.trans h)), decide_eq_true h]
    rfl
  · rw [has_t ⟨hj9, hd9, fun q => h (e.symm.trans q)⟩, decide_eq_false h]
    rfl
def hdn (m : Nat → Int32) (j d : Nat) : Int32 := bif decide (m ((j * 5 + d) * 8) = 0) then 0 else 1
theorem hass_i {s : yS} {j d : Nat} (hj : j < 7) (hd5 : d < 5) (h : s 27 ((j * 5 + d) * 8) ≠ 0) : hass s (Int32.ofNat j) (Int32.ofNat d) := by
  have e := has_i (s := s) hj hd5
  rw [decide_eq_false h] at e
  by_cases q : hass s (Int32.ofNat j) (Int32.ofNat d)
  · exact q
  · rw [has_f q] at e
    cases e
theorem c_shee {n D j d : Nat} {told : Int32} {mk : Nat → Nat} (hn : n ≤ 7) (hD : D ≤ 5) (hj : j < 7) (hd5 : d < D) (hf : s 0 7 = 1) (hD4 : s 15 4 = Int32.ofNat D) (h25 : s 25 0 = Int32.ofNat n) (h26 : s 25 1 = Int32.ofNat D) (h29 : ∀ d, d < 5 → s 29 d = 0) (hW : ∀ R, R < 40 → s 45 (R * 9 + (n + 1)) = 0) (hP : hds (s 15 3) (Int32.ofNat j)) (hdg : ∀ i, i < n → dig told i = Int32.ofNat (mk i)) (hmk : ∀ i, i < n → 1 ≤ mk i ∧ mk i ≤ n) (hinj : ∀ i k, i < n → k < n → mk i = mk k → i = k) (hr : rst told n = 0)
    (kk : ∀ T : yS, (∀ k, (k < 30 ∨ 52 ≤ k) → k ≠ 27 → T k = s k) → T 27 = wrs s j d n told 27 → stl T 30 n D (ef 0 (wrs s j d n told 27)) → Φ (some (.int (shd (fun a => hdn (wrs s j d n told 27) a d)))) T) : Yq sd 85 [.ref 0, .int (Int32.ofNat j), .int (Int32.ofNat d), .int told] s Φ := by
  refine Yq.of rfl (Nat.le_of_ble_eq_true rfl) ?_
  refine yp_run 2 (pc' := 4) (lv' := [(0, .ref 0), (1, .int (Int32.ofNat j)), (2, .int (Int32.ofNat d)), (3, .int told)]) (st' := [.int (s 0 7)]) (s' := s) rfl ?_
  refine yp_if rfl rfl (fun h4 => ?_) (fun h4 => ?_)
  · rw [hf] at h4; cases h4
  · refine yp_run 4 (pc' := 15) (lv' := [(0, .ref 0), (1, .int (Int32.ofNat j)), (2, .int (Int32.ofNat d)), (3, .int told)]) (st' := [.int (Int32.ofNat j), .int (s 15 3)]) (s' := s) rfl ?_
    refine yp_st rfl rfl (c_hold ?_)
    refine yp_if rfl rfl (fun h18 => ?_) (fun h18 => ?_)
    · refine yp_run 2 (pc' := 33) (lv' := [(0, .ref 0), (1, .int (Int32.ofNat j)), (2, .int (Int32.ofNat d)), (3, .int told)]) (st' := [.int (Int32.ofNat d), .ref 0]) (s' := s) rfl ?_
      refine yp_vi rfl rfl rfl rfl (c_nDan (by rw [i32_to (by omega)]; omega) (by rw [hD4, i32_to (by omega), i32_to (by omega)]; omega) ?_)
      refine yp_run 3 (pc' := 41) (lv' := [(0, .ref 0), (1, .int (Int32.ofNat j)), (2, .int (Int32.ofNat d)), (3, .int told)]) (st' := [.int told, .ref 25]) (s' := s) rfl ?_
      refine yp_vi rfl rfl rfl rfl (c_arem (by omega) h25 hdg hmk hinj hr ?_)
      refine yp_if rfl rfl (fun h44 => ?_) (fun h44 => ?_)
      · refine yp_run 5 (pc' := 64) (lv' := [(0, .ref 0), (1, .int (Int32.ofNat j)), (2, .int (Int32.ofNat d)), (3, .int told)]) (st' := [.int told, .int (Int32.ofNat d), .int (Int32.ofNat j), .ref 25]) (s' := s) rfl ?_
        refine yp_vi rfl rfl rfl rfl (c_writ (by omega) hj (by omega) h25 ?_)
        obtain ⟨X, hX⟩ : ∃ X, X = wrs s j d n told := ⟨_, rfl⟩
        show ybk sd 85 67 _ [] Φ none (wrs s j d n told)
        rw [← hX]
        have fX : ∀ k, k ≠ 27 → X k = s k := fun k q => by rw [hX]; exact wr_ne q
        refine yp_run 5 (pc' := 76) (lv' := [(0, .ref 0), (1, .int (Int32.ofNat j)), (2, .int (Int32.ofNat d)), (3, .int told)]) (st' := [.int 0, .ref 25, .ref 30]) (s' := X) rfl ?_
        refine yp_vi rfl rfl rfl rfl (c_settle (S := 30) (E := ef 0 ((wrs s j d n told) 27)) (by decide) hn hD ((congrFun (fX _ (by decide)) 0).trans h25) ((congrFun (fX _ (by decide)) 1).trans h26) (fun e h1 => (congrFun (fX _ (by decide)) e).trans (h29 e h1)) (fun R h1 => (congrFun (fX _ (by decide)) _).trans (hW R h1)) (fun a b c h1 h2 h3 => by unfold ef; rw [hX]) (fun T fT hT => ?_))
        refine yp_run 3 (pc' := 84) (lv' := [(0, .ref 0), (1, .int (Int32.ofNat j)), (2, .int (Int32.ofNat d)), (3, .int told)]) (st' := [.int (Int32.ofNat d), .ref 25]) (s' := T) rfl ?_
        have gH : ∀ a, a < 7 → has T (Int32.ofNat a) (Int32.ofNat d) = hdn (X 27) a d := fun a ha => by rw [has_i ha (by omega), fT 27 (by decide)]; rfl
        refine yp_vi rfl rfl rfl rfl (c_ofD gH ?_)
        refine yp_ri rfl rfl ?_
        rw [hX]
        exact kk T (fun k hk h27 => (fT k hk).trans (fX k h27)) (by rw [fT 27 (by decide), hX]) hT
      · cases h44
    · exact absurd hP (hd_neF h18)
theorem c_lose {n D j d : Nat} (hn : n ≤ 7) (hD : D ≤ 5) (hj : j < 7) (hd5 : d < D) (hf : s 0 7 = 1) (hD4 : s 15 4 = Int32.ofNat D) (h25 : s 25 0 = Int32.ofNat n) (h26 : s 25 1 = Int32.ofNat D) (h29 : ∀ d, d < 5 → s 29 d = 0) (hW : ∀ R, R < 40 → s 45 (R * 9 + (n + 1)) = 0) (hh : s 27 ((j * 5 + d) * 8) ≠ 0)
    (kk : ∀ T : yS, (∀ k, (k < 30 ∨ 52 ≤ k) → k ≠ 27 → T k = s k) → T 27 = wrs s j d n 0 27 → stl T 30 n D (ef 0 (wrs s j d n 0 27)) → Φ (some (.int (shd (fun a => hdn (wrs s j d n 0 27) a d)))) T) : Yq sd 0 [.ref 0, .int (Int32.ofNat j), .int (Int32.ofNat d)] s Φ := by
  refine Yq.of rfl (Nat.le_of_ble_eq_true rfl) ?_
  refine yp_run 3 (pc' := 3) (lv' := [(0, .ref 0), (1, .int (Int32.ofNat j)), (2, .int (Int32.ofNat d))]) (st' := [.int (Int32.ofNat d), .int (Int32.ofNat j), .ref 0]) (s' := s) rfl ?_
  refine yp_vi rfl rfl rfl rfl (c_nShe hf (hass_i hj (by omega) hh) ?_)
  refine yp_run 4 (pc' := 12) (lv' := [(0, .ref 0), (1, .int (Int32.ofNat j)), (2, .int (Int32.ofNat d))]) (st' := [.int (Int32.ofNat d), .int (Int32.ofNat j), .ref 25]) (s' := s) rfl ?_
  refine yp_vi rfl rfl rfl rfl (c_eras (by omega) hj (by omega) h25 ?_)
  obtain ⟨X, hX⟩ : ∃ X, X = wrs s j d n 0 := ⟨_, rfl⟩
  show ybk sd 0 15 _ [] Φ none (wrs s j d n 0)
  rw [← hX]
  have fX : ∀ k, k ≠ 27 → X k = s k := fun k q => by rw [hX]; exact wr_ne q
  refine yp_run 5 (pc' := 24) (lv' := [(0, .ref 0), (1, .int (Int32.ofNat j)), (2, .int (Int32.ofNat d))]) (st' := [.int 0, .ref 25, .ref 30]) (s' := X) rfl ?_
  refine yp_vi rfl rfl rfl rfl (c_settle (S := 30) (E := ef 0 ((wrs s j d n 0) 27)) (by decide) hn hD ((congrFun (fX _ (by decide)) 0).trans h25) ((congrFun (fX _ (by decide)) 1).trans h26) (fun e h1 => (congrFun (fX _ (by decide)) e).trans (h29 e h1)) (fun R h1 => (congrFun (fX _ (by decide)) _).trans (hW R h1)) (fun a b c h1 h2 h3 => by unfold ef; rw [hX]) (fun T fT hT => ?_))
  refine yp_run 3 (pc' := 32) (lv' := [(0, .ref 0), (1, .int (Int32.ofNat j)), (2, .int (Int32.ofNat d))]) (st' := [.int (Int32.ofNat d), .ref 25]) (s' := T) rfl ?_
  have gH : ∀ a, a < 7 → has T (Int32.ofNat a) (Int32.ofNat d) = hdn (X 27) a d := fun a ha => by rw [has_i ha (by omega), fT 27 (by decide)]; rfl
  refine yp_vi rfl rfl rfl rfl (c_ofD gH ?_)
  refine yp_ri rfl rfl ?_
  rw [hX]
  exact kk T (fun k hk h27 => (fT k hk).trans (fX k h27)) (by rw [fT 27 (by decide), hX]) hT
end YAA
