/-! sets as bits: every place is given -/
section YV3
theorem bv_one (w : BitVec 32) : (w &&& 1#32) = 1#32 ↔ w.getLsbD 0 = true := by
  constructor
  · intro h
    have := congrArg (fun v => v.getLsbD 0) h
    simpa using this
  · intro h
    apply BitVec.eq_of_getLsbD_eq
    intro i hi
    by_cases h0 : i = 0
    · subst h0
      simp [h]
    · simp [h0]
theorem hds_iff {x : Int32} {p : Nat} (hp : p < 10) : hds x (Int32.ofNat p) ↔ x.toBitVec.getLsbD p = true := by
  have hy : yin (Int32.ofNat p) 10 := by
    unfold yin
    rw [i32_to (by omega)]
    omega
  have key : (x >>> (Int32.ofNat p &&& 31)) &&& 1 = 1 ↔ x.toBitVec.getLsbD p = true := by
    rw [← Int32.toBitVec_inj, Int32.toBitVec_and]
    refine (bv_one _).trans ?_
    rw [Int32.toBitVec_shiftRight]
    have e : ((Int32.ofNat p &&& 31).toBitVec.smod 32) = BitVec.ofNat 32 p := by
      rcases (show p = 0 ∨ p = 1 ∨ p = 2 ∨ p = 3 ∨ p = 4 ∨ p = 5 ∨ p = 6 ∨ p = 7 ∨ p = 8 ∨ p = 9 by omega) with rfl | rfl | rfl | rfl | rfl | rfl | rfl | rfl | rfl | rfl <;> decide
    rw [e, BitVec.sshiftRight_eq', BitVec.getLsbD_sshiftRight]
    have e2 : (BitVec.ofNat 32 p).toNat = p := by
      rw [BitVec.toNat_ofNat]
      omega
    rw [e2]
    simp
    omega
  exact ⟨fun h => key.mp h.2, fun h => ⟨hy, key.mpr h⟩⟩
theorem bit_one : ∀ p, p < 10 → ∀ q, q < 10 → ((1 : Int32) <<< (Int32.ofNat p &&& 31)).toBitVec.getLsbD q = decide (q = p) := by decide
theorem bit_all : ∀ n, n < 10 → ∀ q, q < 10 → (((1 : Int32) <<< (Int32.ofNat n &&& 31)) - 1).toBitVec.getLsbD q = decide (q < n) := by decide
theorem bit_m1 : ∀ q, q < 10 → (-1 : Int32).toBitVec.getLsbD q = true := by decide
theorem hds_one {p q : Nat} (hp : p < 10) (hq : q < 10) : hds (1 <<< (Int32.ofNat p &&& 31)) (Int32.ofNat q) ↔ q = p := by
  rw [hds_iff hq, bit_one p hp q hq, decide_eq_true_eq]
theorem hds_or {a : Int32} {p q : Nat} (hp : p < 10) (hq : q < 10) : hds (a ||| (1 <<< (Int32.ofNat p &&& 31))) (Int32.ofNat q) ↔ hds a (Int32.ofNat q) ∨ q = p := by
  rw [hds_iff hq, hds_iff hq, Int32.toBitVec_or, BitVec.getLsbD_or, Bool.or_eq_true, bit_one p hp q hq, decide_eq_true_eq]
theorem hds_andn {a b : Int32} {q : Nat} (hq : q < 10) : hds (a &&& (b ^^^ -1)) (Int32.ofNat q) ↔ hds a (Int32.ofNat q) ∧ ¬ hds b (Int32.ofNat q) := by
  rw [hds_iff hq, hds_iff hq, hds_iff hq, Int32.toBitVec_and, BitVec.getLsbD_and, Int32.toBitVec_xor, BitVec.getLsbD_xor, bit_m1 q hq, Bool.and_eq_true]
  cases b.toBitVec.getLsbD q <;> simp
theorem hds_all {n q : Nat} (hn : n < 10) (hq : q < 10) : hds ((1 <<< (Int32.ofNat n &&& 31)) - 1) (Int32.ofNat q) ↔ q < n := by
  rw [hds_iff hq, bit_all n hn q hq, decide_eq_true_eq]
theorem hds_zero (b : Int32) : ¬ hds 0 b := fun h => by
  have := hd_0 b
  rw [hd_t h] at this
  revert this
  decide
theorem xeqT {a b : Int32} (h : xcmp .eq a b = true) : a = b := of_decide_eq_true h
theorem xeqF {a b : Int32} (h : xcmp .eq a b = false) : a ≠ b := of_decide_eq_false h
/-- what the heaviest are -/
theorem hvs_in (g : Int32) (W : Nat → Int32) : ∀ i, i ≤ 10 → (∀ q, q < 10 → hds (itf (hvs g W) i (0, 0)).1 (Int32.ofNat q) → q < i ∧ hds g (Int32.ofNat q)) ∧ ((∃ p, p < i ∧ hds g (Int32.ofNat p)) → ∃ q, q < i ∧ hds (itf (hvs g W) i (0, 0)).1 (Int32.ofNat q)) ∧ ((∀ p, p < i → ¬ hds g (Int32.ofNat p)) → (itf (hvs g W) i (0, 0)).1 = 0)
  | 0, _ => ⟨fun q _ h => absurd h (hds_zero _), fun h => by obtain ⟨p, hp, -⟩ := h; omega, fun _ => rfl⟩
  | i + 1, hi => by
    obtain ⟨a, b, c⟩ := hvs_in g W i (by omega)
    have e : itf (hvs g W) (i + 1) (0, 0) = hvs g W i (itf (hvs g W) i (0, 0)) := rfl
    rw [e]
    generalize itf (hvs g W) i (0, 0) = A at a b c
    rw [hvs_eq]
    have one : hds g (Int32.ofNat i) → (∀ q, q < 10 → hds (1 <<< (Int32.ofNat i &&& 31)) (Int32.ofNat q) → q < i + 1 ∧ hds g (Int32.ofNat q)) ∧ ((∃ p, p < i + 1 ∧ hds g (Int32.ofNat p)) → ∃ q, q < i + 1 ∧ hds (1 <<< (Int32.ofNat i &&& 31)) (Int32.ofNat q)) ∧ ((∀ p, p < i + 1 → ¬ hds g (Int32.ofNat p)) → (1 : Int32) <<< (Int32.ofNat i &&& 31) = 0) := fun hg =>
      ⟨fun q hq h => by rw [hds_one (by omega) hq] at h; subst h; exact ⟨by omega, hg⟩, fun _ => ⟨i, by omega, (hds_one (by omega) (by omega)).mpr rfl⟩, fun h => absurd hg (h i (by omega))⟩
    cases h1 : xcmp .eq (hd g (Int32.ofNat i)) 0 with
    | true =>
      have hg := hd_eqT h1
      refine ⟨fun q hq h => ?_, fun h => ?_, fun h => c (fun p hp => h p (by omega))⟩
      · have := a q hq h
        exact ⟨by omega, this.2⟩
      · obtain ⟨p, hp, hp2⟩ := h
        by_cases hpi : p = i
        · subst hpi
          exact absurd hp2 hg
        · obtain ⟨q, hq, hq2⟩ := b ⟨p, by omega, hp2⟩
          exact ⟨q, by omega, hq2⟩
    | false =>
      have hg := hd_eqF h1
      cases h2 : xcmp .eq A.1 0 with
      | true => exact one hg
      | false =>
        have hA := xeqF h2
        have hex : ∃ q, q < i ∧ hds A.1 (Int32.ofNat q) := by
          by_cases hx : ∃ p, p < i ∧ hds g (Int32.ofNat p)
          · exact b hx
          · exact absurd (c (fun p hp hq => hx ⟨p, hp, hq⟩)) hA
        cases h3 : xcmp .lt (W i) A.2 with
        | true =>
          refine ⟨fun q hq h => ?_, fun h => ?_, fun h => absurd hg (h i (by omega))⟩
          · have := a q hq h
            exact ⟨by omega, this.2⟩
          · obtain ⟨q, hq, hq2⟩ := hex
            exact ⟨q, by omega, hq2⟩
        | false =>
          cases h4 : xcmp .ne (W i) A.2 with
          | true => exact one hg
          | false =>
            refine ⟨fun q hq h => ?_, fun h => ⟨i, by omega, (hds_or (by omega) (by omega)).mpr (Or.inr rfl)⟩, fun h => absurd hg (h i (by omega))⟩
            rcases (hds_or (by omega) hq).mp h with h | h
            · have := a q hq h
              exact ⟨by omega, this.2⟩
            · subst h
              exact ⟨by omega, hg⟩
theorem hv_sub {g : Int32} {W : Nat → Int32} {n q : Nat} (hn : n ≤ 10) (hq : q < 10) (h : hds (hv g W n) (Int32.ofNat q)) : hds g (Int32.ofNat q) := ((hvs_in g W n hn).1 q hq h).2
theorem hv_ex {g : Int32} {W : Nat → Int32} {n : Nat} (hn : n ≤ 10) (h : ∃ p, p < n ∧ hds g (Int32.ofNat p)) : ∃ q, q < n ∧ hds (hv g W n) (Int32.ofNat q) := (hvs_in g W n hn).2.1 h
theorem bmk_sub {n D r : Nat} {WG : Nat → Nat → Nat → Int32} {g : Int32} {q : Nat} (hn : n ≤ 10) (hq : q < 10) : ∀ i, hds (bmk n D r WG g i) (Int32.ofNat q) → hds g (Int32.ofNat q)
  | 0, h => h
  | i + 1, h => bmk_sub hn hq i (hv_sub hn hq h)
theorem bmk_ex {n D r : Nat} {WG : Nat → Nat → Nat → Int32} {g : Int32} (hn : n ≤ 10) (h : ∃ p, p < n ∧ hds g (Int32.ofNat p)) : ∀ i, ∃ q, q < n ∧ hds (bmk n D r WG g i) (Int32.ofNat q)
  | 0 => h
  | i + 1 => hv_ex hn (bmk_ex hn h i)
theorem pos_b {n D : Nat} {TT : Nat → Int32} {PL : Nat → Nat → Int32} {WG : Nat → Nat → Nat → Int32} {nx : Nat} {l t : Int32} : ∃ b t' w, pos n D TT PL WG nx (l, t) = (l &&& (b ^^^ -1), t', b, w) ∧ (b = hv (hv l (fun p => -TT p) n) (wpl D PL (Int32.ofNat nx)) n ∨ b = bmk n D nx WG (hv (hv l (fun p => -TT p) n) (wpl D PL (Int32.ofNat nx)) n) (n + 1 - nx)) := by
  rw [pos_eq]
  dsimp only
  generalize hv l (fun p => -TT p) n = B1
  generalize hv B1 (wpl D PL (Int32.ofNat nx)) n = B2
  generalize bmk n D nx WG B2 (n + 1 - nx) = B3
  cases xcmp .le (bc6 B1) 1 <;> cases xcmp .ne (B1 &&& t) 0 <;> cases xcmp .ne (B1 &&& (t ||| B1)) 0 <;> cases xcmp .le (bc6 B2) 1 <;> cases xcmp .le (bc6 B3) 1 <;> first | exact ⟨_, _, _, rfl, Or.inl rfl⟩ | exact ⟨_, _, _, rfl, Or.inr rfl⟩
/-- some of those that are left get places -/
theorem pos_in {n D : Nat} {TT : Nat → Int32} {PL : Nat → Nat → Int32} {WG : Nat → Nat → Nat → Int32} {nx : Nat} {l t : Int32} (hn : n ≤ 10) : (pos n D TT PL WG nx (l, t)).1 = l &&& ((pos n D TT PL WG nx (l, t)).2.2.1 ^^^ -1) ∧ (∀ q, q < 10 → hds (pos n D TT PL WG nx (l, t)).2.2.1 (Int32.ofNat q) → hds l (Int32.ofNat q)) ∧ ((∃ p, p < n ∧ hds l (Int32.ofNat p)) → ∃ q, q < n ∧ hds (pos n D TT PL WG nx (l, t)).2.2.1 (Int32.ofNat q)) := by
  obtain ⟨b, t', w, e, hb⟩ := pos_b (n := n) (D := D) (TT := TT) (PL := PL) (WG := WG) (nx := nx) (l := l) (t := t)
  rw [e]
  dsimp only
  refine ⟨rfl, fun q hq h => ?_, fun h => ?_⟩
  · rcases hb with rfl | rfl
    · exact hv_sub hn hq (hv_sub hn hq h)
    · exact hv_sub hn hq (hv_sub hn hq (bmk_sub hn hq _ h))
  · rcases hb with rfl | rfl
    · exact hv_ex hn (hv_ex hn h)
    · exact bmk_ex hn (hv_ex hn (hv_ex hn h)) _
def crd (l : Int32) : Nat → Nat
  | 0 => 0
  | i + 1 => crd l i + (if hds l (Int32.ofNat i) then 1 else 0)
theorem crd_le (l : Int32) : ∀ n, crd l n ≤ n
  | 0 => Nat.le_refl _
  | n + 1 => by
    have := crd_le l n
    show crd l n + _ ≤ _
    split <;> omega
theorem crd_sub {l l' : Int32} : ∀ n, (∀ p, p < n → hds l' (Int32.ofNat p) → hds l (Int32.ofNat p)) → crd l' n ≤ crd l n
  | 0, _ => Nat.le_refl _
  | n + 1, h => by
    have := crd_sub n (fun p hp => h p (by omega))
    show crd l' n + (if _ then _ else _) ≤ crd l n + (if _ then _ else _)
    by_cases h1 : hds l' (Int32.ofNat n)
    · rw [if_pos h1, if_pos (h n (by omega) h1)]
      omega
    · rw [if_neg h1]
      omega
theorem crd_lt {l l' : Int32} {q : Nat} : ∀ n, q < n → (∀ p, p < n → hds l' (Int32.ofNat p) → hds l (Int32.ofNat p)) → hds l (Int32.ofNat q) → ¬ hds l' (Int32.ofNat q) → crd l' n < crd l n
  | 0, hq, _, _, _ => by omega
  | n + 1, hq, h, h1, h2 => by
    show crd l' n + (if _ then _ else _) < crd l n + (if _ then _ else _)
    by_cases hqn : q = n
    · subst hqn
      have := crd_sub (l := l) (l' := l') q (fun p hp => h p (by omega))
      rw [if_neg h2, if_pos h1]
      omega
    · have := crd_lt n (by omega) (fun p hp => h p (by omega)) h1 h2
      by_cases h3 : hds l' (Int32.ofNat n)
      · rw [if_pos h3, if_pos (h n (by omega) h3)]
        omega
      · rw [if_neg h3]
        omega
theorem crd_0 {l : Int32} : ∀ n, crd l n = 0 → ∀ p, p < n → ¬ hds l (Int32.ofNat p)
  | 0, _, p, hp => by omega
  | n + 1, h, p, hp => by
    have h9 : crd l n + (if hds l (Int32.ofNat n) then 1 else 0) = 0 := h
    by_cases hpn : p = n
    · subst hpn
      intro q
      rw [if_pos q] at h9
      omega
    · exact crd_0 n (by omega) p (by omega)
/-- every place is given, whatever stood there -/
theorem poR_cov {n D : Nat} {TT : Nat → Int32} {PL : Nat → Nat → Int32} {WG : Nat → Nat → Nat → Int32} (hn : n ≤ 10) : ∀ (m nx : Nat) (l t : Int32) (e e' : (Nat → Int32) × (Nat → Int32)), crd l n ≤ m → (∀ p, p < n → ¬ hds l (Int32.ofNat p) → e.1 p = e'.1 p ∧ e.2 p = e'.2 p) →
    ∀ p, p < n → (poR n D TT PL WG m nx (l, t) e).1 p = (poR n D TT PL WG m nx (l, t) e').1 p ∧ (poR n D TT PL WG m nx (l, t) e).2 p = (poR n D TT PL WG m nx (l, t) e').2 p
  | 0, nx, l, t, e, e', hc, he, p, hp => he p hp (crd_0 n (by omega) p hp)
  | m + 1, nx, l, t, e, e', hc, he, p, hp => by
    cases hl : xcmp .eq l 0 with
    | true =>
      rw [poR_0 hl, poR_0 hl]
      exact he p hp (by rw [xeqT hl]; exact hds_zero _)
    | false =>
      rw [poR_s hl, poR_s hl]
      obtain ⟨e1, e2, e3⟩ := pos_in (n := n) (D := D) (TT := TT) (PL := PL) (WG := WG) (nx := nx) (l := l) (t := t) hn
      generalize pos n D TT PL WG nx (l, t) = A at e1 e2 e3
      obtain ⟨l', t', b, w⟩ := A
      dsimp only at e1 e2 e3 ⊢
      subst e1
      refine poR_cov hn m _ _ _ _ _ ?_ (fun p hp hl' => ?_) p hp
      · by_cases hx : crd l n = 0
        · have := crd_sub (l := l) (l' := l &&& (b ^^^ -1)) n (fun p hp h => ((hds_andn (by omega)).mp h).1)
          omega
        · have hex : ∃ p, p < n ∧ hds l (Int32.ofNat p) := by
            by_cases hx2 : ∃ p, p < n ∧ hds l (Int32.ofNat p)
            · exact hx2
            · have : ∀ k, k ≤ n → crd l k = 0 := by
                intro k
                induction k with
                | zero => intro _; rfl
                | succ k ih =>
                  intro hk
                  show crd l k + (if _ then _ else _) = 0
                  rw [ih (by omega), if_neg (fun q => hx2 ⟨k, by omega, q⟩)]
              exact absurd (this n (Nat.le_refl _)) hx
          obtain ⟨q, hq, hq2⟩ := e3 hex
          have := crd_lt (l := l) (l' := l &&& (b ^^^ -1)) n hq (fun p hp h => ((hds_andn (by omega)).mp h).1) (e2 q (by omega) hq2) (fun h => ((hds_andn (by omega)).mp h).2 hq2)
          omega
      · unfold poE
        dsimp only
        by_cases hb : hds b (Int32.ofNat p)
        · rw [hd_t hb]
          exact ⟨rfl, rfl⟩
        · rw [hd_f hb]
          exact he p hp (fun h => hl' ((hds_andn (by omega)).mpr ⟨h, hb⟩))
end YV3
