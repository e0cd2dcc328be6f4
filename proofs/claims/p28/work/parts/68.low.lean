/-! some place is low -/
section YAU
variable {n D : Nat} {TT : Nat → Int32} {PL : Nat → Nat → Int32} {WG : Nat → Nat → Nat → Int32}
theorem poR_keep (hn : n ≤ 10) : ∀ (m nx : Nat) (l t : Int32) (e : (Nat → Int32) × (Nat → Int32)) (p : Nat), p < 10 → ¬ hds l (Int32.ofNat p) → (poR n D TT PL WG m nx (l, t) e).1 p = e.1 p := by
  intro m
  induction m with
  | zero => exact fun _ _ _ _ _ _ _ => rfl
  | succ m ih =>
    intro nx l t e p hp hl
    cases hx : xcmp .eq l 0 with
    | true => rw [poR_0 hx]
    | false =>
      rw [poR_s hx]
      obtain ⟨e1, e2, e3⟩ := pos_in (n := n) (D := D) (TT := TT) (PL := PL) (WG := WG) (nx := nx) (l := l) (t := t) hn
      generalize pos n D TT PL WG nx (l, t) = A at e1 e2 e3
      obtain ⟨l', t', b, w⟩ := A
      dsimp only at e1 e2 e3 ⊢
      subst e1
      rw [ih _ _ _ _ p hp (fun q => hl ((hds_andn hp).mp q).1)]
      dsimp only
      unfold poE
      rw [hd_f (fun q => hl (e2 p hp q))]
      rfl
theorem or7_tab : ∀ M, M < 128 → ∀ i, i < 7 → (Int32.ofNat M ||| (1 <<< (Int32.ofNat i &&& 31))) = Int32.ofNat (M ||| 2 ^ i) ∧ (M ||| 2 ^ i) < 128 := by decide +kernel
theorem one7_tab : ∀ i, i < 7 → (1 <<< (Int32.ofNat i &&& 31)) = Int32.ofNat (2 ^ i) ∧ 2 ^ i < 128 := by decide +kernel
theorem hv_lt {g : Int32} {W : Nat → Int32} (hn : n ≤ 7) : ∃ M, M < 128 ∧ hv g W n = Int32.ofNat M := by
  have key : ∀ i, i ≤ n → ∃ M, M < 128 ∧ (itf (hvs g W) i (0, 0)).1 = Int32.ofNat M := by
    intro i
    induction i with
    | zero => exact fun _ => ⟨0, by decide, rfl⟩
    | succ i ih =>
      intro hi
      obtain ⟨M, m1, m2⟩ := ih (by omega)
      obtain ⟨t1, t2⟩ := or7_tab M m1 i (by omega)
      obtain ⟨o1, o2⟩ := one7_tab i (by omega)
      show ∃ M, M < 128 ∧ (hvs g W i (itf (hvs g W) i (0, 0))).1 = Int32.ofNat M
      rw [hvs_eq, m2, t1, o1]
      cases xcmp .eq (hd g (Int32.ofNat i)) 0 with
      | true => exact ⟨M, m1, rfl⟩
      | false =>
        cases xcmp .eq (Int32.ofNat M) 0 with
        | true => exact ⟨_, o2, rfl⟩
        | false =>
          cases xcmp .lt (W i) (itf (hvs g W) i (0, 0)).2 with
          | true => exact ⟨M, m1, rfl⟩
          | false =>
            cases xcmp .ne (W i) (itf (hvs g W) i (0, 0)).2 with
            | true => exact ⟨_, o2, rfl⟩
            | false => exact ⟨_, t2, rfl⟩
  exact key n (Nat.le_refl _)
theorem bmk_lt {r : Nat} {g : Int32} (hn : n ≤ 7) (hg : ∃ M, M < 128 ∧ g = Int32.ofNat M) : ∀ i, ∃ M, M < 128 ∧ bmk n D r WG g i = Int32.ofNat M
  | 0 => hg
  | _ + 1 => hv_lt hn
theorem low_tab : ∀ M, M < 128 → (2 * Int32.ofNat 1 + bc6 (Int32.ofNat M) - 1).toInt ≤ 8 := by decide +kernel
theorem alln_tab : ∀ n, n < 8 → 1 ≤ n → xcmp .eq ((1 <<< (Int32.ofNat n &&& 31)) - 1) 0 = false := by decide +kernel
theorem EPf_low {E : Nat → Nat → Nat → Int32} (hn1 : 1 ≤ n) (hn : n ≤ 7) : ∃ q, q < n ∧ (EPf n D E q).toInt ≤ 8 := by
  obtain ⟨k, rfl⟩ : ∃ k, n = k + 1 := ⟨n - 1, by omega⟩
  have hx := alln_tab (k + 1) (by omega) hn1
  obtain ⟨e1, e2, e3⟩ := pos_in (n := k + 1) (D := D) (TT := TTf (k + 1) D E) (PL := PLf (k + 1) E) (WG := WGf E) (nx := 1) (l := (1 <<< (Int32.ofNat (k + 1) &&& 31)) - 1) (t := 0) (by omega)
  obtain ⟨q, hq, hb⟩ := e3 ⟨0, by omega, (hds_all (n := k + 1) (by omega) (by omega)).mpr (by omega)⟩
  obtain ⟨b, t', w, hp, hbb⟩ := pos_b (n := k + 1) (D := D) (TT := TTf (k + 1) D E) (PL := PLf (k + 1) E) (WG := WGf E) (nx := 1) (l := (1 <<< (Int32.ofNat (k + 1) &&& 31)) - 1) (t := 0)
  have hM : ∃ M, M < 128 ∧ b = Int32.ofNat M := by
    rcases hbb with h | h
    · rw [h]
      exact hv_lt hn
    · rw [h]
      exact bmk_lt hn (hv_lt hn) _
  obtain ⟨M, m1, m2⟩ := hM
  refine ⟨q, hq, ?_⟩
  unfold EPf PRf
  rw [poR_s hx, hp]
  rw [hp] at hb
  dsimp only at hb ⊢
  rw [poR_keep (by omega) _ _ _ _ _ q (by omega) (fun z => ((hds_andn (by omega)).mp z).2 hb)]
  dsimp only
  unfold poE
  rw [hd_t hb, m2]
  exact low_tab M m1
end YAU
