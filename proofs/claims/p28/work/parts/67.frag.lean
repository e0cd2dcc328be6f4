/-! fragile or not, the winners without one judge; a judge of the panel -/
section YAT
variable {sd : Option (List Int32)} {scl : List Int32} {μ pc : Nat} {lv : xL} {st : List Value} {h : xH} {ks : Nat} {Φ : xO → Prop}
theorem frB_no {P w0 num : Int32} {WN : Nat → Int32} : ∀ (k t : Nat), frB P w0 WN num k t = false → ∀ u, t ≤ u → u < t + k → xcmp .ne (Int32.ofNat u &&& (P ^^^ -1)) 0 = false → xcmp .ne (bc6 (Int32.ofNat u)) num = false → xcmp .eq (WN u) w0 = true := by
  intro k
  induction k with
  | zero => exact fun t _ u h1 h2 => by omega
  | succ k ih =>
    intro t hb u h1 h2 h3 h4
    have hb : (bif xcmp .ne (Int32.ofNat t &&& (P ^^^ -1)) 0 then frB P w0 WN num k (t + 1) else bif xcmp .ne (bc6 (Int32.ofNat t)) num then frB P w0 WN num k (t + 1) else bif xcmp .eq (WN t) w0 then frB P w0 WN num k (t + 1) else true) = false := hb
    by_cases e : t = u
    · subst e
      rw [h3, h4] at hb
      cases hw : xcmp .eq (WN t) w0 with
      | true => rfl
      | false =>
        rw [hw] at hb
        cases hb
    · have hn : frB P w0 WN num k (t + 1) = false := by
        cases x1 : xcmp .ne (Int32.ofNat t &&& (P ^^^ -1)) 0 with
        | true =>
          rw [x1] at hb
          exact hb
        | false =>
          cases x2 : xcmp .ne (bc6 (Int32.ofNat t)) num with
          | true =>
            rw [x1, x2] at hb
            exact hb
          | false =>
            cases x3 : xcmp .eq (WN t) w0 with
            | true =>
              rw [x1, x2, x3] at hb
              exact hb
            | false =>
              rw [x1, x2, x3] at hb
              cases hb
      exact ih (t + 1) hn u (by omega) (by omega) h3 h4
theorem one_tab : ∀ p, p < 128 → ∀ j, j < 7 → ¬ hd (Int32.ofNat p) (Int32.ofNat j) = 1 ∨ xcmp .ne (Int32.ofNat (2 ^ j) &&& (Int32.ofNat p ^^^ -1)) 0 = false ∧ xcmp .ne (bc6 (Int32.ofNat (2 ^ j))) (Int32.ofNat 1) = false ∧ Int32.ofNat (2 ^ j) = 1 <<< (Int32.ofNat j &&& 31) ∧ 1 ≤ 2 ^ j ∧ 2 ^ j < 128 := by decide +kernel
/-- not fragile at one: without one judge of the panel the same ones win -/
theorem frg_one {n D p j : Nat} {m : Nat → Int32} (hp : p < 128) (hj : j < 7) (hh : hd (Int32.ofNat p) (Int32.ofNat j) = 1) (hb : 2 ≤ bcN (Int32.ofNat p)) (hf : frg n D (Int32.ofNat p) m ≠ 1) : wns n D m (1 <<< (Int32.ofNat j &&& 31)) = wns n D m 0 := by
  obtain ⟨t1, t2, t3, t4, t5⟩ := (one_tab p hp j hj).resolve_left (fun q => q hh)
  unfold frg at hf
  obtain ⟨k, hk⟩ : ∃ k, bcN (Int32.ofNat p) - 1 = k + 1 := ⟨bcN (Int32.ofNat p) - 2, by omega⟩
  rw [hk] at hf
  have hf : (bif frB (Int32.ofNat p) (wns n D m 0) (fun t => wns n D m (Int32.ofNat t)) (Int32.ofNat 1) 127 1 then Int32.ofNat 1 else frO (Int32.ofNat p) (wns n D m 0) (fun t => wns n D m (Int32.ofNat t)) k (1 + 1)) ≠ 1 := hf
  cases hx : frB (Int32.ofNat p) (wns n D m 0) (fun t => wns n D m (Int32.ofNat t)) (Int32.ofNat 1) 127 1 with
  | true =>
    rw [hx] at hf
    exact absurd rfl hf
  | false =>
    have := frB_no 127 1 hx (2 ^ j) t4 (by omega) t1 t2
    rw [← t3]
    exact of_decide_eq_true this
theorem itf_congr {α : Type} {f g : Nat → α → α} {a : α} : ∀ n, (∀ i, i < n → ∀ x, f i x = g i x) → itf f n a = itf g n a := by
  intro n
  induction n with
  | zero => exact fun _ => rfl
  | succ n ih =>
    intro hfg
    show f n (itf f n a) = g n (itf g n a)
    rw [ih (fun i hi => hfg i (by omega)), hfg n (by omega)]
theorem wnn_congr {EP EP' : Nat → Int32} {n : Nat} (h : ∀ p, p < n → EP p = EP' p) : wnn EP n = wnn EP' n := by
  have e : wnl EP n = wnl EP' n := itf_congr n (fun i hi x => by unfold wls; rw [h i hi])
  unfold wnn
  rw [e]
  exact itf_congr n (fun i hi x => by unfold wws; rw [h i hi])
def pnl (p : Nat) : Nat → Nat → Nat
  | 0, j => j
  | f + 1, j => if hd (Int32.ofNat p) (Int32.ofNat j) = 1 then j else pnl p f ((j + 1) % 7)
theorem pnl_tab : ∀ p, p < 128 → p ≠ 0 → ∀ j, j < 7 → hd (Int32.ofNat p) (Int32.ofNat (pnl p 7 j)) = 1 ∧ pnl p 7 j < 7 := by decide +kernel
theorem hd01_tab : ∀ p, p < 128 → ∀ j, j < 7 → hd (Int32.ofNat p) (Int32.ofNat j) = 0 ∨ hd (Int32.ofNat p) (Int32.ofNat j) = 1 := by decide +kernel
theorem lz_panl {b p from' : Nat} {F : List Value} (hg : xget h b = some (10, F)) (hF : F[14]? = some (.int (Int32.ofNat p))) (hp : p < 128) : ∀ (f j : Nat), j < 7 → hd (Int32.ofNat p) (Int32.ofNat (pnl p f j)) = 1 → Φ (none, some (.int (Int32.ofNat (pnl p f j))), h, ks) → Px sd sd 82 5 [(2, .int (Int32.ofNat j)), (0, .ref b), (1, .int (Int32.ofNat from'))] [] h ks Φ := by
  have hst : ∀ j, j < 7 → (hd (Int32.ofNat p) (Int32.ofNat j) = 1 → Φ (none, some (.int (Int32.ofNat j)), h, ks)) → (hd (Int32.ofNat p) (Int32.ofNat j) = 0 → Px sd sd 82 5 [(2, .int (Int32.ofNat ((j + 1) % 7))), (0, .ref b), (1, .int (Int32.ofNat from'))] [] h ks Φ) → Px sd sd 82 5 [(2, .int (Int32.ofNat j)), (0, .ref b), (1, .int (Int32.ofNat from'))] [] h ks Φ := by
    intro j hj k1 k2
    refine px_step (pc' := 6) (st' := [.ref b]) rfl rfl rfl ?_
    refine px_gf rfl rfl hg hF ?_
    refine px_step (pc' := 10) (st' := [.int (Int32.ofNat j), .int (Int32.ofNat p)]) rfl rfl rfl ?_
    refine px_st (as := [.int (Int32.ofNat p), .int (Int32.ofNat j)]) (rest := []) rfl rfl rfl rfl rfl (cx_has hp (by omega) ?_)
    show Px sd sd 82 13 _ [.int (hd (Int32.ofNat p) (Int32.ofNat j))] h ks Φ
    rcases hd01_tab p hp j hj with e | e
    · rw [e]
      refine px_if rfl rfl (fun hb => by cases hb) (fun hb => ?_)
      refine px_step (pc' := 17) (st' := [.int (Int32.ofNat j)]) rfl rfl rfl ?_
      refine px_step (pc' := 18) (st' := [.int 1, .int (Int32.ofNat j)]) rfl rfl rfl ?_
      refine px_step (pc' := 19) (st' := [.int (Int32.ofNat (j + 1))]) rfl rfl (by rw [← i32_s]; rfl) ?_
      refine px_step (pc' := 21) (st' := [.int (Int32.ofNat 7), .int (Int32.ofNat (j + 1))]) rfl rfl rfl ?_
      refine px_step (pc' := 22) (st' := [.int (Int32.ofNat (j + 1) - Int32.ofNat (j + 1) / Int32.ofNat 7 * Int32.ofNat 7)]) rfl rfl rfl ?_
      rw [remN (by omega) (by decide) (by decide)]
      refine px_step (pc' := 23) (lv' := [(2, .int (Int32.ofNat ((j + 1) % 7))), (0, .ref b), (1, .int (Int32.ofNat from'))]) (st' := []) rfl rfl rfl ?_
      refine px_step (pc' := 5) (st' := []) rfl rfl rfl ?_
      exact k2 e
    · rw [e]
      refine px_if rfl rfl (fun hb => ?_) (fun hb => by cases hb)
      refine px_step (pc' := 27) (st' := [.int (Int32.ofNat j)]) rfl rfl rfl ?_
      exact px_ret rfl rfl (xex_int rfl) (k1 e)
  intro f
  induction f with
  | zero =>
    intro j hj h1 kk
    have h1 : hd (Int32.ofNat p) (Int32.ofNat j) = 1 := h1
    exact hst j hj (fun _ => kk) (fun e => by rw [e] at h1; cases h1)
  | succ f ih =>
    intro j hj h1 kk
    unfold pnl at h1 kk
    refine hst j hj (fun e => ?_) (fun e => ?_)
    · rw [if_pos e] at kk
      exact kk
    · have e2 : ¬ hd (Int32.ofNat p) (Int32.ofNat j) = 1 := fun q => by rw [e] at q; cases q
      rw [if_neg e2] at kk h1
      exact ih ((j + 1) % 7) (Nat.mod_lt _ (by decide)) h1 kk
theorem cx_panl {b p from' : Nat} {F : List Value} (hg : xget h b = some (10, F)) (hF : F[14]? = some (.int (Int32.ofNat p))) (hp : p < 128) (h0 : p ≠ 0) (hf : from' < 7) (kk : Φ (none, some (.int (Int32.ofNat (pnl p 7 from'))), h, ks)) : Qx sd 82 [.ref b, .int (Int32.ofNat from')] h ks Φ := by
  refine Qx.of (Or.inl rfl) (Nat.le_of_ble_eq_true rfl) ?_
  refine px_step (pc' := 1) (lv' := [(0, .ref b), (1, .int (Int32.ofNat from'))]) (st' := [.int (Int32.ofNat from')]) rfl rfl rfl ?_
  refine px_step (pc' := 3) (st' := [.int (Int32.ofNat 7), .int (Int32.ofNat from')]) rfl rfl rfl ?_
  refine px_step (pc' := 4) (st' := [.int (Int32.ofNat from' - Int32.ofNat from' / Int32.ofNat 7 * Int32.ofNat 7)]) rfl rfl rfl ?_
  rw [remN (by omega) (by decide) (by decide), Nat.mod_eq_of_lt hf]
  refine px_step (pc' := 5) (lv' := [(2, .int (Int32.ofNat from')), (0, .ref b), (1, .int (Int32.ofNat from'))]) (st' := []) rfl rfl rfl ?_
  exact lz_panl hg hF hp 7 from' hf (pnl_tab p hp h0 from' hf).1 kk
end YAT
