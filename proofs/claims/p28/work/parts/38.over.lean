/-! places over all -/
section YP2
variable {sd : Option (List Int32)} {μ pc : Nat} {lv : xL} {st : List Value} {s : yS} {Φ : Option Value → yS → Prop}
theorem and63 (x : Int32) : 0 ≤ (x &&& 63).toInt ∧ (x &&& 63).toInt ≤ 63 := by
  have h1 : (x &&& 63).toBitVec.toNat ≤ 63 := by
    have h2 : (x &&& 63).toBitVec.toNat = x.toBitVec.toNat &&& 63 := by
      rw [Int32.toBitVec_and, BitVec.toNat_and]
      rfl
    rw [h2]
    exact Nat.and_le_right
  have h3 : (x &&& 63).toInt = (x &&& 63).toBitVec.toInt := rfl
  rw [h3, BitVec.toInt_eq_toNat_of_lt (by omega)]
  omega
def bcN (g : Int32) : Nat := (bc6 g).toInt.toNat
theorem bcN_le (g : Int32) : bcN g ≤ 63 := by
  have := and63 (bc5 g)
  unfold bcN bc6
  omega
theorem bcN_ok (g : Int32) : bc6 g = Int32.ofNat (bcN g) := by
  have h := and63 (bc5 g)
  have h2 := bcN_le g
  apply Int32.toInt_inj.mp
  rw [i32_to (by omega)]
  unfold bcN bc6
  unfold bcN bc6 at h2
  omega
def pos (n D : Nat) (TT : Nat → Int32) (PL : Nat → Nat → Int32) (WG : Nat → Nat → Nat → Int32) (nx : Nat) (a : Int32 × Int32) : Int32 × Int32 × Int32 × Int32 := (bif xcmp .le (bc6 (hv a.1 (fun p => -TT p) n)) 1 then (bif xcmp .ne ((hv a.1 (fun p => -TT p) n) &&& a.2) 0 then (bif xcmp .le (bc6 (hv (hv a.1 (fun p => -TT p) n) (wpl D PL (Int32.ofNat nx)) n)) 1 then ((a.1 &&& ((hv (hv a.1 (fun p => -TT p) n) (wpl D PL (Int32.ofNat nx)) n) ^^^ (-1))), a.2, (hv (hv a.1 (fun p => -TT p) n) (wpl D PL (Int32.ofNat nx)) n), 10) else (bif xcmp .le (bc6 (bmk n D nx WG (hv (hv a.1 (fun p => -TT p) n) (wpl D PL (Int32.ofNat nx)) n) (n + 1 - nx))) 1 then ((a.1 &&& ((bmk n D nx WG (hv (hv a.1 (fun p => -TT p) n) (wpl D PL (Int32.ofNat nx)) n) (n + 1 - nx)) ^^^ (-1))), a.2, (bmk n D nx WG (hv (hv a.1 (fun p => -TT p) n) (wpl D PL (Int32.ofNat nx)) n) (n + 1 - nx)), 11) else ((a.1 &&& ((bmk n D nx WG (hv (hv a.1 (fun p => -TT p) n) (wpl D PL (Int32.ofNat nx)) n) (n + 1 - nx)) ^^^ (-1))), a.2, (bmk n D nx WG (hv (hv a.1 (fun p => -TT p) n) (wpl D PL (Int32.ofNat nx)) n) (n + 1 - nx)), 12))) else (bif xcmp .le (bc6 (hv (hv a.1 (fun p => -TT p) n) (wpl D PL (Int32.ofNat nx)) n)) 1 then ((a.1 &&& ((hv (hv a.1 (fun p => -TT p) n) (wpl D PL (Int32.ofNat nx)) n) ^^^ (-1))), a.2, (hv (hv a.1 (fun p => -TT p) n) (wpl D PL (Int32.ofNat nx)) n), 9) else (bif xcmp .le (bc6 (bmk n D nx WG (hv (hv a.1 (fun p => -TT p) n) (wpl D PL (Int32.ofNat nx)) n) (n + 1 - nx))) 1 then ((a.1 &&& ((bmk n D nx WG (hv (hv a.1 (fun p => -TT p) n) (wpl D PL (Int32.ofNat nx)) n) (n + 1 - nx)) ^^^ (-1))), a.2, (bmk n D nx WG (hv (hv a.1 (fun p => -TT p) n) (wpl D PL (Int32.ofNat nx)) n) (n + 1 - nx)), 11) else ((a.1 &&& ((bmk n D nx WG (hv (hv a.1 (fun p => -TT p) n) (wpl D PL (Int32.ofNat nx)) n) (n + 1 - nx)) ^^^ (-1))), a.2, (bmk n D nx WG (hv (hv a.1 (fun p => -TT p) n) (wpl D PL (Int32.ofNat nx)) n) (n + 1 - nx)), 12)))) else (bif xcmp .ne ((hv a.1 (fun p => -TT p) n) &&& (a.2 ||| (hv a.1 (fun p => -TT p) n))) 0 then (bif xcmp .le (bc6 (hv (hv a.1 (fun p => -TT p) n) (wpl D PL (Int32.ofNat nx)) n)) 1 then ((a.1 &&& ((hv (hv a.1 (fun p => -TT p) n) (wpl D PL (Int32.ofNat nx)) n) ^^^ (-1))), (a.2 ||| (hv a.1 (fun p => -TT p) n)), (hv (hv a.1 (fun p => -TT p) n) (wpl D PL (Int32.ofNat nx)) n), 10) else (bif xcmp .le (bc6 (bmk n D nx WG (hv (hv a.1 (fun p => -TT p) n) (wpl D PL (Int32.ofNat nx)) n) (n + 1 - nx))) 1 then ((a.1 &&& ((bmk n D nx WG (hv (hv a.1 (fun p => -TT p) n) (wpl D PL (Int32.ofNat nx)) n) (n + 1 - nx)) ^^^ (-1))), (a.2 ||| (hv a.1 (fun p => -TT p) n)), (bmk n D nx WG (hv (hv a.1 (fun p => -TT p) n) (wpl D PL (Int32.ofNat nx)) n) (n + 1 - nx)), 11) else ((a.1 &&& ((bmk n D nx WG (hv (hv a.1 (fun p => -TT p) n) (wpl D PL (Int32.ofNat nx)) n) (n + 1 - nx)) ^^^ (-1))), (a.2 ||| (hv a.1 (fun p => -TT p) n)), (bmk n D nx WG (hv (hv a.1 (fun p => -TT p) n) (wpl D PL (Int32.ofNat nx)) n) (n + 1 - nx)), 12))) else (bif xcmp .le (bc6 (hv (hv a.1 (fun p => -TT p) n) (wpl D PL (Int32.ofNat nx)) n)) 1 then ((a.1 &&& ((hv (hv a.1 (fun p => -TT p) n) (wpl D PL (Int32.ofNat nx)) n) ^^^ (-1))), (a.2 ||| (hv a.1 (fun p => -TT p) n)), (hv (hv a.1 (fun p => -TT p) n) (wpl D PL (Int32.ofNat nx)) n), 9) else (bif xcmp .le (bc6 (bmk n D nx WG (hv (hv a.1 (fun p => -TT p) n) (wpl D PL (Int32.ofNat nx)) n) (n + 1 - nx))) 1 then ((a.1 &&& ((bmk n D nx WG (hv (hv a.1 (fun p => -TT p) n) (wpl D PL (Int32.ofNat nx)) n) (n + 1 - nx)) ^^^ (-1))), (a.2 ||| (hv a.1 (fun p => -TT p) n)), (bmk n D nx WG (hv (hv a.1 (fun p => -TT p) n) (wpl D PL (Int32.ofNat nx)) n) (n + 1 - nx)), 11) else ((a.1 &&& ((bmk n D nx WG (hv (hv a.1 (fun p => -TT p) n) (wpl D PL (Int32.ofNat nx)) n) (n + 1 - nx)) ^^^ (-1))), (a.2 ||| (hv a.1 (fun p => -TT p) n)), (bmk n D nx WG (hv (hv a.1 (fun p => -TT p) n) (wpl D PL (Int32.ofNat nx)) n) (n + 1 - nx)), 12)))))
theorem pos_eq (n D : Nat) (TT : Nat → Int32) (PL : Nat → Nat → Int32) (WG : Nat → Nat → Nat → Int32) (nx : Nat) (a : Int32 × Int32) : pos n D TT PL WG nx a = (bif xcmp .le (bc6 (hv a.1 (fun p => -TT p) n)) 1 then (bif xcmp .ne ((hv a.1 (fun p => -TT p) n) &&& a.2) 0 then (bif xcmp .le (bc6 (hv (hv a.1 (fun p => -TT p) n) (wpl D PL (Int32.ofNat nx)) n)) 1 then ((a.1 &&& ((hv (hv a.1 (fun p => -TT p) n) (wpl D PL (Int32.ofNat nx)) n) ^^^ (-1))), a.2, (hv (hv a.1 (fun p => -TT p) n) (wpl D PL (Int32.ofNat nx)) n), 10) else (bif xcmp .le (bc6 (bmk n D nx WG (hv (hv a.1 (fun p => -TT p) n) (wpl D PL (Int32.ofNat nx)) n) (n + 1 - nx))) 1 then ((a.1 &&& ((bmk n D nx WG (hv (hv a.1 (fun p => -TT p) n) (wpl D PL (Int32.ofNat nx)) n) (n + 1 - nx)) ^^^ (-1))), a.2, (bmk n D nx WG (hv (hv a.1 (fun p => -TT p) n) (wpl D PL (Int32.ofNat nx)) n) (n + 1 - nx)), 11) else ((a.1 &&& ((bmk n D nx WG (hv (hv a.1 (fun p => -TT p) n) (wpl D PL (Int32.ofNat nx)) n) (n + 1 - nx)) ^^^ (-1))), a.2, (bmk n D nx WG (hv (hv a.1 (fun p => -TT p) n) (wpl D PL (Int32.ofNat nx)) n) (n + 1 - nx)), 12))) else (bif xcmp .le (bc6 (hv (hv a.1 (fun p => -TT p) n) (wpl D PL (Int32.ofNat nx)) n)) 1 then ((a.1 &&& ((hv (hv a.1 (fun p => -TT p) n) (wpl D PL (Int32.ofNat nx)) n) ^^^ (-1))), a.2, (hv (hv a.1 (fun p => -TT p) n) (wpl D PL (Int32.ofNat nx)) n), 9) else (bif xcmp .le (bc6 (bmk n D nx WG (hv (hv a.1 (fun p => -TT p) n) (wpl D PL (Int32.ofNat nx)) n) (n + 1 - nx))) 1 then ((a.1 &&& ((bmk n D nx WG (hv (hv a.1 (fun p => -TT p) n) (wpl D PL (Int32.ofNat nx)) n) (n + 1 - nx)) ^^^ (-1))), a.2, (bmk n D nx WG (hv (hv a.1 (fun p => -TT p) n) (wpl D PL (Int32.ofNat nx)) n) (n + 1 - nx)), 11) else ((a.1 &&& ((bmk n D nx WG (hv (hv a.1 (fun p => -TT p) n) (wpl D PL (Int32.ofNat nx)) n) (n + 1 - nx)) ^^^ (-1))), a.2, (bmk n D nx WG (hv (hv a.1 (fun p => -TT p) n) (wpl D PL (Int32.ofNat nx)) n) (n + 1 - nx)), 12)))) else (bif xcmp .ne ((hv a.1 (fun p => -TT p) n) &&& (a.2 ||| (hv a.1 (fun p => -TT p) n))) 0 then (bif xcmp .le (bc6 (hv (hv a.1 (fun p => -TT p) n) (wpl D PL (Int32.ofNat nx)) n)) 1 then ((a.1 &&& ((hv (hv a.1 (fun p => -TT p) n) (wpl D PL (Int32.ofNat nx)) n) ^^^ (-1))), (a.2 ||| (hv a.1 (fun p => -TT p) n)), (hv (hv a.1 (fun p => -TT p) n) (wpl D PL (Int32.ofNat nx)) n), 10) else (bif xcmp .le (bc6 (bmk n D nx WG (hv (hv a.1 (fun p => -TT p) n) (wpl D PL (Int32.ofNat nx)) n) (n + 1 - nx))) 1 then ((a.1 &&& ((bmk n D nx WG (hv (hv a.1 (fun p => -TT p) n) (wpl D PL (Int32.ofNat nx)) n) (n + 1 - nx)) ^^^ (-1))), (a.2 ||| (hv a.1 (fun p => -TT p) n)), (bmk n D nx WG (hv (hv a.1 (fun p => -TT p) n) (wpl D PL (Int32.ofNat nx)) n) (n + 1 - nx)), 11) else ((a.1 &&& ((bmk n D nx WG (hv (hv a.1 (fun p => -TT p) n) (wpl D PL (Int32.ofNat nx)) n) (n + 1 - nx)) ^^^ (-1))), (a.2 ||| (hv a.1 (fun p => -TT p) n)), (bmk n D nx WG (hv (hv a.1 (fun p => -TT p) n) (wpl D PL (Int32.ofNat nx)) n) (n + 1 - nx)), 12))) else (bif xcmp .le (bc6 (hv (hv a.1 (fun p => -TT p) n) (wpl D PL (Int32.ofNat nx)) n)) 1 then ((a.1 &&& ((hv (hv a.1 (fun p => -TT p) n) (wpl D PL (Int32.ofNat nx)) n) ^^^ (-1))), (a.2 ||| (hv a.1 (fun p => -TT p) n)), (hv (hv a.1 (fun p => -TT p) n) (wpl D PL (Int32.ofNat nx)) n), 9) else (bif xcmp .le (bc6 (bmk n D nx WG (hv (hv a.1 (fun p => -TT p) n) (wpl D PL (Int32.ofNat nx)) n) (n + 1 - nx))) 1 then ((a.1 &&& ((bmk n D nx WG (hv (hv a.1 (fun p => -TT p) n) (wpl D PL (Int32.ofNat nx)) n) (n + 1 - nx)) ^^^ (-1))), (a.2 ||| (hv a.1 (fun p => -TT p) n)), (bmk n D nx WG (hv (hv a.1 (fun p => -TT p) n) (wpl D PL (Int32.ofNat nx)) n) (n + 1 - nx)), 11) else ((a.1 &&& ((bmk n D nx WG (hv (hv a.1 (fun p => -TT p) n) (wpl D PL (Int32.ofNat nx)) n) (n + 1 - nx)) ^^^ (-1))), (a.2 ||| (hv a.1 (fun p => -TT p) n)), (bmk n D nx WG (hv (hv a.1 (fun p => -TT p) n) (wpl D PL (Int32.ofNat nx)) n) (n + 1 - nx)), 12))))) := rfl
/-- the places of some are given -/
def poE (g v : Int32) (E : Nat → Int32) (p : Nat) : Int32 := bif xcmp .eq (hd g (Int32.ofNat p)) 0 then E p else v
def poR (n D : Nat) (TT : Nat → Int32) (PL : Nat → Nat → Int32) (WG : Nat → Nat → Nat → Int32) : Nat → Nat → Int32 × Int32 → (Nat → Int32) × (Nat → Int32) → (Nat → Int32) × (Nat → Int32)
  | 0, _, _, e => e
  | m + 1, nx, a, e => bif xcmp .eq a.1 0 then e else
    poR n D TT PL WG m (nx + bcN (pos n D TT PL WG nx a).2.2.1) ((pos n D TT PL WG nx a).1, (pos n D TT PL WG nx a).2.1) (poE (pos n D TT PL WG nx a).2.2.1 (2 * Int32.ofNat nx + bc6 (pos n D TT PL WG nx a).2.2.1 - 1) e.1, poE (pos n D TT PL WG nx a).2.2.1 (pos n D TT PL WG nx a).2.2.2 e.2)
theorem poR_0 {n D : Nat} {TT : Nat → Int32} {PL : Nat → Nat → Int32} {WG : Nat → Nat → Nat → Int32} {m nx : Nat} {l t : Int32} {e : (Nat → Int32) × (Nat → Int32)} (hl : xcmp .eq l 0 = true) : poR n D TT PL WG m nx (l, t) e = e := by
  cases m with
  | zero => rfl
  | succ m =>
    show (bif xcmp .eq l 0 then e else _) = e
    rw [hl]
    rfl
theorem poR_s {n D : Nat} {TT : Nat → Int32} {PL : Nat → Nat → Int32} {WG : Nat → Nat → Nat → Int32} {m nx : Nat} {l t : Int32} {e : (Nat → Int32) × (Nat → Int32)} (hl : xcmp .eq l 0 = false) : poR n D TT PL WG (m + 1) nx (l, t) e = poR n D TT PL WG m (nx + bcN (pos n D TT PL WG nx (l, t)).2.2.1) ((pos n D TT PL WG nx (l, t)).1, (pos n D TT PL WG nx (l, t)).2.1) (poE (pos n D TT PL WG nx (l, t)).2.2.1 (2 * Int32.ofNat nx + bc6 (pos n D TT PL WG nx (l, t)).2.2.1 - 1) e.1, poE (pos n D TT PL WG nx (l, t)).2.2.1 (pos n D TT PL WG nx (l, t)).2.2.2 e.2) := by
  show (bif xcmp .eq l 0 then e else _) = _
  rw [hl]
  rfl
theorem lz_po {S n D : Nat} {TT : Nat → Int32} {PL : Nat → Nat → Int32} {WG : Nat → Nat → Nat → Int32} (hS : yss S) (hn : n ≤ 8) (hD : D ≤ 5) (hz : s S 0 = Int32.ofNat n) (hD1 : s S 1 = Int32.ofNat D) (hTT : ∀ p, p < n → s (S + 6) p = TT p) (hPL : ∀ d p, d < D → p < n → s (S + 2) (d * 8 + p) = PL d p) (hWG : ∀ d p q, d < D → p < n → 1 ≤ q → q ≤ n → s (S + 15) ((d * 8 + p) * 9 + q) = WG d p q) :
    ∀ (m i nx : Nat) (l t : Int32) (E R : Nat → Int32) (T : yS), i + m = n → 1 ≤ nx → nx ≤ 1 + 63 * i → (∀ k, k ≠ S + 8 → k ≠ S + 10 → k ≠ S + 21 → T k = s k) → (∀ p, p < n → T (S + 8) p = E p) → (∀ p, p < n → T (S + 10) p = R p) →
    (∀ T' : yS, (∀ k, k ≠ S + 8 → k ≠ S + 10 → k ≠ S + 21 → T' k = s k) → (∀ p, p < n → T' (S + 8) p = (poR n D TT PL WG m nx (l, t) (E, R)).1 p) → (∀ p, p < n → T' (S + 10) p = (poR n D TT PL WG m nx (l, t) (E, R)).2 p) → Φ none T') →
    Yp sd 31 16 [(0, .ref S), (1, .int l), (2, .int t), (3, .int (Int32.ofNat nx)), (4, .int (Int32.ofNat i))] [] T Φ := by
  rcases hS with rfl | rfl
  · have hz : s 30 0 = Int32.ofNat n := hz
    have hD1 : s 30 1 = Int32.ofNat D := hD1
    intro m
    induction m with
    | zero =>
      intro i nx l t E R T hi h1x h2x fr hE hR kk
      have hzT : T 30 0 = Int32.ofNat n := (congrFun (fr _ (by decide) (by decide) (by decide)) 0).trans hz
      refine yp_run 3 (pc' := 22) (lv' := [(0, .ref 30), (1, .int l), (2, .int t), (3, .int (Int32.ofNat nx)), (4, .int (Int32.ofNat i))]) (st' := [.int (T 30 0), .int (Int32.ofNat i)]) (s' := T) rfl ?_
      refine yp_icmp rfl rfl (fun h => ?_) (fun h => ?_)
      · refine yp_sel [] ?_
        refine yp_rv rfl rfl ?_
        exact kk T fr hE hR
      · have h := xN (xc_ge _ _) h
        rw [hzT, i32_to (by omega), i32_to (by omega)] at h
        omega
    | succ m ih =>
      intro i nx l t E R T hi h1x h2x fr hE hR kk
      have hzT : T 30 0 = Int32.ofNat n := (congrFun (fr _ (by decide) (by decide) (by decide)) 0).trans hz
      refine yp_run 3 (pc' := 22) (lv' := [(0, .ref 30), (1, .int l), (2, .int t), (3, .int (Int32.ofNat nx)), (4, .int (Int32.ofNat i))]) (st' := [.int (T 30 0), .int (Int32.ofNat i)]) (s' := T) rfl ?_
      refine yp_icmp rfl rfl (fun h => ?_) (fun h => ?_)
      · have h := xT (xc_ge _ _) h
        rw [hzT, i32_to (by omega), i32_to (by omega)] at h
        omega
      · refine yp_run 1 (pc' := 26) (lv' := [(0, .ref 30), (1, .int l), (2, .int t), (3, .int (Int32.ofNat nx)), (4, .int (Int32.ofNat i))]) (st' := [.int l]) (s' := T) rfl ?_
        refine yp_if rfl rfl (fun h26 => ?_) (fun h26 => ?_)
        · refine yp_sel [] ?_
          refine yp_rv rfl rfl ?_
          exact kk T fr (fun p hp => by rw [poR_0 h26]; exact hE p hp) (fun p hp => by rw [poR_0 h26]; exact hR p hp)
        · refine yp_run 2 (pc' := 31) (lv' := [(0, .ref 30), (1, .int l), (2, .int t), (3, .int (Int32.ofNat nx)), (4, .int (Int32.ofNat i))]) (st' := [.int l, .ref 30]) (s' := T) rfl ?_
          have u0 : T 30 0 = Int32.ofNat n := (congrFun (fr _ (by decide) (by decide) (by decide)) 0).trans hz
          have u1 : T 30 1 = Int32.ofNat D := (congrFun (fr _ (by decide) (by decide) (by decide)) 1).trans hD1
          refine yp_vi rfl rfl rfl rfl (c_btot (TT := TT) (by decide) hn u0 (fun p hp => (congrFun (fr _ (by decide) (by decide) (by decide)) p).trans (hTT p hp)) ?_)
          obtain ⟨T1, hT1⟩ : ∃ X, X = wr T 51 0 n (fun p => -TT p) := ⟨_, rfl⟩
          rw [← hT1]
          have f1 : ∀ k, k ≠ 51 → T1 k = T k := fun k q => by rw [hT1]; exact wr_ne q
          refine yp_run 2 (pc' := 38) (lv' := [(0, .ref 30), (1, .int l), (2, .int t), (3, .int (Int32.ofNat nx)), (4, .int (Int32.ofNat i)), (5, .int (hv l (fun p => -TT p) n))]) (st' := [.int (hv l (fun p => -TT p) n)]) (s' := T1) rfl ?_
          refine yp_st rfl rfl (c_bits ?_)
          refine yp_run 1 (pc' := 42) (lv' := [(0, .ref 30), (1, .int l), (2, .int t), (3, .int (Int32.ofNat nx)), (4, .int (Int32.ofNat i)), (5, .int (hv l (fun p => -TT p) n))]) (st' := [.int 1, .int (bc6 (hv l (fun p => -TT p) n))]) (s' := T1) rfl ?_
          refine yp_icmp rfl rfl (fun h42 => ?_) (fun h42 => ?_)
          · refine yp_run 3 (pc' := 54) (lv' := [(0, .ref 30), (1, .int l), (2, .int t), (3, .int (Int32.ofNat nx)), (4, .int (Int32.ofNat i)), (5, .int (hv l (fun p => -TT p) n))]) (st' := [.int ((hv l (fun p => -TT p) n) &&& t)]) (s' := T1) rfl ?_
            refine yp_if rfl rfl (fun h54 => ?_) (fun h54 => ?_)
            · refine yp_run 5 (pc' := 70) (lv' := [(0, .ref 30), (1, .int l), (2, .int t), (3, .int (Int32.ofNat nx)), (4, .int (Int32.ofNat i)), (5, .int (hv l (fun p => -TT p) n)), (6, .int 10)]) (st' := [.int (Int32.ofNat nx), .int (hv l (fun p => -TT p) n), .ref 30]) (s' := T1) rfl ?_
              have v0 : T1 30 0 = Int32.ofNat n := (congrFun (f1 _ (by decide)) 0).trans u0
              have v1 : T1 30 1 = Int32.ofNat D := (congrFun (f1 _ (by decide)) 1).trans u1
              refine yp_vi rfl rfl rfl rfl (c_bplc (PL := PL) (by decide) hn hD v0 v1 (fun d p h1 h2 => (congrFun ((f1 _ (by decide)).trans (fr _ (by decide) (by decide) (by decide))) _).trans (hPL d p h1 h2)) ?_)
              obtain ⟨T2, hT2⟩ : ∃ X, X = wr T1 51 0 n (wpl D PL (Int32.ofNat nx)) := ⟨_, rfl⟩
              rw [← hT2]
              have f2 : ∀ k, k ≠ 51 → T2 k = T k := fun k q => by rw [hT2]; exact (wr_ne q).trans (f1 k q)
              refine yp_run 2 (pc' := 77) (lv' := [(0, .ref 30), (1, .int l), (2, .int t), (3, .int (Int32.ofNat nx)), (4, .int (Int32.ofNat i)), (5, .int (hv (hv l (fun p => -TT p) n) (wpl D PL (Int32.ofNat nx)) n)), (6, .int 10)]) (st' := [.int (hv (hv l (fun p => -TT p) n) (wpl D PL (Int32.ofNat nx)) n)]) (s' := T2) rfl ?_
              refine yp_st rfl rfl (c_bits ?_)
              refine yp_run 1 (pc' := 81) (lv' := [(0, .ref 30), (1, .int l), (2, .int t), (3, .int (Int32.ofNat nx)), (4, .int (Int32.ofNat i)), (5, .int (hv (hv l (fun p => -TT p) n) (wpl D PL (Int32.ofNat nx)) n)), (6, .int 10)]) (st' := [.int 1, .int (bc6 (hv (hv l (fun p => -TT p) n) (wpl D PL (Int32.ofNat nx)) n))]) (s' := T2) rfl ?_
              refine yp_icmp rfl rfl (fun h81 => ?_) (fun h81 => ?_)
              · refine yp_run 4 (pc' := 117) (lv' := [(0, .ref 30), (1, .int l), (2, .int t), (3, .int (Int32.ofNat nx)), (4, .int (Int32.ofNat i)), (5, .int (hv (hv l (fun p => -TT p) n) (wpl D PL (Int32.ofNat nx)) n)), (6, .int 10)]) (st' := [.int 10, .int (Int32.ofNat nx), .int (hv (hv l (fun p => -TT p) n) (wpl D PL (Int32.ofNat nx)) n), .ref 30]) (s' := T2) rfl ?_
                have y0 : T2 30 0 = Int32.ofNat n := (congrFun (f2 _ (by decide)) 0).trans u0
                refine yp_vi rfl rfl rfl rfl (c_take (w := 10) (by decide) hn y0 ?_)
                obtain ⟨T4, hT4⟩ : ∃ X, X = tkSt T2 30 (hv (hv l (fun p => -TT p) n) (wpl D PL (Int32.ofNat nx)) n) (2 * (Int32.ofNat nx) + bc6 (hv (hv l (fun p => -TT p) n) (wpl D PL (Int32.ofNat nx)) n) - 1) 10 n := ⟨_, rfl⟩
                rw [← hT4]
                have g4 : ∀ k, k ≠ 38 → k ≠ 40 → k ≠ 51 → T4 k = s k := fun k a b c => by rw [hT4]; exact (tkSt_ne a b).trans ((f2 k c).trans (fr k a b c))
                have gE : ∀ p, p < n → T4 38 p = bif xcmp .eq (hd (hv (hv l (fun p => -TT p) n) (wpl D PL (Int32.ofNat nx)) n) (Int32.ofNat p)) 0 then E p else 2 * Int32.ofNat nx + bc6 (hv (hv l (fun p => -TT p) n) (wpl D PL (Int32.ofNat nx)) n) - 1 := fun p hp => by
                  rw [hT4]
                  unfold tkSt
                  rw [wr_ne (by decide), wr_in (Nat.zero_le _) hp]
                  unfold tkf
                  rw [show T2 (30 + 8) p = E p from (congrFun (f2 _ (by decide)) p).trans (hE p hp)]
                have gR : ∀ p, p < n → T4 40 p = bif xcmp .eq (hd (hv (hv l (fun p => -TT p) n) (wpl D PL (Int32.ofNat nx)) n) (Int32.ofNat p)) 0 then R p else 10 := fun p hp => by
                  rw [hT4]
                  unfold tkSt
                  rw [show 40 = 30 + 10 from rfl, wr_in (Nat.zero_le _) hp]
                  unfold tkf
                  rw [show T2 (30 + 10) p = R p from (congrFun (f2 _ (by decide)) p).trans (hR p hp)]
                refine yp_run 2 (pc' := 123) (lv' := [(0, .ref 30), (1, .int l), (2, .int t), (3, .int (Int32.ofNat nx)), (4, .int (Int32.ofNat i)), (5, .int (hv (hv l (fun p => -TT p) n) (wpl D PL (Int32.ofNat nx)) n)), (6, .int 10)]) (st' := [.int (hv (hv l (fun p => -TT p) n) (wpl D PL (Int32.ofNat nx)) n), .int (Int32.ofNat nx)]) (s' := T4) rfl ?_
                refine yp_st rfl rfl (c_bits ?_)
                refine yp_run 10 (pc' := 16) (lv' := [(0, .ref 30), (1, .int (l &&& ((hv (hv l (fun p => -TT p) n) (wpl D PL (Int32.ofNat nx)) n) ^^^ (-1)))), (2, .int t), (3, .int ((Int32.ofNat nx) + (bc6 (hv (hv l (fun p => -TT p) n) (wpl D PL (Int32.ofNat nx)) n)))), (4, .int ((Int32.ofNat i) + 1)), (5, .int (hv (hv l (fun p => -TT p) n) (wpl D PL (Int32.ofNat nx)) n)), (6, .int 10)]) (st' := []) (s' := T4) rfl ?_
                have e9 : pos n D TT PL WG nx (l, t) = ((l &&& ((hv (hv l (fun p => -TT p) n) (wpl D PL (Int32.ofNat nx)) n) ^^^ (-1))), t, (hv (hv l (fun p => -TT p) n) (wpl D PL (Int32.ofNat nx)) n), 10) := by
                  refine (pos_eq n D TT PL WG nx (l, t)).trans ?_
                  simp only [h42, h54, h81, cond_true, cond_false]
                have e7 := bcN_ok (hv (hv l (fun p => -TT p) n) (wpl D PL (Int32.ofNat nx)) n)
                have e6 := bcN_le (hv (hv l (fun p => -TT p) n) (wpl D PL (Int32.ofNat nx)) n)
                rw [i32_s, show Int32.ofNat nx + bc6 (hv (hv l (fun p => -TT p) n) (wpl D PL (Int32.ofNat nx)) n) = Int32.ofNat (nx + bcN (hv (hv l (fun p => -TT p) n) (wpl D PL (Int32.ofNat nx)) n)) from by rw [e7, Int32.ofNat_add]]
                refine yp_sel [0, 1, 2, 3, 4] ?_
                refine ih (i + 1) (nx + bcN (hv (hv l (fun p => -TT p) n) (wpl D PL (Int32.ofNat nx)) n)) _ _ _ _ T4 (by omega) (by omega) (by omega) g4 gE gR (fun T9 a1 a2 a3 => kk T9 a1 ?_ ?_)
                · intro p hp
                  rw [a2 p hp]
                  refine congrFun (congrArg Prod.fst ?_) p
                  refine Eq.symm ?_
                  refine (poR_s (hl := h26)).trans ?_
                  rw [e9]
                  rfl
                · intro p hp
                  rw [a3 p hp]
                  refine congrFun (congrArg Prod.snd ?_) p
                  refine Eq.symm ?_
                  refine (poR_s (hl := h26)).trans ?_
                  rw [e9]
                  rfl
              · refine yp_run 3 (pc' := 88) (lv' := [(0, .ref 30), (1, .int l), (2, .int t), (3, .int (Int32.ofNat nx)), (4, .int (Int32.ofNat i)), (5, .int (hv (hv l (fun p => -TT p) n) (wpl D PL (Int32.ofNat nx)) n)), (6, .int 10)]) (st' := [.int (Int32.ofNat nx), .int (hv (hv l (fun p => -TT p) n) (wpl D PL (Int32.ofNat nx)) n), .ref 30]) (s' := T2) rfl ?_
                have v0 : T2 30 0 = Int32.ofNat n := (congrFun (f2 _ (by decide)) 0).trans u0
                have v1 : T2 30 1 = Int32.ofNat D := (congrFun (f2 _ (by decide)) 1).trans u1
                refine yp_vi rfl rfl rfl rfl (c_bmrk (WG := WG) (by decide) hn hD h1x (by omega) v0 v1 (fun d p q h1 h2 h3 h4 => (congrFun ((f2 _ (by decide)).trans (fr _ (by decide) (by decide) (by decide))) _).trans (hWG d p q h1 h2 h3 h4)) ?_)
                obtain ⟨T3, hT3⟩ : ∃ X, X = bmSt T2 30 n D nx WG (n + 1 - nx) := ⟨_, rfl⟩
                rw [← hT3]
                have f3 : ∀ k, k ≠ 51 → T3 k = T k := fun k q => by rw [hT3]; exact (bmSt_ne q).trans (f2 k q)
                refine yp_run 2 (pc' := 95) (lv' := [(0, .ref 30), (1, .int l), (2, .int t), (3, .int (Int32.ofNat nx)), (4, .int (Int32.ofNat i)), (5, .int (bmk n D nx WG (hv (hv l (fun p => -TT p) n) (wpl D PL (Int32.ofNat nx)) n) (n + 1 - nx))), (6, .int 10)]) (st' := [.int (bmk n D nx WG (hv (hv l (fun p => -TT p) n) (wpl D PL (Int32.ofNat nx)) n) (n + 1 - nx))]) (s' := T3) rfl ?_
                refine yp_st rfl rfl (c_bits ?_)
                refine yp_run 1 (pc' := 99) (lv' := [(0, .ref 30), (1, .int l), (2, .int t), (3, .int (Int32.ofNat nx)), (4, .int (Int32.ofNat i)), (5, .int (bmk n D nx WG (hv (hv l (fun p => -TT p) n) (wpl D PL (Int32.ofNat nx)) n) (n + 1 - nx))), (6, .int 10)]) (st' := [.int 1, .int (bc6 (bmk n D nx WG (hv (hv l (fun p => -TT p) n) (wpl D PL (Int32.ofNat nx)) n) (n + 1 - nx)))]) (s' := T3) rfl ?_
                refine yp_icmp rfl rfl (fun h99 => ?_) (fun h99 => ?_)
                · refine yp_run 6 (pc' := 117) (lv' := [(0, .ref 30), (1, .int l), (2, .int t), (3, .int (Int32.ofNat nx)), (4, .int (Int32.ofNat i)), (5, .int (bmk n D nx WG (hv (hv l (fun p => -TT p) n) (wpl D PL (Int32.ofNat nx)) n) (n + 1 - nx))), (6, .int 11)]) (st' := [.int 11, .int (Int32.ofNat nx), .int (bmk n D nx WG (hv (hv l (fun p => -TT p) n) (wpl D PL (Int32.ofNat nx)) n) (n + 1 - nx)), .ref 30]) (s' := T3) rfl ?_
                  have y0 : T3 30 0 = Int32.ofNat n := (congrFun (f3 _ (by decide)) 0).trans u0
                  refine yp_vi rfl rfl rfl rfl (c_take (w := 11) (by decide) hn y0 ?_)
                  obtain ⟨T4, hT4⟩ : ∃ X, X = tkSt T3 30 (bmk n D nx WG (hv (hv l (fun p => -TT p) n) (wpl D PL (Int32.ofNat nx)) n) (n + 1 - nx)) (2 * (Int32.ofNat nx) + bc6 (bmk n D nx WG (hv (hv l (fun p => -TT p) n) (wpl D PL (Int32.ofNat nx)) n) (n + 1 - nx)) - 1) 11 n := ⟨_, rfl⟩
                  rw [← hT4]
                  have g4 : ∀ k, k ≠ 38 → k ≠ 40 → k ≠ 51 → T4 k = s k := fun k a b c => by rw [hT4]; exact (tkSt_ne a b).trans ((f3 k c).trans (fr k a b c))
                  have gE : ∀ p, p < n → T4 38 p = bif xcmp .eq (hd (bmk n D nx WG (hv (hv l (fun p => -TT p) n) (wpl D PL (Int32.ofNat nx)) n) (n + 1 - nx)) (Int32.ofNat p)) 0 then E p else 2 * Int32.ofNat nx + bc6 (bmk n D nx WG (hv (hv l (fun p => -TT p) n) (wpl D PL (Int32.ofNat nx)) n) (n + 1 - nx)) - 1 := fun p hp => by
                    rw [hT4]
                    unfold tkSt
                    rw [wr_ne (by decide), wr_in (Nat.zero_le _) hp]
                    unfold tkf
                    rw [show T3 (30 + 8) p = E p from (congrFun (f3 _ (by decide)) p).trans (hE p hp)]
                  have gR : ∀ p, p < n → T4 40 p = bif xcmp .eq (hd (bmk n D nx WG (hv (hv l (fun p => -TT p) n) (wpl D PL (Int32.ofNat nx)) n) (n + 1 - nx)) (Int32.ofNat p)) 0 then R p else 11 := fun p hp => by
                    rw [hT4]
                    unfold tkSt
                    rw [show 40 = 30 + 10 from rfl, wr_in (Nat.zero_le _) hp]
                    unfold tkf
                    rw [show T3 (30 + 10) p = R p from (congrFun (f3 _ (by decide)) p).trans (hR p hp)]
                  refine yp_run 2 (pc' := 123) (lv' := [(0, .ref 30), (1, .int l), (2, .int t), (3, .int (Int32.ofNat nx)), (4, .int (Int32.ofNat i)), (5, .int (bmk n D nx WG (hv (hv l (fun p => -TT p) n) (wpl D PL (Int32.ofNat nx)) n) (n + 1 - nx))), (6, .int 11)]) (st' := [.int (bmk n D nx WG (hv (hv l (fun p => -TT p) n) (wpl D PL (Int32.ofNat nx)) n) (n + 1 - nx)), .int (Int32.ofNat nx)]) (s' := T4) rfl ?_
                  refine yp_st rfl rfl (c_bits ?_)
                  refine yp_run 10 (pc' := 16) (lv' := [(0, .ref 30), (1, .int (l &&& ((bmk n D nx WG (hv (hv l (fun p => -TT p) n) (wpl D PL (Int32.ofNat nx)) n) (n + 1 - nx)) ^^^ (-1)))), (2, .int t), (3, .int ((Int32.ofNat nx) + (bc6 (bmk n D nx WG (hv (hv l (fun p => -TT p) n) (wpl D PL (Int32.ofNat nx)) n) (n + 1 - nx))))), (4, .int ((Int32.ofNat i) + 1)), (5, .int (bmk n D nx WG (hv (hv l (fun p => -TT p) n) (wpl D PL (Int32.ofNat nx)) n) (n + 1 - nx))), (6, .int 11)]) (st' := []) (s' := T4) rfl ?_
                  have e9 : pos n D TT PL WG nx (l, t) = ((l &&& ((bmk n D nx WG (hv (hv l (fun p => -TT p) n) (wpl D PL (Int32.ofNat nx)) n) (n + 1 - nx)) ^^^ (-1))), t, (bmk n D nx WG (hv (hv l (fun p => -TT p) n) (wpl D PL (Int32.ofNat nx)) n) (n + 1 - nx)), 11) := by
                    refine (pos_eq n D TT PL WG nx (l, t)).trans ?_
                    simp only [h42, h54, h81, h99, cond_true, cond_false]
                  have e7 := bcN_ok (bmk n D nx WG (hv (hv l (fun p => -TT p) n) (wpl D PL (Int32.ofNat nx)) n) (n + 1 - nx))
                  have e6 := bcN_le (bmk n D nx WG (hv (hv l (fun p => -TT p) n) (wpl D PL (Int32.ofNat nx)) n) (n + 1 - nx))
                  rw [i32_s, show Int32.ofNat nx + bc6 (bmk n D nx WG (hv (hv l (fun p => -TT p) n) (wpl D PL (Int32.ofNat nx)) n) (n + 1 - nx)) = Int32.ofNat (nx + bcN (bmk n D nx WG (hv (hv l (fun p => -TT p) n) (wpl D PL (Int32.ofNat nx)) n) (n + 1 - nx))) from by rw [e7, Int32.ofNat_add]]
                  refine yp_sel [0, 1, 2, 3, 4] ?_
                  refine ih (i + 1) (nx + bcN (bmk n D nx WG (hv (hv l (fun p => -TT p) n) (wpl D PL (Int32.ofNat nx)) n) (n + 1 - nx))) _ _ _ _ T4 (by omega) (by omega) (by omega) g4 gE gR (fun T9 a1 a2 a3 => kk T9 a1 ?_ ?_)
                  · intro p hp
                    rw [a2 p hp]
                    refine congrFun (congrArg Prod.fst ?_) p
                    refine Eq.symm ?_
                    refine (poR_s (hl := h26)).trans ?_
                    rw [e9]
                    rfl
                  · intro p hp
                    rw [a3 p hp]
                    refine congrFun (congrArg Prod.snd ?_) p
                    refine Eq.symm ?_
                    refine (poR_s (hl := h26)).trans ?_
                    rw [e9]
                    rfl
                · refine yp_run 7 (pc' := 117) (lv' := [(0, .ref 30), (1, .int l), (2, .int t), (3, .int (Int32.ofNat nx)), (4, .int (Int32.ofNat i)), (5, .int (bmk n D nx WG (hv (hv l (fun p => -TT p) n) (wpl D PL (Int32.ofNat nx)) n) (n + 1 - nx))), (6, .int 12)]) (st' := [.int 12, .int (Int32.ofNat nx), .int (bmk n D nx WG (hv (hv l (fun p => -TT p) n) (wpl D PL (Int32.ofNat nx)) n) (n + 1 - nx)), .ref 30]) (s' := T3) rfl ?_
                  have y0 : T3 30 0 = Int32.ofNat n := (congrFun (f3 _ (by decide)) 0).trans u0
                  refine yp_vi rfl rfl rfl rfl (c_take (w := 12) (by decide) hn y0 ?_)
                  obtain ⟨T4, hT4⟩ : ∃ X, X = tkSt T3 30 (bmk n D nx WG (hv (hv l (fun p => -TT p) n) (wpl D PL (Int32.ofNat nx)) n) (n + 1 - nx)) (2 * (Int32.ofNat nx) + bc6 (bmk n D nx WG (hv (hv l (fun p => -TT p) n) (wpl D PL (Int32.ofNat nx)) n) (n + 1 - nx)) - 1) 12 n := ⟨_, rfl⟩
                  rw [← hT4]
                  have g4 : ∀ k, k ≠ 38 → k ≠ 40 → k ≠ 51 → T4 k = s k := fun k a b c => by rw [hT4]; exact (tkSt_ne a b).trans ((f3 k c).trans (fr k a b c))
                  have gE : ∀ p, p < n → T4 38 p = bif xcmp .eq (hd (bmk n D nx WG (hv (hv l (fun p => -TT p) n) (wpl D PL (Int32.ofNat nx)) n) (n + 1 - nx)) (Int32.ofNat p)) 0 then E p else 2 * Int32.ofNat nx + bc6 (bmk n D nx WG (hv (hv l (fun p => -TT p) n) (wpl D PL (Int32.ofNat nx)) n) (n + 1 - nx)) - 1 := fun p hp => by
                    rw [hT4]
                    unfold tkSt
                    rw [wr_ne (by decide), wr_in (Nat.zero_le _) hp]
                    unfold tkf
                    rw [show T3 (30 + 8) p = E p from (congrFun (f3 _ (by decide)) p).trans (hE p hp)]
                  have gR : ∀ p, p < n → T4 40 p = bif xcmp .eq (hd (bmk n D nx WG (hv (hv l (fun p => -TT p) n) (wpl D PL (Int32.ofNat nx)) n) (n + 1 - nx)) (Int32.ofNat p)) 0 then R p else 12 := fun p hp => by
                    rw [hT4]
                    unfold tkSt
                    rw [show 40 = 30 + 10 from rfl, wr_in (Nat.zero_le _) hp]
                    unfold tkf
                    rw [show T3 (30 + 10) p = R p from (congrFun (f3 _ (by decide)) p).trans (hR p hp)]
                  refine yp_run 2 (pc' := 123) (lv' := [(0, .ref 30), (1, .int l), (2, .int t), (3, .int (Int32.ofNat nx)), (4, .int (Int32.ofNat i)), (5, .int (bmk n D nx WG (hv (hv l (fun p => -TT p) n) (wpl D PL (Int32.ofNat nx)) n) (n + 1 - nx))), (6, .int 12)]) (st' := [.int (bmk n D nx WG (hv (hv l (fun p => -TT p) n) (wpl D PL (Int32.ofNat nx)) n) (n + 1 - nx)), .int (Int32.ofNat nx)]) (s' := T4) rfl ?_
                  refine yp_st rfl rfl (c_bits ?_)
                  refine yp_run 10 (pc' := 16) (lv' := [(0, .ref 30), (1, .int (l &&& ((bmk n D nx WG (hv (hv l (fun p => -TT p) n) (wpl D PL (Int32.ofNat nx)) n) (n + 1 - nx)) ^^^ (-1)))), (2, .int t), (3, .int ((Int32.ofNat nx) + (bc6 (bmk n D nx WG (hv (hv l (fun p => -TT p) n) (wpl D PL (Int32.ofNat nx)) n) (n + 1 - nx))))), (4, .int ((Int32.ofNat i) + 1)), (5, .int (bmk n D nx WG (hv (hv l (fun p => -TT p) n) (wpl D PL (Int32.ofNat nx)) n) (n + 1 - nx))), (6, .int 12)]) (st' := []) (s' := T4) rfl ?_
                  have e9 : pos n D TT PL WG nx (l, t) = ((l &&& ((bmk n D nx WG (hv (hv l (fun p => -TT p) n) (wpl D PL (Int32.ofNat nx)) n) (n + 1 - nx)) ^^^ (-1))), t, (bmk n D nx WG (hv (hv l (fun p => -TT p) n) (wpl D PL (Int32.ofNat nx)) n) (n + 1 - nx)), 12) := by
                    refine (pos_eq n D TT PL WG nx (l, t)).trans ?_
                    simp only [h42, h54, h81, h99, cond_true, cond_false]
                  have e7 := bcN_ok (bmk n D nx WG (hv (hv l (fun p => -TT p) n) (wpl D PL (Int32.ofNat nx)) n) (n + 1 - nx))
                  have e6 := bcN_le (bmk n D nx WG (hv (hv l (fun p => -TT p) n) (wpl D PL (Int32.ofNat nx)) n) (n + 1 - nx))
                  rw [i32_s, show Int32.ofNat nx + bc6 (bmk n D nx WG (hv (hv l (fun p => -TT p) n) (wpl D PL (Int32.ofNat nx)) n) (n + 1 - nx)) = Int32.ofNat (nx + bcN (bmk n D nx WG (hv (hv l (fun p => -TT p) n) (wpl D PL (Int32.ofNat nx)) n) (n + 1 - nx))) from by rw [e7, Int32.ofNat_add]]
                  refine yp_sel [0, 1, 2, 3, 4] ?_
                  refine ih (i + 1) (nx + bcN (bmk n D nx WG (hv (hv l (fun p => -TT p) n) (wpl D PL (Int32.ofNat nx)) n) (n + 1 - nx))) _ _ _ _ T4 (by omega) (by omega) (by omega) g4 gE gR (fun T9 a1 a2 a3 => kk T9 a1 ?_ ?_)
                  · intro p hp
                    rw [a2 p hp]
                    refine congrFun (congrArg Prod.fst ?_) p
                    refine Eq.symm ?_
                    refine (poR_s (hl := h26)).trans ?_
                    rw [e9]
                    rfl
                  · intro p hp
                    rw [a3 p hp]
                    refine congrFun (congrArg Prod.snd ?_) p
                    refine Eq.symm ?_
                    refine (poR_s (hl := h26)).trans ?_
                    rw [e9]
                    rfl
            · refine yp_run 6 (pc' := 70) (lv' := [(0, .ref 30), (1, .int l), (2, .int t), (3, .int (Int32.ofNat nx)), (4, .int (Int32.ofNat i)), (5, .int (hv l (fun p => -TT p) n)), (6, .int 9)]) (st' := [.int (Int32.ofNat nx), .int (hv l (fun p => -TT p) n), .ref 30]) (s' := T1) rfl ?_
              have v0 : T1 30 0 = Int32.ofNat n := (congrFun (f1 _ (by decide)) 0).trans u0
              have v1 : T1 30 1 = Int32.ofNat D := (congrFun (f1 _ (by decide)) 1).trans u1
              refine yp_vi rfl rfl rfl rfl (c_bplc (PL := PL) (by decide) hn hD v0 v1 (fun d p h1 h2 => (congrFun ((f1 _ (by decide)).trans (fr _ (by decide) (by decide) (by decide))) _).trans (hPL d p h1 h2)) ?_)
              obtain ⟨T2, hT2⟩ : ∃ X, X = wr T1 51 0 n (wpl D PL (Int32.ofNat nx)) := ⟨_, rfl⟩
              rw [← hT2]
              have f2 : ∀ k, k ≠ 51 → T2 k = T k := fun k q => by rw [hT2]; exact (wr_ne q).trans (f1 k q)
              refine yp_run 2 (pc' := 77) (lv' := [(0, .ref 30), (1, .int l), (2, .int t), (3, .int (Int32.ofNat nx)), (4, .int (Int32.ofNat i)), (5, .int (hv (hv l (fun p => -TT p) n) (wpl D PL (Int32.ofNat nx)) n)), (6, .int 9)]) (st' := [.int (hv (hv l (fun p => -TT p) n) (wpl D PL (Int32.ofNat nx)) n)]) (s' := T2) rfl ?_
              refine yp_st rfl rfl (c_bits ?_)
              refine yp_run 1 (pc' := 81) (lv' := [(0, .ref 30), (1, .int l), (2, .int t), (3, .int (Int32.ofNat nx)), (4, .int (Int32.ofNat i)), (5, .int (hv (hv l (fun p => -TT p) n) (wpl D PL (Int32.ofNat nx)) n)), (6, .int 9)]) (st' := [.int 1, .int (bc6 (hv (hv l (fun p => -TT p) n) (wpl D PL (Int32.ofNat nx)) n))]) (s' := T2) rfl ?_
              refine yp_icmp rfl rfl (fun h81 => ?_) (fun h81 => ?_)
              · refine yp_run 4 (pc' := 117) (lv' := [(0, .ref 30), (1, .int l), (2, .int t), (3, .int (Int32.ofNat nx)), (4, .int (Int32.ofNat i)), (5, .int (hv (hv l (fun p => -TT p) n) (wpl D PL (Int32.ofNat nx)) n)), (6, .int 9)]) (st' := [.int 9, .int (Int32.ofNat nx), .int (hv (hv l (fun p => -TT p) n) (wpl D PL (Int32.ofNat nx)) n), .ref 30]) (s' := T2) rfl ?_
                have y0 : T2 30 0 = Int32.ofNat n := (congrFun (f2 _ (by decide)) 0).trans u0
                refine yp_vi rfl rfl rfl rfl (c_take (w := 9) (by decide) hn y0 ?_)
                obtain ⟨T4, hT4⟩ : ∃ X, X = tkSt T2 30 (hv (hv l (fun p => -TT p) n) (wpl D PL (Int32.ofNat nx)) n) (2 * (Int32.ofNat nx) + bc6 (hv (hv l (fun p => -TT p) n) (wpl D PL (Int32.ofNat nx)) n) - 1) 9 n := ⟨_, rfl⟩
                rw [← hT4]
                have g4 : ∀ k, k ≠ 38 → k ≠ 40 → k ≠ 51 → T4 k = s k := fun k a b c => by rw [hT4]; exact (tkSt_ne a b).trans ((f2 k c).trans (fr k a b c))
                have gE : ∀ p, p < n → T4 38 p = bif xcmp .eq (hd (hv (hv l (fun p => -TT p) n) (wpl D PL (Int32.ofNat nx)) n) (Int32.ofNat p)) 0 then E p else 2 * Int32.ofNat nx + bc6 (hv (hv l (fun p => -TT p) n) (wpl D PL (Int32.ofNat nx)) n) - 1 := fun p hp => by
                  rw [hT4]
                  unfold tkSt
                  rw [wr_ne (by decide), wr_in (Nat.zero_le _) hp]
                  unfold tkf
                  rw [show T2 (30 + 8) p = E p from (congrFun (f2 _ (by decide)) p).trans (hE p hp)]
                have gR : ∀ p, p < n → T4 40 p = bif xcmp .eq (hd (hv (hv l (fun p => -TT p) n) (wpl D PL (Int32.ofNat nx)) n) (Int32.ofNat p)) 0 then R p else 9 := fun p hp => by
                  rw [hT4]
                  unfold tkSt
                  rw [show 40 = 30 + 10 from rfl, wr_in (Nat.zero_le _) hp]
                  unfold tkf
                  rw [show T2 (30 + 10) p = R p from (congrFun (f2 _ (by decide)) p).trans (hR p hp)]
                refine yp_run 2 (pc' := 123) (lv' := [(0, .ref 30), (1, .int l), (2, .int t), (3, .int (Int32.ofNat nx)), (4, .int (Int32.ofNat i)), (5, .int (hv (hv l (fun p => -TT p) n) (wpl D PL (Int32.ofNat nx)) n)), (6, .int 9)]) (st' := [.int (hv (hv l (fun p => -TT p) n) (wpl D PL (Int32.ofNat nx)) n), .int (Int32.ofNat nx)]) (s' := T4) rfl ?_
                refine yp_st rfl rfl (c_bits ?_)
                refine yp_run 10 (pc' := 16) (lv' := [(0, .ref 30), (1, .int (l &&& ((hv (hv l (fun p => -TT p) n) (wpl D PL (Int32.ofNat nx)) n) ^^^ (-1)))), (2, .int t), (3, .int ((Int32.ofNat nx) + (bc6 (hv (hv l (fun p => -TT p) n) (wpl D PL (Int32.ofNat nx)) n)))), (4, .int ((Int32.ofNat i) + 1)), (5, .int (hv (hv l (fun p => -TT p) n) (wpl D PL (Int32.ofNat nx)) n)), (6, .int 9)]) (st' := []) (s' := T4) rfl ?_
                have e9 : pos n D TT PL WG nx (l, t) = ((l &&& ((hv (hv l (fun p => -TT p) n) (wpl D PL (Int32.ofNat nx)) n) ^^^ (-1))), t, (hv (hv l (fun p => -TT p) n) (wpl D PL (Int32.ofNat nx)) n), 9) := by
                  refine (pos_eq n D TT PL WG nx (l, t)).trans ?_
                  simp only [h42, h54, h81, cond_true, cond_false]
                have e7 := bcN_ok (hv (hv l (fun p => -TT p) n) (wpl D PL (Int32.ofNat nx)) n)
                have e6 := bcN_le (hv (hv l (fun p => -TT p) n) (wpl D PL (Int32.ofNat nx)) n)
                rw [i32_s, show Int32.ofNat nx + bc6 (hv (hv l (fun p => -TT p) n) (wpl D PL (Int32.ofNat nx)) n) = Int32.ofNat (nx + bcN (hv (hv l (fun p => -TT p) n) (wpl D PL (Int32.ofNat nx)) n)) from by rw [e7, Int32.ofNat_add]]
                refine yp_sel [0, 1, 2, 3, 4] ?_
                refine ih (i + 1) (nx + bcN (hv (hv l (fun p => -TT p) n) (wpl D PL (Int32.ofNat nx)) n)) _ _ _ _ T4 (by omega) (by omega) (by omega) g4 gE gR (fun T9 a1 a2 a3 => kk T9 a1 ?_ ?_)
                · intro p hp
                  rw [a2 p hp]
                  refine congrFun (congrArg Prod.fst ?_) p
                  refine Eq.symm ?_
                  refine (poR_s (hl := h26)).trans ?_
                  rw [e9]
                  rfl
                · intro p hp
                  rw [a3 p hp]
                  refine congrFun (congrArg Prod.snd ?_) p
                  refine Eq.symm ?_
                  refine (poR_s (hl := h26)).trans ?_
                  rw [e9]
                  rfl
              · refine yp_run 3 (pc' := 88) (lv' := [(0, .ref 30), (1, .int l), (2, .int t), (3, .int (Int32.ofNat nx)), (4, .int (Int32.ofNat i)), (5, .int (hv (hv l (fun p => -TT p) n) (wpl D PL (Int32.ofNat nx)) n)), (6, .int 9)]) (st' := [.int (Int32.ofNat nx), .int (hv (hv l (fun p => -TT p) n) (wpl D PL (Int32.ofNat nx)) n), .ref 30]) (s' := T2) rfl ?_
                have v0 : T2 30 0 = Int32.ofNat n := (congrFun (f2 _ (by decide)) 0).trans u0
                have v1 : T2 30 1 = Int32.ofNat D := (congrFun (f2 _ (by decide)) 1).trans u1
                refine yp_vi rfl rfl rfl rfl (c_bmrk (WG := WG) (by decide) hn hD h1x (by omega) v0 v1 (fun d p q h1 h2 h3 h4 => (congrFun ((f2 _ (by decide)).trans (fr _ (by decide) (by decide) (by decide))) _).trans (hWG d p q h1 h2 h3 h4)) ?_)
                obtain ⟨T3, hT3⟩ : ∃ X, X = bmSt T2 30 n D nx WG (n + 1 - nx) := ⟨_, rfl⟩
                rw [← hT3]
                have f3 : ∀ k, k ≠ 51 → T3 k = T k := fun k q => by rw [hT3]; exact (bmSt_ne q).trans (f2 k q)
                refine yp_run 2 (pc' := 95) (lv' := [(0, .ref 30), (1, .int l), (2, .int t), (3, .int (Int32.ofNat nx)), (4, .int (Int32.ofNat i)), (5, .int (bmk n D nx WG (hv (hv l (fun p => -TT p) n) (wpl D PL (Int32.ofNat nx)) n) (n + 1 - nx))), (6, .int 9)]) (st' := [.int (bmk n D nx WG (hv (hv l (fun p => -TT p) n) (wpl D PL (Int32.ofNat nx)) n) (n + 1 - nx))]) (s' := T3) rfl ?_
                refine yp_st rfl rfl (c_bits ?_)
                refine yp_run 1 (pc' := 99) (lv' := [(0, .ref 30), (1, .int l), (2, .int t), (3, .int (Int32.ofNat nx)), (4, .int (Int32.ofNat i)), (5, .int (bmk n D nx WG (hv (hv l (fun p => -TT p) n) (wpl D PL (Int32.ofNat nx)) n) (n + 1 - nx))), (6, .int 9)]) (st' := [.int 1, .int (bc6 (bmk n D nx WG (hv (hv l (fun p => -TT p) n) (wpl D PL (Int32.ofNat nx)) n) (n + 1 - nx)))]) (s' := T3) rfl ?_
                refine yp_icmp rfl rfl (fun h99 => ?_) (fun h99 => ?_)
                · refine yp_run 6 (pc' := 117) (lv' := [(0, .ref 30), (1, .int l), (2, .int t), (3, .int (Int32.ofNat nx)), (4, .int (Int32.ofNat i)), (5, .int (bmk n D nx WG (hv (hv l (fun p => -TT p) n) (wpl D PL (Int32.ofNat nx)) n) (n + 1 - nx))), (6, .int 11)]) (st' := [.int 11, .int (Int32.ofNat nx), .int (bmk n D nx WG (hv (hv l (fun p => -TT p) n) (wpl D PL (Int32.ofNat nx)) n) (n + 1 - nx)), .ref 30]) (s' := T3) rfl ?_
                  have y0 : T3 30 0 = Int32.ofNat n := (congrFun (f3 _ (by decide)) 0).trans u0
                  refine yp_vi rfl rfl rfl rfl (c_take (w := 11) (by decide) hn y0 ?_)
                  obtain ⟨T4, hT4⟩ : ∃ X, X = tkSt T3 30 (bmk n D nx WG (hv (hv l (fun p => -TT p) n) (wpl D PL (Int32.ofNat nx)) n) (n + 1 - nx)) (2 * (Int32.ofNat nx) + bc6 (bmk n D nx WG (hv (hv l (fun p => -TT p) n) (wpl D PL (Int32.ofNat nx)) n) (n + 1 - nx)) - 1) 11 n := ⟨_, rfl⟩
                  rw [← hT4]
                  have g4 : ∀ k, k ≠ 38 → k ≠ 40 → k ≠ 51 → T4 k = s k := fun k a b c => by rw [hT4]; exact (tkSt_ne a b).trans ((f3 k c).trans (fr k a b c))
                  have gE : ∀ p, p < n → T4 38 p = bif xcmp .eq (hd (bmk n D nx WG (hv (hv l (fun p => -TT p) n) (wpl D PL (Int32.ofNat nx)) n) (n + 1 - nx)) (Int32.ofNat p)) 0 then E p else 2 * Int32.ofNat nx + bc6 (bmk n D nx WG (hv (hv l (fun p => -TT p) n) (wpl D PL (Int32.ofNat nx)) n) (n + 1 - nx)) - 1 := fun p hp => by
                    rw [hT4]
                    unfold tkSt
                    rw [wr_ne (by decide), wr_in (Nat.zero_le _) hp]
                    unfold tkf
                    rw [show T3 (30 + 8) p = E p from (congrFun (f3 _ (by decide)) p).trans (hE p hp)]
                  have gR : ∀ p, p < n → T4 40 p = bif xcmp .eq (hd (bmk n D nx WG (hv (hv l (fun p => -TT p) n) (wpl D PL (Int32.ofNat nx)) n) (n + 1 - nx)) (Int32.ofNat p)) 0 then R p else 11 := fun p hp => by
                    rw [hT4]
                    unfold tkSt
                    rw [show 40 = 30 + 10 from rfl, wr_in (Nat.zero_le _) hp]
                    unfold tkf
                    rw [show T3 (30 + 10) p = R p from (congrFun (f3 _ (by decide)) p).trans (hR p hp)]
                  refine yp_run 2 (pc' := 123) (lv' := [(0, .ref 30), (1, .int l), (2, .int t), (3, .int (Int32.ofNat nx)), (4, .int (Int32.ofNat i)), (5, .int (bmk n D nx WG (hv (hv l (fun p => -TT p) n) (wpl D PL (Int32.ofNat nx)) n) (n + 1 - nx))), (6, .int 11)]) (st' := [.int (bmk n D nx WG (hv (hv l (fun p => -TT p) n) (wpl D PL (Int32.ofNat nx)) n) (n + 1 - nx)), .int (Int32.ofNat nx)]) (s' := T4) rfl ?_
                  refine yp_st rfl rfl (c_bits ?_)
                  refine yp_run 10 (pc' := 16) (lv' := [(0, .ref 30), (1, .int (l &&& ((bmk n D nx WG (hv (hv l (fun p => -TT p) n) (wpl D PL (Int32.ofNat nx)) n) (n + 1 - nx)) ^^^ (-1)))), (2, .int t), (3, .int ((Int32.ofNat nx) + (bc6 (bmk n D nx WG (hv (hv l (fun p => -TT p) n) (wpl D PL (Int32.ofNat nx)) n) (n + 1 - nx))))), (4, .int ((Int32.ofNat i) + 1)), (5, .int (bmk n D nx WG (hv (hv l (fun p => -TT p) n) (wpl D PL (Int32.ofNat nx)) n) (n + 1 - nx))), (6, .int 11)]) (st' := []) (s' := T4) rfl ?_
                  have e9 : pos n D TT PL WG nx (l, t) = ((l &&& ((bmk n D nx WG (hv (hv l (fun p => -TT p) n) (wpl D PL (Int32.ofNat nx)) n) (n + 1 - nx)) ^^^ (-1))), t, (bmk n D nx WG (hv (hv l (fun p => -TT p) n) (wpl D PL (Int32.ofNat nx)) n) (n + 1 - nx)), 11) := by
                    refine (pos_eq n D TT PL WG nx (l, t)).trans ?_
                    simp only [h42, h54, h81, h99, cond_true, cond_false]
                  have e7 := bcN_ok (bmk n D nx WG (hv (hv l (fun p => -TT p) n) (wpl D PL (Int32.ofNat nx)) n) (n + 1 - nx))
                  have e6 := bcN_le (bmk n D nx WG (hv (hv l (fun p => -TT p) n) (wpl D PL (Int32.ofNat nx)) n) (n + 1 - nx))
                  rw [i32_s, show Int32.ofNat nx + bc6 (bmk n D nx WG (hv (hv l (fun p => -TT p) n) (wpl D PL (Int32.ofNat nx)) n) (n + 1 - nx)) = Int32.ofNat (nx + bcN (bmk n D nx WG (hv (hv l (fun p => -TT p) n) (wpl D PL (Int32.ofNat nx)) n) (n + 1 - nx))) from by rw [e7, Int32.ofNat_add]]
                  refine yp_sel [0, 1, 2, 3, 4] ?_
                  refine ih (i + 1) (nx + bcN (bmk n D nx WG (hv (hv l (fun p => -TT p) n) (wpl D PL (Int32.ofNat nx)) n) (n + 1 - nx))) _ _ _ _ T4 (by omega) (by omega) (by omega) g4 gE gR (fun T9 a1 a2 a3 => kk T9 a1 ?_ ?_)
                  · intro p hp
                    rw [a2 p hp]
                    refine congrFun (congrArg Prod.fst ?_) p
                    refine Eq.symm ?_
                    refine (poR_s (hl := h26)).trans ?_
                    rw [e9]
                    rfl
                  · intro p hp
                    rw [a3 p hp]
                    refine congrFun (congrArg Prod.snd ?_) p
                    refine Eq.symm ?_
                    refine (poR_s (hl := h26)).trans ?_
                    rw [e9]
                    rfl
                · refine yp_run 7 (pc' := 117) (lv' := [(0, .ref 30), (1, .int l), (2, .int t), (3, .int (Int32.ofNat nx)), (4, .int (Int32.ofNat i)), (5, .int (bmk n D nx WG (hv (hv l (fun p => -TT p) n) (wpl D PL (Int32.ofNat nx)) n) (n + 1 - nx))), (6, .int 12)]) (st' := [.int 12, .int (Int32.ofNat nx), .int (bmk n D nx WG (hv (hv l (fun p => -TT p) n) (wpl D PL (Int32.ofNat nx)) n) (n + 1 - nx)), .ref 30]) (s' := T3) rfl ?_
                  have y0 : T3 30 0 = Int32.ofNat n := (congrFun (f3 _ (by decide)) 0).trans u0
                  refine yp_vi rfl rfl rfl rfl (c_take (w := 12) (by decide) hn y0 ?_)
                  obtain ⟨T4, hT4⟩ : ∃ X, X = tkSt T3 30 (bmk n D nx WG (hv (hv l (fun p => -TT p) n) (wpl D PL (Int32.ofNat nx)) n) (n + 1 - nx)) (2 * (Int32.ofNat nx) + bc6 (bmk n D nx WG (hv (hv l (fun p => -TT p) n) (wpl D PL (Int32.ofNat nx)) n) (n + 1 - nx)) - 1) 12 n := ⟨_, rfl⟩
                  rw [← hT4]
                  have g4 : ∀ k, k ≠ 38 → k ≠ 40 → k ≠ 51 → T4 k = s k := fun k a b c => by rw [hT4]; exact (tkSt_ne a b).trans ((f3 k c).trans (fr k a b c))
                  have gE : ∀ p, p < n → T4 38 p = bif xcmp .eq (hd (bmk n D nx WG (hv (hv l (fun p => -TT p) n) (wpl D PL (Int32.ofNat nx)) n) (n + 1 - nx)) (Int32.ofNat p)) 0 then E p else 2 * Int32.ofNat nx + bc6 (bmk n D nx WG (hv (hv l (fun p => -TT p) n) (wpl D PL (Int32.ofNat nx)) n) (n + 1 - nx)) - 1 := fun p hp => by
                    rw [hT4]
                    unfold tkSt
                    rw [wr_ne (by decide), wr_in (Nat.zero_le _) hp]
                    unfold tkf
                    rw [show T3 (30 + 8) p = E p from (congrFun (f3 _ (by decide)) p).trans (hE p hp)]
                  have gR : ∀ p, p < n → T4 40 p = bif xcmp .eq (hd (bmk n D nx WG (hv (hv l (fun p => -TT p) n) (wpl D PL (Int32.ofNat nx)) n) (n + 1 - nx)) (Int32.ofNat p)) 0 then R p else 12 := fun p hp => by
                    rw [hT4]
                    unfold tkSt
                    rw [show 40 = 30 + 10 from rfl, wr_in (Nat.zero_le _) hp]
                    unfold tkf
                    rw [show T3 (30 + 10) p = R p from (congrFun (f3 _ (by decide)) p).trans (hR p hp)]
                  refine yp_run 2 (pc' := 123) (lv' := [(0, .ref 30), (1, .int l), (2, .int t), (3, .int (Int32.ofNat nx)), (4, .int (Int32.ofNat i)), (5, .int (bmk n D nx WG (hv (hv l (fun p => -TT p) n) (wpl D PL (Int32.ofNat nx)) n) (n + 1 - nx))), (6, .int 12)]) (st' := [.int (bmk n D nx WG (hv (hv l (fun p => -TT p) n) (wpl D PL (Int32.ofNat nx)) n) (n + 1 - nx)), .int (Int32.ofNat nx)]) (s' := T4) rfl ?_
                  refine yp_st rfl rfl (c_bits ?_)
                  refine yp_run 10 (pc' := 16) (lv' := [(0, .ref 30), (1, .int (l &&& ((bmk n D nx WG (hv (hv l (fun p => -TT p) n) (wpl D PL (Int32.ofNat nx)) n) (n + 1 - nx)) ^^^ (-1)))), (2, .int t), (3, .int ((Int32.ofNat nx) + (bc6 (bmk n D nx WG (hv (hv l (fun p => -TT p) n) (wpl D PL (Int32.ofNat nx)) n) (n + 1 - nx))))), (4, .int ((Int32.ofNat i) + 1)), (5, .int (bmk n D nx WG (hv (hv l (fun p => -TT p) n) (wpl D PL (Int32.ofNat nx)) n) (n + 1 - nx))), (6, .int 12)]) (st' := []) (s' := T4) rfl ?_
                  have e9 : pos n D TT PL WG nx (l, t) = ((l &&& ((bmk n D nx WG (hv (hv l (fun p => -TT p) n) (wpl D PL (Int32.ofNat nx)) n) (n + 1 - nx)) ^^^ (-1))), t, (bmk n D nx WG (hv (hv l (fun p => -TT p) n) (wpl D PL (Int32.ofNat nx)) n) (n + 1 - nx)), 12) := by
                    refine (pos_eq n D TT PL WG nx (l, t)).trans ?_
                    simp only [h42, h54, h81, h99, cond_true, cond_false]
                  have e7 := bcN_ok (bmk n D nx WG (hv (hv l (fun p => -TT p) n) (wpl D PL (Int32.ofNat nx)) n) (n + 1 - nx))
                  have e6 := bcN_le (bmk n D nx WG (hv (hv l (fun p => -TT p) n) (wpl D PL (Int32.ofNat nx)) n) (n + 1 - nx))
                  rw [i32_s, show Int32.ofNat nx + bc6 (bmk n D nx WG (hv (hv l (fun p => -TT p) n) (wpl D PL (Int32.ofNat nx)) n) (n + 1 - nx)) = Int32.ofNat (nx + bcN (bmk n D nx WG (hv (hv l (fun p => -TT p) n) (wpl D PL (Int32.ofNat nx)) n) (n + 1 - nx))) from by rw [e7, Int32.ofNat_add]]
                  refine yp_sel [0, 1, 2, 3, 4] ?_
                  refine ih (i + 1) (nx + bcN (bmk n D nx WG (hv (hv l (fun p => -TT p) n) (wpl D PL (Int32.ofNat nx)) n) (n + 1 - nx))) _ _ _ _ T4 (by omega) (by omega) (by omega) g4 gE gR (fun T9 a1 a2 a3 => kk T9 a1 ?_ ?_)
                  · intro p hp
                    rw [a2 p hp]
                    refine congrFun (congrArg Prod.fst ?_) p
                    refine Eq.symm ?_
                    refine (poR_s (hl := h26)).trans ?_
                    rw [e9]
                    rfl
                  · intro p hp
                    rw [a3 p hp]
                    refine congrFun (congrArg Prod.snd ?_) p
                    refine Eq.symm ?_
                    refine (poR_s (hl := h26)).trans ?_
                    rw [e9]
                    rfl
          · refine yp_run 7 (pc' := 54) (lv' := [(0, .ref 30), (1, .int l), (2, .int (t ||| (hv l (fun p => -TT p) n))), (3, .int (Int32.ofNat nx)), (4, .int (Int32.ofNat i)), (5, .int (hv l (fun p => -TT p) n))]) (st' := [.int ((hv l (fun p => -TT p) n) &&& (t ||| (hv l (fun p => -TT p) n)))]) (s' := T1) rfl ?_
            refine yp_if rfl rfl (fun h54 => ?_) (fun h54 => ?_)
            · refine yp_run 5 (pc' := 70) (lv' := [(0, .ref 30), (1, .int l), (2, .int (t ||| (hv l (fun p => -TT p) n))), (3, .int (Int32.ofNat nx)), (4, .int (Int32.ofNat i)), (5, .int (hv l (fun p => -TT p) n)), (6, .int 10)]) (st' := [.int (Int32.ofNat nx), .int (hv l (fun p => -TT p) n), .ref 30]) (s' := T1) rfl ?_
              have v0 : T1 30 0 = Int32.ofNat n := (congrFun (f1 _ (by decide)) 0).trans u0
              have v1 : T1 30 1 = Int32.ofNat D := (congrFun (f1 _ (by decide)) 1).trans u1
              refine yp_vi rfl rfl rfl rfl (c_bplc (PL := PL) (by decide) hn hD v0 v1 (fun d p h1 h2 => (congrFun ((f1 _ (by decide)).trans (fr _ (by decide) (by decide) (by decide))) _).trans (hPL d p h1 h2)) ?_)
              obtain ⟨T2, hT2⟩ : ∃ X, X = wr T1 51 0 n (wpl D PL (Int32.ofNat nx)) := ⟨_, rfl⟩
              rw [← hT2]
              have f2 : ∀ k, k ≠ 51 → T2 k = T k := fun k q => by rw [hT2]; exact (wr_ne q).trans (f1 k q)
              refine yp_run 2 (pc' := 77) (lv' := [(0, .ref 30), (1, .int l), (2, .int (t ||| (hv l (fun p => -TT p) n))), (3, .int (Int32.ofNat nx)), (4, .int (Int32.ofNat i)), (5, .int (hv (hv l (fun p => -TT p) n) (wpl D PL (Int32.ofNat nx)) n)), (6, .int 10)]) (st' := [.int (hv (hv l (fun p => -TT p) n) (wpl D PL (Int32.ofNat nx)) n)]) (s' := T2) rfl ?_
              refine yp_st rfl rfl (c_bits ?_)
              refine yp_run 1 (pc' := 81) (lv' := [(0, .ref 30), (1, .int l), (2, .int (t ||| (hv l (fun p => -TT p) n))), (3, .int (Int32.ofNat nx)), (4, .int (Int32.ofNat i)), (5, .int (hv (hv l (fun p => -TT p) n) (wpl D PL (Int32.ofNat nx)) n)), (6, .int 10)]) (st' := [.int 1, .int (bc6 (hv (hv l (fun p => -TT p) n) (wpl D PL (Int32.ofNat nx)) n))]) (s' := T2) rfl ?_
              refine yp_icmp rfl rfl (fun h81 => ?_) (fun h81 => ?_)
              · refine yp_run 4 (pc' := 117) (lv' := [(0, .ref 30), (1, .int l), (2, .int (t ||| (hv l (fun p => -TT p) n))), (3, .int (Int32.ofNat nx)), (4, .int (Int32.ofNat i)), (5, .int (hv (hv l (fun p => -TT p) n) (wpl D PL (Int32.ofNat nx)) n)), (6, .int 10)]) (st' := [.int 10, .int (Int32.ofNat nx), .int (hv (hv l (fun p => -TT p) n) (wpl D PL (Int32.ofNat nx)) n), .ref 30]) (s' := T2) rfl ?_
                have y0 : T2 30 0 = Int32.ofNat n := (congrFun (f2 _ (by decide)) 0).trans u0
                refine yp_vi rfl rfl rfl rfl (c_take (w := 10) (by decide) hn y0 ?_)
                obtain ⟨T4, hT4⟩ : ∃ X, X = tkSt T2 30 (hv (hv l (fun p => -TT p) n) (wpl D PL (Int32.ofNat nx)) n) (2 * (Int32.ofNat nx) + bc6 (hv (hv l (fun p => -TT p) n) (wpl D PL (Int32.ofNat nx)) n) - 1) 10 n := ⟨_, rfl⟩
                rw [← hT4]
                have g4 : ∀ k, k ≠ 38 → k ≠ 40 → k ≠ 51 → T4 k = s k := fun k a b c => by rw [hT4]; exact (tkSt_ne a b).trans ((f2 k c).trans (fr k a b c))
                have gE : ∀ p, p < n → T4 38 p = bif xcmp .eq (hd (hv (hv l (fun p => -TT p) n) (wpl D PL (Int32.ofNat nx)) n) (Int32.ofNat p)) 0 then E p else 2 * Int32.ofNat nx + bc6 (hv (hv l (fun p => -TT p) n) (wpl D PL (Int32.ofNat nx)) n) - 1 := fun p hp => by
                  rw [hT4]
                  unfold tkSt
                  rw [wr_ne (by decide), wr_in (Nat.zero_le _) hp]
                  unfold tkf
                  rw [show T2 (30 + 8) p = E p from (congrFun (f2 _ (by decide)) p).trans (hE p hp)]
                have gR : ∀ p, p < n → T4 40 p = bif xcmp .eq (hd (hv (hv l (fun p => -TT p) n) (wpl D PL (Int32.ofNat nx)) n) (Int32.ofNat p)) 0 then R p else 10 := fun p hp => by
                  rw [hT4]
                  unfold tkSt
                  rw [show 40 = 30 + 10 from rfl, wr_in (Nat.zero_le _) hp]
                  unfold tkf
                  rw [show T2 (30 + 10) p = R p from (congrFun (f2 _ (by decide)) p).trans (hR p hp)]
                refine yp_run 2 (pc' := 123) (lv' := [(0, .ref 30), (1, .int l), (2, .int (t ||| (hv l (fun p => -TT p) n))), (3, .int (Int32.ofNat nx)), (4, .int (Int32.ofNat i)), (5, .int (hv (hv l (fun p => -TT p) n) (wpl D PL (Int32.ofNat nx)) n)), (6, .int 10)]) (st' := [.int (hv (hv l (fun p => -TT p) n) (wpl D PL (Int32.ofNat nx)) n), .int (Int32.ofNat nx)]) (s' := T4) rfl ?_
                refine yp_st rfl rfl (c_bits ?_)
                refine yp_run 10 (pc' := 16) (lv' := [(0, .ref 30), (1, .int (l &&& ((hv (hv l (fun p => -TT p) n) (wpl D PL (Int32.ofNat nx)) n) ^^^ (-1)))), (2, .int (t ||| (hv l (fun p => -TT p) n))), (3, .int ((Int32.ofNat nx) + (bc6 (hv (hv l (fun p => -TT p) n) (wpl D PL (Int32.ofNat nx)) n)))), (4, .int ((Int32.ofNat i) + 1)), (5, .int (hv (hv l (fun p => -TT p) n) (wpl D PL (Int32.ofNat nx)) n)), (6, .int 10)]) (st' := []) (s' := T4) rfl ?_
                have e9 : pos n D TT PL WG nx (l, t) = ((l &&& ((hv (hv l (fun p => -TT p) n) (wpl D PL (Int32.ofNat nx)) n) ^^^ (-1))), (t ||| (hv l (fun p => -TT p) n)), (hv (hv l (fun p => -TT p) n) (wpl D PL (Int32.ofNat nx)) n), 10) := by
                  refine (pos_eq n D TT PL WG nx (l, t)).trans ?_
                  simp only [h42, h54, h81, cond_true, cond_false]
                have e7 := bcN_ok (hv (hv l (fun p => -TT p) n) (wpl D PL (Int32.ofNat nx)) n)
                have e6 := bcN_le (hv (hv l (fun p => -TT p) n) (wpl D PL (Int32.ofNat nx)) n)
                rw [i32_s, show Int32.ofNat nx + bc6 (hv (hv l (fun p => -TT p) n) (wpl D PL (Int32.ofNat nx)) n) = Int32.ofNat (nx + bcN (hv (hv l (fun p => -TT p) n) (wpl D PL (Int32.ofNat nx)) n)) from by rw [e7, Int32.ofNat_add]]
                refine yp_sel [0, 1, 2, 3, 4] ?_
                refine ih (i + 1) (nx + bcN (hv (hv l (fun p => -TT p) n) (wpl D PL (Int32.ofNat nx)) n)) _ _ _ _ T4 (by omega) (by omega) (by omega) g4 gE gR (fun T9 a1 a2 a3 => kk T9 a1 ?_ ?_)
                · intro p hp
                  rw [a2 p hp]
                  refine congrFun (congrArg Prod.fst ?_) p
                  refine Eq.symm ?_
                  refine (poR_s (hl := h26)).trans ?_
                  rw [e9]
                  rfl
                · intro p hp
                  rw [a3 p hp]
                  refine congrFun (congrArg Prod.snd ?_) p
                  refine Eq.symm ?_
                  refine (poR_s (hl := h26)).trans ?_
                  rw [e9]
                  rfl
              · refine yp_run 3 (pc' := 88) (lv' := [(0, .ref 30), (1, .int l), (2, .int (t ||| (hv l (fun p => -TT p) n))), (3, .int (Int32.ofNat nx)), (4, .int (Int32.ofNat i)), (5, .int (hv (hv l (fun p => -TT p) n) (wpl D PL (Int32.ofNat nx)) n)), (6, .int 10)]) (st' := [.int (Int32.ofNat nx), .int (hv (hv l (fun p => -TT p) n) (wpl D PL (Int32.ofNat nx)) n), .ref 30]) (s' := T2) rfl ?_
                have v0 : T2 30 0 = Int32.ofNat n := (congrFun (f2 _ (by decide)) 0).trans u0
                have v1 : T2 30 1 = Int32.ofNat D := (congrFun (f2 _ (by decide)) 1).trans u1
                refine yp_vi rfl rfl rfl rfl (c_bmrk (WG := WG) (by decide) hn hD h1x (by omega) v0 v1 (fun d p q h1 h2 h3 h4 => (congrFun ((f2 _ (by decide)).trans (fr _ (by decide) (by decide) (by decide))) _).trans (hWG d p q h1 h2 h3 h4)) ?_)
                obtain ⟨T3, hT3⟩ : ∃ X, X = bmSt T2 30 n D nx WG (n + 1 - nx) := ⟨_, rfl⟩
                rw [← hT3]
                have f3 : ∀ k, k ≠ 51 → T3 k = T k := fun k q => by rw [hT3]; exact (bmSt_ne q).trans (f2 k q)
                refine yp_run 2 (pc' := 95) (lv' := [(0, .ref 30), (1, .int l), (2, .int (t ||| (hv l (fun p => -TT p) n))), (3, .int (Int32.ofNat nx)), (4, .int (Int32.ofNat i)), (5, .int (bmk n D nx WG (hv (hv l (fun p => -TT p) n) (wpl D PL (Int32.ofNat nx)) n) (n + 1 - nx))), (6, .int 10)]) (st' := [.int (bmk n D nx WG (hv (hv l (fun p => -TT p) n) (wpl D PL (Int32.ofNat nx)) n) (n + 1 - nx))]) (s' := T3) rfl ?_
                refine yp_st rfl rfl (c_bits ?_)
                refine yp_run 1 (pc' := 99) (lv' := [(0, .ref 30), (1, .int l), (2, .int (t ||| (hv l (fun p => -TT p) n))), (3, .int (Int32.ofNat nx)), (4, .int (Int32.ofNat i)), (5, .int (bmk n D nx WG (hv (hv l (fun p => -TT p) n) (wpl D PL (Int32.ofNat nx)) n) (n + 1 - nx))), (6, .int 10)]) (st' := [.int 1, .int (bc6 (bmk n D nx WG (hv (hv l (fun p => -TT p) n) (wpl D PL (Int32.ofNat nx)) n) (n + 1 - nx)))]) (s' := T3) rfl ?_
                refine yp_icmp rfl rfl (fun h99 => ?_) (fun h99 => ?_)
                · refine yp_run 6 (pc' := 117) (lv' := [(0, .ref 30), (1, .int l), (2, .int (t ||| (hv l (fun p => -TT p) n))), (3, .int (Int32.ofNat nx)), (4, .int (Int32.ofNat i)), (5, .int (bmk n D nx WG (hv (hv l (fun p => -TT p) n) (wpl D PL (Int32.ofNat nx)) n) (n + 1 - nx))), (6, .int 11)]) (st' := [.int 11, .int (Int32.ofNat nx), .int (bmk n D nx WG (hv (hv l (fun p => -TT p) n) (wpl D PL (Int32.ofNat nx)) n) (n + 1 - nx)), .ref 30]) (s' := T3) rfl ?_
                  have y0 : T3 30 0 = Int32.ofNat n := (congrFun (f3 _ (by decide)) 0).trans u0
                  refine yp_vi rfl rfl rfl rfl (c_take (w := 11) (by decide) hn y0 ?_)
                  obtain ⟨T4, hT4⟩ : ∃ X, X = tkSt T3 30 (bmk n D nx WG (hv (hv l (fun p => -TT p) n) (wpl D PL (Int32.ofNat nx)) n) (n + 1 - nx)) (2 * (Int32.ofNat nx) + bc6 (bmk n D nx WG (hv (hv l (fun p => -TT p) n) (wpl D PL (Int32.ofNat nx)) n) (n + 1 - nx)) - 1) 11 n := ⟨_, rfl⟩
                  rw [← hT4]
                  have g4 : ∀ k, k ≠ 38 → k ≠ 40 → k ≠ 51 → T4 k = s k := fun k a b c => by rw [hT4]; exact (tkSt_ne a b).trans ((f3 k c).trans (fr k a b c))
                  have gE : ∀ p, p < n → T4 38 p = bif xcmp .eq (hd (bmk n D nx WG (hv (hv l (fun p => -TT p) n) (wpl D PL (Int32.ofNat nx)) n) (n + 1 - nx)) (Int32.ofNat p)) 0 then E p else 2 * Int32.ofNat nx + bc6 (bmk n D nx WG (hv (hv l (fun p => -TT p) n) (wpl D PL (Int32.ofNat nx)) n) (n + 1 - nx)) - 1 := fun p hp => by
                    rw [hT4]
                    unfold tkSt
                    rw [wr_ne (by decide), wr_in (Nat.zero_le _) hp]
                    unfold tkf
                    rw [show T3 (30 + 8) p = E p from (congrFun (f3 _ (by decide)) p).trans (hE p hp)]
                  have gR : ∀ p, p < n → T4 40 p = bif xcmp .eq (hd (bmk n D nx WG (hv (hv l (fun p => -TT p) n) (wpl D PL (Int32.ofNat nx)) n) (n + 1 - nx)) (Int32.ofNat p)) 0 then R p else 11 := fun p hp => by
                    rw [hT4]
                    unfold tkSt
                    rw [show 40 = 30 + 10 from rfl, wr_in (Nat.zero_le _) hp]
                    unfold tkf
                    rw [show T3 (30 + 10) p = R p from (congrFun (f3 _ (by decide)) p).trans (hR p hp)]
                  refine yp_run 2 (pc' := 123) (lv' := [(0, .ref 30), (1, .int l), (2, .int (t ||| (hv l (fun p => -TT p) n))), (3, .int (Int32.ofNat nx)), (4, .int (Int32.ofNat i)), (5, .int (bmk n D nx WG (hv (hv l (fun p => -TT p) n) (wpl D PL (Int32.ofNat nx)) n) (n + 1 - nx))), (6, .int 11)]) (st' := [.int (bmk n D nx WG (hv (hv l (fun p => -TT p) n) (wpl D PL (Int32.ofNat nx)) n) (n + 1 - nx)), .int (Int32.ofNat nx)]) (s' := T4) rfl ?_
                  refine yp_st rfl rfl (c_bits ?_)
                  refine yp_run 10 (pc' := 16) (lv' := [(0, .ref 30), (1, .int (l &&& ((bmk n D nx WG (hv (hv l (fun p => -TT p) n) (wpl D PL (Int32.ofNat nx)) n) (n + 1 - nx)) ^^^ (-1)))), (2, .int (t ||| (hv l (fun p => -TT p) n))), (3, .int ((Int32.ofNat nx) + (bc6 (bmk n D nx WG (hv (hv l (fun p => -TT p) n) (wpl D PL (Int32.ofNat nx)) n) (n + 1 - nx))))), (4, .int ((Int32.ofNat i) + 1)), (5, .int (bmk n D nx WG (hv (hv l (fun p => -TT p) n) (wpl D PL (Int32.ofNat nx)) n) (n + 1 - nx))), (6, .int 11)]) (st' := []) (s' := T4) rfl ?_
                  have e9 : pos n D TT PL WG nx (l, t) = ((l &&& ((bmk n D nx WG (hv (hv l (fun p => -TT p) n) (wpl D PL (Int32.ofNat nx)) n) (n + 1 - nx)) ^^^ (-1))), (t ||| (hv l (fun p => -TT p) n)), (bmk n D nx WG (hv (hv l (fun p => -TT p) n) (wpl D PL (Int32.ofNat nx)) n) (n + 1 - nx)), 11) := by
                    refine (pos_eq n D TT PL WG nx (l, t)).trans ?_
                    simp only [h42, h54, h81, h99, cond_true, cond_false]
                  have e7 := bcN_ok (bmk n D nx WG (hv (hv l (fun p => -TT p) n) (wpl D PL (Int32.ofNat nx)) n) (n + 1 - nx))
                  have e6 := bcN_le (bmk n D nx WG (hv (hv l (fun p => -TT p) n) (wpl D PL (Int32.ofNat nx)) n) (n + 1 - nx))
                  rw [i32_s, show Int32.ofNat nx + bc6 (bmk n D nx WG (hv (hv l (fun p => -TT p) n) (wpl D PL (Int32.ofNat nx)) n) (n + 1 - nx)) = Int32.ofNat (nx + bcN (bmk n D nx WG (hv (hv l (fun p => -TT p) n) (wpl D PL (Int32.ofNat nx)) n) (n + 1 - nx))) from by rw [e7, Int32.ofNat_add]]
                  refine yp_sel [0, 1, 2, 3, 4] ?_
                  refine ih (i + 1) (nx + bcN (bmk n D nx WG (hv (hv l (fun p => -TT p) n) (wpl D PL (Int32.ofNat nx)) n) (n + 1 - nx))) _ _ _ _ T4 (by omega) (by omega) (by omega) g4 gE gR (fun T9 a1 a2 a3 => kk T9 a1 ?_ ?_)
                  · intro p hp
                    rw [a2 p hp]
                    refine congrFun (congrArg Prod.fst ?_) p
                    refine Eq.symm ?_
                    refine (poR_s (hl := h26)).trans ?_
                    rw [e9]
                    rfl
                  · intro p hp
                    rw [a3 p hp]
                    refine congrFun (congrArg Prod.snd ?_) p
                    refine Eq.symm ?_
                    refine (poR_s (hl := h26)).trans ?_
                    rw [e9]
                    rfl
                · refine yp_run 7 (pc' := 117) (lv' := [(0, .ref 30), (1, .int l), (2, .int (t ||| (hv l (fun p => -TT p) n))), (3, .int (Int32.ofNat nx)), (4, .int (Int32.ofNat i)), (5, .int (bmk n D nx WG (hv (hv l (fun p => -TT p) n) (wpl D PL (Int32.ofNat nx)) n) (n + 1 - nx))), (6, .int 12)]) (st' := [.int 12, .int (Int32.ofNat nx), .int (bmk n D nx WG (hv (hv l (fun p => -TT p) n) (wpl D PL (Int32.ofNat nx)) n) (n + 1 - nx)), .ref 30]) (s' := T3) rfl ?_
                  have y0 : T3 30 0 = Int32.ofNat n := (congrFun (f3 _ (by decide)) 0).trans u0
                  refine yp_vi rfl rfl rfl rfl (c_take (w := 12) (by decide) hn y0 ?_)
                  obtain ⟨T4, hT4⟩ : ∃ X, X = tkSt T3 30 (bmk n D nx WG (hv (hv l (fun p => -TT p) n) (wpl D PL (Int32.ofNat nx)) n) (n + 1 - nx)) (2 * (Int32.ofNat nx) + bc6 (bmk n D nx WG (hv (hv l (fun p => -TT p) n) (wpl D PL (Int32.ofNat nx)) n) (n + 1 - nx)) - 1) 12 n := ⟨_, rfl⟩
                  rw [← hT4]
                  have g4 : ∀ k, k ≠ 38 → k ≠ 40 → k ≠ 51 → T4 k = s k := fun k a b c => by rw [hT4]; exact (tkSt_ne a b).trans ((f3 k c).trans (fr k a b c))
                  have gE : ∀ p, p < n → T4 38 p = bif xcmp .eq (hd (bmk n D nx WG (hv (hv l (fun p => -TT p) n) (wpl D PL (Int32.ofNat nx)) n) (n + 1 - nx)) (Int32.ofNat p)) 0 then E p else 2 * Int32.ofNat nx + bc6 (bmk n D nx WG (hv (hv l (fun p => -TT p) n) (wpl D PL (Int32.ofNat nx)) n) (n + 1 - nx)) - 1 := fun p hp => by
                    rw [hT4]
                    unfold tkSt
                    rw [wr_ne (by decide), wr_in (Nat.zero_le _) hp]
                    unfold tkf
                    rw [show T3 (30 + 8) p = E p from (congrFun (f3 _ (by decide)) p).trans (hE p hp)]
                  have gR : ∀ p, p < n → T4 40 p = bif xcmp .eq (hd (bmk n D nx WG (hv (hv l (fun p => -TT p) n) (wpl D PL (Int32.ofNat nx)) n) (n + 1 - nx)) (Int32.ofNat p)) 0 then R p else 12 := fun p hp => by
                    rw [hT4]
                    unfold tkSt
                    rw [show 40 = 30 + 10 from rfl, wr_in (Nat.zero_le _) hp]
                    unfold tkf
                    rw [show T3 (30 + 10) p = R p from (congrFun (f3 _ (by decide)) p).trans (hR p hp)]
                  refine yp_run 2 (pc' := 123) (lv' := [(0, .ref 30), (1, .int l), (2, .int (t ||| (hv l (fun p => -TT p) n))), (3, .int (Int32.ofNat nx)), (4, .int (Int32.ofNat i)), (5, .int (bmk n D nx WG (hv (hv l (fun p => -TT p) n) (wpl D PL (Int32.ofNat nx)) n) (n + 1 - nx))), (6, .int 12)]) (st' := [.int (bmk n D nx WG (hv (hv l (fun p => -TT p) n) (wpl D PL (Int32.ofNat nx)) n) (n + 1 - nx)), .int (Int32.ofNat nx)]) (s' := T4) rfl ?_
                  refine yp_st rfl rfl (c_bits ?_)
                  refine yp_run 10 (pc' := 16) (lv' := [(0, .ref 30), (1, .int (l &&& ((bmk n D nx WG (hv (hv l (fun p => -TT p) n) (wpl D PL (Int32.ofNat nx)) n) (n + 1 - nx)) ^^^ (-1)))), (2, .int (t ||| (hv l (fun p => -TT p) n))), (3, .int ((Int32.ofNat nx) + (bc6 (bmk n D nx WG (hv (hv l (fun p => -TT p) n) (wpl D PL (Int32.ofNat nx)) n) (n + 1 - nx))))), (4, .int ((Int32.ofNat i) + 1)), (5, .int (bmk n D nx WG (hv (hv l (fun p => -TT p) n) (wpl D PL (Int32.ofNat nx)) n) (n + 1 - nx))), (6, .int 12)]) (st' := []) (s' := T4) rfl ?_
                  have e9 : pos n D TT PL WG nx (l, t) = ((l &&& ((bmk n D nx WG (hv (hv l (fun p => -TT p) n) (wpl D PL (Int32.ofNat nx)) n) (n + 1 - nx)) ^^^ (-1))), (t ||| (hv l (fun p => -TT p) n)), (bmk n D nx WG (hv (hv l (fun p => -TT p) n) (wpl D PL (Int32.ofNat nx)) n) (n + 1 - nx)), 12) := by
                    refine (pos_eq n D TT PL WG nx (l, t)).trans ?_
                    simp only [h42, h54, h81, h99, cond_true, cond_false]
                  have e7 := bcN_ok (bmk n D nx WG (hv (hv l (fun p => -TT p) n) (wpl D PL (Int32.ofNat nx)) n) (n + 1 - nx))
                  have e6 := bcN_le (bmk n D nx WG (hv (hv l (fun p => -TT p) n) (wpl D PL (Int32.ofNat nx)) n) (n + 1 - nx))
                  rw [i32_s, show Int32.ofNat nx + bc6 (bmk n D nx WG (hv (hv l (fun p => -TT p) n) (wpl D PL (Int32.ofNat nx)) n) (n + 1 - nx)) = Int32.ofNat (nx + bcN (bmk n D nx WG (hv (hv l (fun p => -TT p) n) (wpl D PL (Int32.ofNat nx)) n) (n + 1 - nx))) from by rw [e7, Int32.ofNat_add]]
                  refine yp_sel [0, 1, 2, 3, 4] ?_
                  refine ih (i + 1) (nx + bcN (bmk n D nx WG (hv (hv l (fun p => -TT p) n) (wpl D PL (Int32.ofNat nx)) n) (n + 1 - nx))) _ _ _ _ T4 (by omega) (by omega) (by omega) g4 gE gR (fun T9 a1 a2 a3 => kk T9 a1 ?_ ?_)
                  · intro p hp
                    rw [a2 p hp]
                    refine congrFun (congrArg Prod.fst ?_) p
                    refine Eq.symm ?_
                    refine (poR_s (hl := h26)).trans ?_
                    rw [e9]
                    rfl
                  · intro p hp
                    rw [a3 p hp]
                    refine congrFun (congrArg Prod.snd ?_) p
                    refine Eq.symm ?_
                    refine (poR_s (hl := h26)).trans ?_
                    rw [e9]
                    rfl
            · refine yp_run 6 (pc' := 70) (lv' := [(0, .ref 30), (1, .int l), (2, .int (t ||| (hv l (fun p => -TT p) n))), (3, .int (Int32.ofNat nx)), (4, .int (Int32.ofNat i)), (5, .int (hv l (fun p => -TT p) n)), (6, .int 9)]) (st' := [.int (Int32.ofNat nx), .int (hv l (fun p => -TT p) n), .ref 30]) (s' := T1) rfl ?_
              have v0 : T1 30 0 = Int32.ofNat n := (congrFun (f1 _ (by decide)) 0).trans u0
              have v1 : T1 30 1 = Int32.ofNat D := (congrFun (f1 _ (by decide)) 1).trans u1
              refine yp_vi rfl rfl rfl rfl (c_bplc (PL := PL) (by decide) hn hD v0 v1 (fun d p h1 h2 => (congrFun ((f1 _ (by decide)).trans (fr _ (by decide) (by decide) (by decide))) _).trans (hPL d p h1 h2)) ?_)
              obtain ⟨T2, hT2⟩ : ∃ X, X = wr T1 51 0 n (wpl D PL (Int32.ofNat nx)) := ⟨_, rfl⟩
              rw [← hT2]
              have f2 : ∀ k, k ≠ 51 → T2 k = T k := fun k q => by rw [hT2]; exact (wr_ne q).trans (f1 k q)
              refine yp_run 2 (pc' := 77) (lv' := [(0, .ref 30), (1, .int l), (2, .int (t ||| (hv l (fun p => -TT p) n))), (3, .int (Int32.ofNat nx)), (4, .int (Int32.ofNat i)), (5, .int (hv (hv l (fun p => -TT p) n) (wpl D PL (Int32.ofNat nx)) n)), (6, .int 9)]) (st' := [.int (hv (hv l (fun p => -TT p) n) (wpl D PL (Int32.ofNat nx)) n)]) (s' := T2) rfl ?_
              refine yp_st rfl rfl (c_bits ?_)
              refine yp_run 1 (pc' := 81) (lv' := [(0, .ref 30), (1, .int l), (2, .int (t ||| (hv l (fun p => -TT p) n))), (3, .int (Int32.ofNat nx)), (4, .int (Int32.ofNat i)), (5, .int (hv (hv l (fun p => -TT p) n) (wpl D PL (Int32.ofNat nx)) n)), (6, .int 9)]) (st' := [.int 1, .int (bc6 (hv (hv l (fun p => -TT p) n) (wpl D PL (Int32.ofNat nx)) n))]) (s' := T2) rfl ?_
              refine yp_icmp rfl rfl (fun h81 => ?_) (fun h81 => ?_)
              · refine yp_run 4 (pc' := 117) (lv' := [(0, .ref 30), (1, .int l), (2, .int (t ||| (hv l (fun p => -TT p) n))), (3, .int (Int32.ofNat nx)), (4, .int (Int32.ofNat i)), (5, .int (hv (hv l (fun p => -TT p) n) (wpl D PL (Int32.ofNat nx)) n)), (6, .int 9)]) (st' := [.int 9, .int (Int32.ofNat nx), .int (hv (hv l (fun p => -TT p) n) (wpl D PL (Int32.ofNat nx)) n), .ref 30]) (s' := T2) rfl ?_
                have y0 : T2 30 0 = Int32.ofNat n := (congrFun (f2 _ (by decide)) 0).trans u0
                refine yp_vi rfl rfl rfl rfl (c_take (w := 9) (by decide) hn y0 ?_)
                obtain ⟨T4, hT4⟩ : ∃ X, X = tkSt T2 30 (hv (hv l (fun p => -TT p) n) (wpl D PL (Int32.ofNat nx)) n) (2 * (Int32.ofNat nx) + bc6 (hv (hv l (fun p => -TT p) n) (wpl D PL (Int32.ofNat nx)) n) - 1) 9 n := ⟨_, rfl⟩
                rw [← hT4]
                have g4 : ∀ k, k ≠ 38 → k ≠ 40 → k ≠ 51 → T4 k = s k := fun k a b c => by rw [hT4]; exact (tkSt_ne a b).trans ((f2 k c).trans (fr k a b c))
                have gE : ∀ p, p < n → T4 38 p = bif xcmp .eq (hd (hv (hv l (fun p => -TT p) n) (wpl D PL (Int32.ofNat nx)) n) (Int32.ofNat p)) 0 then E p else 2 * Int32.ofNat nx + bc6 (hv (hv l (fun p => -TT p) n) (wpl D PL (Int32.ofNat nx)) n) - 1 := fun p hp => by
                  rw [hT4]
                  unfold tkSt
                  rw [wr_ne (by decide), wr_in (Nat.zero_le _) hp]
                  unfold tkf
                  rw [show T2 (30 + 8) p = E p from (congrFun (f2 _ (by decide)) p).trans (hE p hp)]
                have gR : ∀ p, p < n → T4 40 p = bif xcmp .eq (hd (hv (hv l (fun p => -TT p) n) (wpl D PL (Int32.ofNat nx)) n) (Int32.ofNat p)) 0 then R p else 9 := fun p hp => by
                  rw [hT4]
                  unfold tkSt
                  rw [show 40 = 30 + 10 from rfl, wr_in (Nat.zero_le _) hp]
                  unfold tkf
                  rw [show T2 (30 + 10) p = R p from (congrFun (f2 _ (by decide)) p).trans (hR p hp)]
                refine yp_run 2 (pc' := 123) (lv' := [(0, .ref 30), (1, .int l), (2, .int (t ||| (hv l (fun p => -TT p) n))), (3, .int (Int32.ofNat nx)), (4, .int (Int32.ofNat i)), (5, .int (hv (hv l (fun p => -TT p) n) (wpl D PL (Int32.ofNat nx)) n)), (6, .int 9)]) (st' := [.int (hv (hv l (fun p => -TT p) n) (wpl D PL (Int32.ofNat nx)) n), .int (Int32.ofNat nx)]) (s' := T4) rfl ?_
                refine yp_st rfl rfl (c_bits ?_)
                refine yp_run 10 (pc' := 16) (lv' := [(0, .ref 30), (1, .int (l &&& ((hv (hv l (fun p => -TT p) n) (wpl D PL (Int32.ofNat nx)) n) ^^^ (-1)))), (2, .int (t ||| (hv l (fun p => -TT p) n))), (3, .int ((Int32.ofNat nx) + (bc6 (hv (hv l (fun p => -TT p) n) (wpl D PL (Int32.ofNat nx)) n)))), (4, .int ((Int32.ofNat i) + 1)), (5, .int (hv (hv l (fun p => -TT p) n) (wpl D PL (Int32.ofNat nx)) n)), (6, .int 9)]) (st' := []) (s' := T4) rfl ?_
                have e9 : pos n D TT PL WG nx (l, t) = ((l &&& ((hv (hv l (fun p => -TT p) n) (wpl D PL (Int32.ofNat nx)) n) ^^^ (-1))), (t ||| (hv l (fun p => -TT p) n)), (hv (hv l (fun p => -TT p) n) (wpl D PL (Int32.ofNat nx)) n), 9) := by
                  refine (pos_eq n D TT PL WG nx (l, t)).trans ?_
                  simp only [h42, h54, h81, cond_true, cond_false]
                have e7 := bcN_ok (hv (hv l (fun p => -TT p) n) (wpl D PL (Int32.ofNat nx)) n)
                have e6 := bcN_le (hv (hv l (fun p => -TT p) n) (wpl D PL (Int32.ofNat nx)) n)
                rw [i32_s, show Int32.ofNat nx + bc6 (hv (hv l (fun p => -TT p) n) (wpl D PL (Int32.ofNat nx)) n) = Int32.ofNat (nx + bcN (hv (hv l (fun p => -TT p) n) (wpl D PL (Int32.ofNat nx)) n)) from by rw [e7, Int32.ofNat_add]]
                refine yp_sel [0, 1, 2, 3, 4] ?_
                refine ih (i + 1) (nx + bcN (hv (hv l (fun p => -TT p) n) (wpl D PL (Int32.ofNat nx)) n)) _ _ _ _ T4 (by omega) (by omega) (by omega) g4 gE gR (fun T9 a1 a2 a3 => kk T9 a1 ?_ ?_)
                · intro p hp
                  rw [a2 p hp]
                  refine congrFun (congrArg Prod.fst ?_) p
                  refine Eq.symm ?_
                  refine (poR_s (hl := h26)).trans ?_
                  rw [e9]
                  rfl
                · intro p hp
                  rw [a3 p hp]
                  refine congrFun (congrArg Prod.snd ?_) p
                  refine Eq.symm ?_
                  refine (poR_s (hl := h26)).trans ?_
                  rw [e9]
                  rfl
              · refine yp_run 3 (pc' := 88) (lv' := [(0, .ref 30), (1, .int l), (2, .int (t ||| (hv l (fun p => -TT p) n))), (3, .int (Int32.ofNat nx)), (4, .int (Int32.ofNat i)), (5, .int (hv (hv l (fun p => -TT p) n) (wpl D PL (Int32.ofNat nx)) n)), (6, .int 9)]) (st' := [.int (Int32.ofNat nx), .int (hv (hv l (fun p => -TT p) n) (wpl D PL (Int32.ofNat nx)) n), .ref 30]) (s' := T2) rfl ?_
                have v0 : T2 30 0 = Int32.ofNat n := (congrFun (f2 _ (by decide)) 0).trans u0
                have v1 : T2 30 1 = Int32.ofNat D := (congrFun (f2 _ (by decide)) 1).trans u1
                refine yp_vi rfl rfl rfl rfl (c_bmrk (WG := WG) (by decide) hn hD h1x (by omega) v0 v1 (fun d p q h1 h2 h3 h4 => (congrFun ((f2 _ (by decide)).trans (fr _ (by decide) (by decide) (by decide))) _).trans (hWG d p q h1 h2 h3 h4)) ?_)
                obtain ⟨T3, hT3⟩ : ∃ X, X = bmSt T2 30 n D nx WG (n + 1 - nx) := ⟨_, rfl⟩
                rw [← hT3]
                have f3 : ∀ k, k ≠ 51 → T3 k = T k := fun k q => by rw [hT3]; exact (bmSt_ne q).trans (f2 k q)
                refine yp_run 2 (pc' := 95) (lv' := [(0, .ref 30), (1, .int l), (2, .int (t ||| (hv l (fun p => -TT p) n))), (3, .int (Int32.ofNat nx)), (4, .int (Int32.ofNat i)), (5, .int (bmk n D nx WG (hv (hv l (fun p => -TT p) n) (wpl D PL (Int32.ofNat nx)) n) (n + 1 - nx))), (6, .int 9)]) (st' := [.int (bmk n D nx WG (hv (hv l (fun p => -TT p) n) (wpl D PL (Int32.ofNat nx)) n) (n + 1 - nx))]) (s' := T3) rfl ?_
                refine yp_st rfl rfl (c_bits ?_)
                refine yp_run 1 (pc' := 99) (lv' := [(0, .ref 30), (1, .int l), (2, .int (t ||| (hv l (fun p => -TT p) n))), (3, .int (Int32.ofNat nx)), (4, .int (Int32.ofNat i)), (5, .int (bmk n D nx WG (hv (hv l (fun p => -TT p) n) (wpl D PL (Int32.ofNat nx)) n) (n + 1 - nx))), (6, .int 9)]) (st' := [.int 1, .int (bc6 (bmk n D nx WG (hv (hv l (fun p => -TT p) n) (wpl D PL (Int32.ofNat nx)) n) (n + 1 - nx)))]) (s' := T3) rfl ?_
                refine yp_icmp rfl rfl (fun h99 => ?_) (fun h99 => ?_)
                · refine yp_run 6 (pc' := 117) (lv' := [(0, .ref 30), (1, .int l), (2, .int (t ||| (hv l (fun p => -TT p) n))), (3, .int (Int32.ofNat nx)), (4, .int (Int32.ofNat i)), (5, .int (bmk n D nx WG (hv (hv l (fun p => -TT p) n) (wpl D PL (Int32.ofNat nx)) n) (n + 1 - nx))), (6, .int 11)]) (st' := [.int 11, .int (Int32.ofNat nx), .int (bmk n D nx WG (hv (hv l (fun p => -TT p) n) (wpl D PL (Int32.ofNat nx)) n) (n + 1 - nx)), .ref 30]) (s' := T3) rfl ?_
                  have y0 : T3 30 0 = Int32.ofNat n := (congrFun (f3 _ (by decide)) 0).trans u0
                  refine yp_vi rfl rfl rfl rfl (c_take (w := 11) (by decide) hn y0 ?_)
                  obtain ⟨T4, hT4⟩ : ∃ X, X = tkSt T3 30 (bmk n D nx WG (hv (hv l (fun p => -TT p) n) (wpl D PL (Int32.ofNat nx)) n) (n + 1 - nx)) (2 * (Int32.ofNat nx) + bc6 (bmk n D nx WG (hv (hv l (fun p => -TT p) n) (wpl D PL (Int32.ofNat nx)) n) (n + 1 - nx)) - 1) 11 n := ⟨_, rfl⟩
                  rw [← hT4]
                  have g4 : ∀ k, k ≠ 38 → k ≠ 40 → k ≠ 51 → T4 k = s k := fun k a b c => by rw [hT4]; exact (tkSt_ne a b).trans ((f3 k c).trans (fr k a b c))
                  have gE : ∀ p, p < n → T4 38 p = bif xcmp .eq (hd (bmk n D nx WG (hv (hv l (fun p => -TT p) n) (wpl D PL (Int32.ofNat nx)) n) (n + 1 - nx)) (Int32.ofNat p)) 0 then E p else 2 * Int32.ofNat nx + bc6 (bmk n D nx WG (hv (hv l (fun p => -TT p) n) (wpl D PL (Int32.ofNat nx)) n) (n + 1 - nx)) - 1 := fun p hp => by
                    rw [hT4]
                    unfold tkSt
                    rw [wr_ne (by decide), wr_in (Nat.zero_le _) hp]
                    unfold tkf
                    rw [show T3 (30 + 8) p = E p from (congrFun (f3 _ (by decide)) p).trans (hE p hp)]
                  have gR : ∀ p, p < n → T4 40 p = bif xcmp .eq (hd (bmk n D nx WG (hv (hv l (fun p => -TT p) n) (wpl D PL (Int32.ofNat nx)) n) (n + 1 - nx)) (Int32.ofNat p)) 0 then R p else 11 := fun p hp => by
                    rw [hT4]
                    unfold tkSt
                    rw [show 40 = 30 + 10 from rfl, wr_in (Nat.zero_le _) hp]
                    unfold tkf
                    rw [show T3 (30 + 10) p = R p from (congrFun (f3 _ (by decide)) p).trans (hR p hp)]
                  refine yp_run 2 (pc' := 123) (lv' := [(0, .ref 30), (1, .int l), (2, .int (t ||| (hv l (fun p => -TT p) n))), (3, .int (Int32.ofNat nx)), (4, .int (Int32.ofNat i)), (5, .int (bmk n D nx WG (hv (hv l (fun p => -TT p) n) (wpl D PL (Int32.ofNat nx)) n) (n + 1 - nx))), (6, .int 11)]) (st' := [.int (bmk n D nx WG (hv (hv l (fun p => -TT p) n) (wpl D PL (Int32.ofNat nx)) n) (n + 1 - nx)), .int (Int32.ofNat nx)]) (s' := T4) rfl ?_
                  refine yp_st rfl rfl (c_bits ?_)
                  refine yp_run 10 (pc' := 16) (lv' := [(0, .ref 30), (1, .int (l &&& ((bmk n D nx WG (hv (hv l (fun p => -TT p) n) (wpl D PL (Int32.ofNat nx)) n) (n + 1 - nx)) ^^^ (-1)))), (2, .int (t ||| (hv l (fun p => -TT p) n))), (3, .int ((Int32.ofNat nx) + (bc6 (bmk n D nx WG (hv (hv l (fun p => -TT p) n) (wpl D PL (Int32.ofNat nx)) n) (n + 1 - nx))))), (4, .int ((Int32.ofNat i) + 1)), (5, .int (bmk n D nx WG (hv (hv l (fun p => -TT p) n) (wpl D PL (Int32.ofNat nx)) n) (n + 1 - nx))), (6, .int 11)]) (st' := []) (s' := T4) rfl ?_
                  have e9 : pos n D TT PL WG nx (l, t) = ((l &&& ((bmk n D nx WG (hv (hv l (fun p => -TT p) n) (wpl D PL (Int32.ofNat nx)) n) (n + 1 - nx)) ^^^ (-1))), (t ||| (hv l (fun p => -TT p) n)), (bmk n D nx WG (hv (hv l (fun p => -TT p) n) (wpl D PL (Int32.ofNat nx)) n) (n + 1 - nx)), 11) := by
                    refine (pos_eq n D TT PL WG nx (l, t)).trans ?_
                    simp only [h42, h54, h81, h99, cond_true, cond_false]
                  have e7 := bcN_ok (bmk n D nx WG (hv (hv l (fun p => -TT p) n) (wpl D PL (Int32.ofNat nx)) n) (n + 1 - nx))
                  have e6 := bcN_le (bmk n D nx WG (hv (hv l (fun p => -TT p) n) (wpl D PL (Int32.ofNat nx)) n) (n + 1 - nx))
                  rw [i32_s, show Int32.ofNat nx + bc6 (bmk n D nx WG (hv (hv l (fun p => -TT p) n) (wpl D PL (Int32.ofNat nx)) n) (n + 1 - nx)) = Int32.ofNat (nx + bcN (bmk n D nx WG (hv (hv l (fun p => -TT p) n) (wpl D PL (Int32.ofNat nx)) n) (n + 1 - nx))) from by rw [e7, Int32.ofNat_add]]
                  refine yp_sel [0, 1, 2, 3, 4] ?_
                  refine ih (i + 1) (nx + bcN (bmk n D nx WG (hv (hv l (fun p => -TT p) n) (wpl D PL (Int32.ofNat nx)) n) (n + 1 - nx))) _ _ _ _ T4 (by omega) (by omega) (by omega) g4 gE gR (fun T9 a1 a2 a3 => kk T9 a1 ?_ ?_)
                  · intro p hp
                    rw [a2 p hp]
                    refine congrFun (congrArg Prod.fst ?_) p
                    refine Eq.symm ?_
                    refine (poR_s (hl := h26)).trans ?_
                    rw [e9]
                    rfl
                  · intro p hp
                    rw [a3 p hp]
                    refine congrFun (congrArg Prod.snd ?_) p
                    refine Eq.symm ?_
                    refine (poR_s (hl := h26)).trans ?_
                    rw [e9]
                    rfl
                · refine yp_run 7 (pc' := 117) (lv' := [(0, .ref 30), (1, .int l), (2, .int (t ||| (hv l (fun p => -TT p) n))), (3, .int (Int32.ofNat nx)), (4, .int (Int32.ofNat i)), (5, .int (bmk n D nx WG (hv (hv l (fun p => -TT p) n) (wpl D PL (Int32.ofNat nx)) n) (n + 1 - nx))), (6, .int 12)]) (st' := [.int 12, .int (Int32.ofNat nx), .int (bmk n D nx WG (hv (hv l (fun p => -TT p) n) (wpl D PL (Int32.ofNat nx)) n) (n + 1 - nx)), .ref 30]) (s' := T3) rfl ?_
                  have y0 : T3 30 0 = Int32.ofNat n := (congrFun (f3 _ (by decide)) 0).trans u0
                  refine yp_vi rfl rfl rfl rfl (c_take (w := 12) (by decide) hn y0 ?_)
                  obtain ⟨T4, hT4⟩ : ∃ X, X = tkSt T3 30 (bmk n D nx WG (hv (hv l (fun p => -TT p) n) (wpl D PL (Int32.ofNat nx)) n) (n + 1 - nx)) (2 * (Int32.ofNat nx) + bc6 (bmk n D nx WG (hv (hv l (fun p => -TT p) n) (wpl D PL (Int32.ofNat nx)) n) (n + 1 - nx)) - 1) 12 n := ⟨_, rfl⟩
                  rw [← hT4]
                  have g4 : ∀ k, k ≠ 38 → k ≠ 40 → k ≠ 51 → T4 k = s k := fun k a b c => by rw [hT4]; exact (tkSt_ne a b).trans ((f3 k c).trans (fr k a b c))
                  have gE : ∀ p, p < n → T4 38 p = bif xcmp .eq (hd (bmk n D nx WG (hv (hv l (fun p => -TT p) n) (wpl D PL (Int32.ofNat nx)) n) (n + 1 - nx)) (Int32.ofNat p)) 0 then E p else 2 * Int32.ofNat nx + bc6 (bmk n D nx WG (hv (hv l (fun p => -TT p) n) (wpl D PL (Int32.ofNat nx)) n) (n + 1 - nx)) - 1 := fun p hp => by
                    rw [hT4]
                    unfold tkSt
                    rw [wr_ne (by decide), wr_in (Nat.zero_le _) hp]
                    unfold tkf
                    rw [show T3 (30 + 8) p = E p from (congrFun (f3 _ (by decide)) p).trans (hE p hp)]
                  have gR : ∀ p, p < n → T4 40 p = bif xcmp .eq (hd (bmk n D nx WG (hv (hv l (fun p => -TT p) n) (wpl D PL (Int32.ofNat nx)) n) (n + 1 - nx)) (Int32.ofNat p)) 0 then R p else 12 := fun p hp => by
                    rw [hT4]
                    unfold tkSt
                    rw [show 40 = 30 + 10 from rfl, wr_in (Nat.zero_le _) hp]
                    unfold tkf
                    rw [show T3 (30 + 10) p = R p from (congrFun (f3 _ (by decide)) p).trans (hR p hp)]
                  refine yp_run 2 (pc' := 123) (lv' := [(0, .ref 30), (1, .int l), (2, .int (t ||| (hv l (fun p => -TT p) n))), (3, .int (Int32.ofNat nx)), (4, .int (Int32.ofNat i)), (5, .int (bmk n D nx WG (hv (hv l (fun p => -TT p) n) (wpl D PL (Int32.ofNat nx)) n) (n + 1 - nx))), (6, .int 12)]) (st' := [.int (bmk n D nx WG (hv (hv l (fun p => -TT p) n) (wpl D PL (Int32.ofNat nx)) n) (n + 1 - nx)), .int (Int32.ofNat nx)]) (s' := T4) rfl ?_
                  refine yp_st rfl rfl (c_bits ?_)
                  refine yp_run 10 (pc' := 16) (lv' := [(0, .ref 30), (1, .int (l &&& ((bmk n D nx WG (hv (hv l (fun p => -TT p) n) (wpl D PL (Int32.ofNat nx)) n) (n + 1 - nx)) ^^^ (-1)))), (2, .int (t ||| (hv l (fun p => -TT p) n))), (3, .int ((Int32.ofNat nx) + (bc6 (bmk n D nx WG (hv (hv l (fun p => -TT p) n) (wpl D PL (Int32.ofNat nx)) n) (n + 1 - nx))))), (4, .int ((Int32.ofNat i) + 1)), (5, .int (bmk n D nx WG (hv (hv l (fun p => -TT p) n) (wpl D PL (Int32.ofNat nx)) n) (n + 1 - nx))), (6, .int 12)]) (st' := []) (s' := T4) rfl ?_
                  have e9 : pos n D TT PL WG nx (l, t) = ((l &&& ((bmk n D nx WG (hv (hv l (fun p => -TT p) n) (wpl D PL (Int32.ofNat nx)) n) (n + 1 - nx)) ^^^ (-1))), (t ||| (hv l (fun p => -TT p) n)), (bmk n D nx WG (hv (hv l (fun p => -TT p) n) (wpl D PL (Int32.ofNat nx)) n) (n + 1 - nx)), 12) := by
                    refine (pos_eq n D TT PL WG nx (l, t)).trans ?_
                    simp only [h42, h54, h81, h99, cond_true, cond_false]
                  have e7 := bcN_ok (bmk n D nx WG (hv (hv l (fun p => -TT p) n) (wpl D PL (Int32.ofNat nx)) n) (n + 1 - nx))
                  have e6 := bcN_le (bmk n D nx WG (hv (hv l (fun p => -TT p) n) (wpl D PL (Int32.ofNat nx)) n) (n + 1 - nx))
                  rw [i32_s, show Int32.ofNat nx + bc6 (bmk n D nx WG (hv (hv l (fun p => -TT p) n) (wpl D PL (Int32.ofNat nx)) n) (n + 1 - nx)) = Int32.ofNat (nx + bcN (bmk n D nx WG (hv (hv l (fun p => -TT p) n) (wpl D PL (Int32.ofNat nx)) n) (n + 1 - nx))) from by rw [e7, Int32.ofNat_add]]
                  refine yp_sel [0, 1, 2, 3, 4] ?_
                  refine ih (i + 1) (nx + bcN (bmk n D nx WG (hv (hv l (fun p => -TT p) n) (wpl D PL (Int32.ofNat nx)) n) (n + 1 - nx))) _ _ _ _ T4 (by omega) (by omega) (by omega) g4 gE gR (fun T9 a1 a2 a3 => kk T9 a1 ?_ ?_)
                  · intro p hp
                    rw [a2 p hp]
                    refine congrFun (congrArg Prod.fst ?_) p
                    refine Eq.symm ?_
                    refine (poR_s (hl := h26)).trans ?_
                    rw [e9]
                    rfl
                  · intro p hp
                    rw [a3 p hp]
                    refine congrFun (congrArg Prod.snd ?_) p
                    refine Eq.symm ?_
                    refine (poR_s (hl := h26)).trans ?_
                    rw [e9]
                    rfl
  · have hz : s 52 0 = Int32.ofNat n := hz
    have hD1 : s 52 1 = Int32.ofNat D := hD1
    intro m
    induction m with
    | zero =>
      intro i nx l t E R T hi h1x h2x fr hE hR kk
      have hzT : T 52 0 = Int32.ofNat n := (congrFun (fr _ (by decide) (by decide) (by decide)) 0).trans hz
      refine yp_run 3 (pc' := 22) (lv' := [(0, .ref 52), (1, .int l), (2, .int t), (3, .int (Int32.ofNat nx)), (4, .int (Int32.ofNat i))]) (st' := [.int (T 52 0), .int (Int32.ofNat i)]) (s' := T) rfl ?_
      refine yp_icmp rfl rfl (fun h => ?_) (fun h => ?_)
      · refine yp_sel [] ?_
        refine yp_rv rfl rfl ?_
        exact kk T fr hE hR
      · have h := xN (xc_ge _ _) h
        rw [hzT, i32_to (by omega), i32_to (by omega)] at h
        omega
    | succ m ih =>
      intro i nx l t E R T hi h1x h2x fr hE hR kk
      have hzT : T 52 0 = Int32.ofNat n := (congrFun (fr _ (by decide) (by decide) (by decide)) 0).trans hz
      refine yp_run 3 (pc' := 22) (lv' := [(0, .ref 52), (1, .int l), (2, .int t), (3, .int (Int32.ofNat nx)), (4, .int (Int32.ofNat i))]) (st' := [.int (T 52 0), .int (Int32.ofNat i)]) (s' := T) rfl ?_
      refine yp_icmp rfl rfl (fun h => ?_) (fun h => ?_)
      · have h := xT (xc_ge _ _) h
        rw [hzT, i32_to (by omega), i32_to (by omega)] at h
        omega
      · refine yp_run 1 (pc' := 26) (lv' := [(0, .ref 52), (1, .int l), (2, .int t), (3, .int (Int32.ofNat nx)), (4, .int (Int32.ofNat i))]) (st' := [.int l]) (s' := T) rfl ?_
        refine yp_if rfl rfl (fun h26 => ?_) (fun h26 => ?_)
        · refine yp_sel [] ?_
          refine yp_rv rfl rfl ?_
          exact kk T fr (fun p hp => by rw [poR_0 h26]; exact hE p hp) (fun p hp => by rw [poR_0 h26]; exact hR p hp)
        · refine yp_run 2 (pc' := 31) (lv' := [(0, .ref 52), (1, .int l), (2, .int t), (3, .int (Int32.ofNat nx)), (4, .int (Int32.ofNat i))]) (st' := [.int l, .ref 52]) (s' := T) rfl ?_
          have u0 : T 52 0 = Int32.ofNat n := (congrFun (fr _ (by decide) (by decide) (by decide)) 0).trans hz
          have u1 : T 52 1 = Int32.ofNat D := (congrFun (fr _ (by decide) (by decide) (by decide)) 1).trans hD1
          refine yp_vi rfl rfl rfl rfl (c_btot (TT := TT) (by decide) hn u0 (fun p hp => (congrFun (fr _ (by decide) (by decide) (by decide)) p).trans (hTT p hp)) ?_)
          obtain ⟨T1, hT1⟩ : ∃ X, X = wr T 73 0 n (fun p => -TT p) := ⟨_, rfl⟩
          rw [← hT1]
          have f1 : ∀ k, k ≠ 73 → T1 k = T k := fun k q => by rw [hT1]; exact wr_ne q
          refine yp_run 2 (pc' := 38) (lv' := [(0, .ref 52), (1, .int l), (2, .int t), (3, .int (Int32.ofNat nx)), (4, .int (Int32.ofNat i)), (5, .int (hv l (fun p => -TT p) n))]) (st' := [.int (hv l (fun p => -TT p) n)]) (s' := T1) rfl ?_
          refine yp_st rfl rfl (c_bits ?_)
          refine yp_run 1 (pc' := 42) (lv' := [(0, .ref 52), (1, .int l), (2, .int t), (3, .int (Int32.ofNat nx)), (4, .int (Int32.ofNat i)), (5, .int (hv l (fun p => -TT p) n))]) (st' := [.int 1, .int (bc6 (hv l (fun p => -TT p) n))]) (s' := T1) rfl ?_
          refine yp_icmp rfl rfl (fun h42 => ?_) (fun h42 => ?_)
          · refine yp_run 3 (pc' := 54) (lv' := [(0, .ref 52), (1, .int l), (2, .int t), (3, .int (Int32.ofNat nx)), (4, .int (Int32.ofNat i)), (5, .int (hv l (fun p => -TT p) n))]) (st' := [.int ((hv l (fun p => -TT p) n) &&& t)]) (s' := T1) rfl ?_
            refine yp_if rfl rfl (fun h54 => ?_) (fun h54 => ?_)
            · refine yp_run 5 (pc' := 70) (lv' := [(0, .ref 52), (1, .int l), (2, .int t), (3, .int (Int32.ofNat nx)), (4, .int (Int32.ofNat i)), (5, .int (hv l (fun p => -TT p) n)), (6, .int 10)]) (st' := [.int (Int32.ofNat nx), .int (hv l (fun p => -TT p) n), .ref 52]) (s' := T1) rfl ?_
              have v0 : T1 52 0 = Int32.ofNat n := (congrFun (f1 _ (by decide)) 0).trans u0
              have v1 : T1 52 1 = Int32.ofNat D := (congrFun (f1 _ (by decide)) 1).trans u1
              refine yp_vi rfl rfl rfl rfl (c_bplc (PL := PL) (by decide) hn hD v0 v1 (fun d p h1 h2 => (congrFun ((f1 _ (by decide)).trans (fr _ (by decide) (by decide) (by decide))) _).trans (hPL d p h1 h2)) ?_)
              obtain ⟨T2, hT2⟩ : ∃ X, X = wr T1 73 0 n (wpl D PL (Int32.ofNat nx)) := ⟨_, rfl⟩
              rw [← hT2]
              have f2 : ∀ k, k ≠ 73 → T2 k = T k := fun k q => by rw [hT2]; exact (wr_ne q).trans (f1 k q)
              refine yp_run 2 (pc' := 77) (lv' := [(0, .ref 52), (1, .int l), (2, .int t), (3, .int (Int32.ofNat nx)), (4, .int (Int32.ofNat i)), (5, .int (hv (hv l (fun p => -TT p) n) (wpl D PL (Int32.ofNat nx)) n)), (6, .int 10)]) (st' := [.int (hv (hv l (fun p => -TT p) n) (wpl D PL (Int32.ofNat nx)) n)]) (s' := T2) rfl ?_
              refine yp_st rfl rfl (c_bits ?_)
              refine yp_run 1 (pc' := 81) (lv' := [(0, .ref 52), (1, .int l), (2, .int t), (3, .int (Int32.ofNat nx)), (4, .int (Int32.ofNat i)), (5, .int (hv (hv l (fun p => -TT p) n) (wpl D PL (Int32.ofNat nx)) n)), (6, .int 10)]) (st' := [.int 1, .int (bc6 (hv (hv l (fun p => -TT p) n) (wpl D PL (Int32.ofNat nx)) n))]) (s' := T2) rfl ?_
              refine yp_icmp rfl rfl (fun h81 => ?_) (fun h81 => ?_)
              · refine yp_run 4 (pc' := 117) (lv' := [(0, .ref 52), (1, .int l), (2, .int t), (3, .int (Int32.ofNat nx)), (4, .int (Int32.ofNat i)), (5, .int (hv (hv l (fun p => -TT p) n) (wpl D PL (Int32.ofNat nx)) n)), (6, .int 10)]) (st' := [.int 10, .int (Int32.ofNat nx), .int (hv (hv l (fun p => -TT p) n) (wpl D PL (Int32.ofNat nx)) n), .ref 52]) (s' := T2) rfl ?_
                have y0 : T2 52 0 = Int32.ofNat n := (congrFun (f2 _ (by decide)) 0).trans u0
                refine yp_vi rfl rfl rfl rfl (c_take (w := 10) (by decide) hn y0 ?_)
                obtain ⟨T4, hT4⟩ : ∃ X, X = tkSt T2 52 (hv (hv l (fun p => -TT p) n) (wpl D PL (Int32.ofNat nx)) n) (2 * (Int32.ofNat nx) + bc6 (hv (hv l (fun p => -TT p) n) (wpl D PL (Int32.ofNat nx)) n) - 1) 10 n := ⟨_, rfl⟩
                rw [← hT4]
                have g4 : ∀ k, k ≠ 60 → k ≠ 62 → k ≠ 73 → T4 k = s k := fun k a b c => by rw [hT4]; exact (tkSt_ne a b).trans ((f2 k c).trans (fr k a b c))
                have gE : ∀ p, p < n → T4 60 p = bif xcmp .eq (hd (hv (hv l (fun p => -TT p) n) (wpl D PL (Int32.ofNat nx)) n) (Int32.ofNat p)) 0 then E p else 2 * Int32.ofNat nx + bc6 (hv (hv l (fun p => -TT p) n) (wpl D PL (Int32.ofNat nx)) n) - 1 := fun p hp => by
                  rw [hT4]
                  unfold tkSt
                  rw [wr_ne (by decide), wr_in (Nat.zero_le _) hp]
                  unfold tkf
                  rw [show T2 (52 + 8) p = E p from (congrFun (f2 _ (by decide)) p).trans (hE p hp)]
                have gR : ∀ p, p < n → T4 62 p = bif xcmp .eq (hd (hv (hv l (fun p => -TT p) n) (wpl D PL (Int32.ofNat nx)) n) (Int32.ofNat p)) 0 then R p else 10 := fun p hp => by
                  rw [hT4]
                  unfold tkSt
                  rw [show 62 = 52 + 10 from rfl, wr_in (Nat.zero_le _) hp]
                  unfold tkf
                  rw [show T2 (52 + 10) p = R p from (congrFun (f2 _ (by decide)) p).trans (hR p hp)]
                refine yp_run 2 (pc' := 123) (lv' := [(0, .ref 52), (1, .int l), (2, .int t), (3, .int (Int32.ofNat nx)), (4, .int (Int32.ofNat i)), (5, .int (hv (hv l (fun p => -TT p) n) (wpl D PL (Int32.ofNat nx)) n)), (6, .int 10)]) (st' := [.int (hv (hv l (fun p => -TT p) n) (wpl D PL (Int32.ofNat nx)) n), .int (Int32.ofNat nx)]) (s' := T4) rfl ?_
                refine yp_st rfl rfl (c_bits ?_)
                refine yp_run 10 (pc' := 16) (lv' := [(0, .ref 52), (1, .int (l &&& ((hv (hv l (fun p => -TT p) n) (wpl D PL (Int32.ofNat nx)) n) ^^^ (-1)))), (2, .int t), (3, .int ((Int32.ofNat nx) + (bc6 (hv (hv l (fun p => -TT p) n) (wpl D PL (Int32.ofNat nx)) n)))), (4, .int ((Int32.ofNat i) + 1)), (5, .int (hv (hv l (fun p => -TT p) n) (wpl D PL (Int32.ofNat nx)) n)), (6, .int 10)]) (st' := []) (s' := T4) rfl ?_
                have e9 : pos n D TT PL WG nx (l, t) = ((l &&& ((hv (hv l (fun p => -TT p) n) (wpl D PL (Int32.ofNat nx)) n) ^^^ (-1))), t, (hv (hv l (fun p => -TT p) n) (wpl D PL (Int32.ofNat nx)) n), 10) := by
                  refine (pos_eq n D TT PL WG nx (l, t)).trans ?_
                  simp only [h42, h54, h81, cond_true, cond_false]
                have e7 := bcN_ok (hv (hv l (fun p => -TT p) n) (wpl D PL (Int32.ofNat nx)) n)
                have e6 := bcN_le (hv (hv l (fun p => -TT p) n) (wpl D PL (Int32.ofNat nx)) n)
                rw [i32_s, show Int32.ofNat nx + bc6 (hv (hv l (fun p => -TT p) n) (wpl D PL (Int32.ofNat nx)) n) = Int32.ofNat (nx + bcN (hv (hv l (fun p => -TT p) n) (wpl D PL (Int32.ofNat nx)) n)) from by rw [e7, Int32.ofNat_add]]
                refine yp_sel [0, 1, 2, 3, 4] ?_
                refine ih (i + 1) (nx + bcN (hv (hv l (fun p => -TT p) n) (wpl D PL (Int32.ofNat nx)) n)) _ _ _ _ T4 (by omega) (by omega) (by omega) g4 gE gR (fun T9 a1 a2 a3 => kk T9 a1 ?_ ?_)
                · intro p hp
                  rw [a2 p hp]
                  refine congrFun (congrArg Prod.fst ?_) p
                  refine Eq.symm ?_
                  refine (poR_s (hl := h26)).trans ?_
                  rw [e9]
                  rfl
                · intro p hp
                  rw [a3 p hp]
                  refine congrFun (congrArg Prod.snd ?_) p
                  refine Eq.symm ?_
                  refine (poR_s (hl := h26)).trans ?_
                  rw [e9]
                  rfl
              · refine yp_run 3 (pc' := 88) (lv' := [(0, .ref 52), (1, .int l), (2, .int t), (3, .int (Int32.ofNat nx)), (4, .int (Int32.ofNat i)), (5, .int (hv (hv l (fun p => -TT p) n) (wpl D PL (Int32.ofNat nx)) n)), (6, .int 10)]) (st' := [.int (Int32.ofNat nx), .int (hv (hv l (fun p => -TT p) n) (wpl D PL (Int32.ofNat nx)) n), .ref 52]) (s' := T2) rfl ?_
                have v0 : T2 52 0 = Int32.ofNat n := (congrFun (f2 _ (by decide)) 0).trans u0
                have v1 : T2 52 1 = Int32.ofNat D := (congrFun (f2 _ (by decide)) 1).trans u1
                refine yp_vi rfl rfl rfl rfl (c_bmrk (WG := WG) (by decide) hn hD h1x (by omega) v0 v1 (fun d p q h1 h2 h3 h4 => (congrFun ((f2 _ (by decide)).trans (fr _ (by decide) (by decide) (by decide))) _).trans (hWG d p q h1 h2 h3 h4)) ?_)
                obtain ⟨T3, hT3⟩ : ∃ X, X = bmSt T2 52 n D nx WG (n + 1 - nx) := ⟨_, rfl⟩
                rw [← hT3]
                have f3 : ∀ k, k ≠ 73 → T3 k = T k := fun k q => by rw [hT3]; exact (bmSt_ne q).trans (f2 k q)
                refine yp_run 2 (pc' := 95) (lv' := [(0, .ref 52), (1, .int l), (2, .int t), (3, .int (Int32.ofNat nx)), (4, .int (Int32.ofNat i)), (5, .int (bmk n D nx WG (hv (hv l (fun p => -TT p) n) (wpl D PL (Int32.ofNat nx)) n) (n + 1 - nx))), (6, .int 10)]) (st' := [.int (bmk n D nx WG (hv (hv l (fun p => -TT p) n) (wpl D PL (Int32.ofNat nx)) n) (n + 1 - nx))]) (s' := T3) rfl ?_
                refine yp_st rfl rfl (c_bits ?_)
                refine yp_run 1 (pc' := 99) (lv' := [(0, .ref 52), (1, .int l), (2, .int t), (3, .int (Int32.ofNat nx)), (4, .int (Int32.ofNat i)), (5, .int (bmk n D nx WG (hv (hv l (fun p => -TT p) n) (wpl D PL (Int32.ofNat nx)) n) (n + 1 - nx))), (6, .int 10)]) (st' := [.int 1, .int (bc6 (bmk n D nx WG (hv (hv l (fun p => -TT p) n) (wpl D PL (Int32.ofNat nx)) n) (n + 1 - nx)))]) (s' := T3) rfl ?_
                refine yp_icmp rfl rfl (fun h99 => ?_) (fun h99 => ?_)
                · refine yp_run 6 (pc' := 117) (lv' := [(0, .ref 52), (1, .int l), (2, .int t), (3, .int (Int32.ofNat nx)), (4, .int (Int32.ofNat i)), (5, .int (bmk n D nx WG (hv (hv l (fun p => -TT p) n) (wpl D PL (Int32.ofNat nx)) n) (n + 1 - nx))), (6, .int 11)]) (st' := [.int 11, .int (Int32.ofNat nx), .int (bmk n D nx WG (hv (hv l (fun p => -TT p) n) (wpl D PL (Int32.ofNat nx)) n) (n + 1 - nx)), .ref 52]) (s' := T3) rfl ?_
                  have y0 : T3 52 0 = Int32.ofNat n := (congrFun (f3 _ (by decide)) 0).trans u0
                  refine yp_vi rfl rfl rfl rfl (c_take (w := 11) (by decide) hn y0 ?_)
                  obtain ⟨T4, hT4⟩ : ∃ X, X = tkSt T3 52 (bmk n D nx WG (hv (hv l (fun p => -TT p) n) (wpl D PL (Int32.ofNat nx)) n) (n + 1 - nx)) (2 * (Int32.ofNat nx) + bc6 (bmk n D nx WG (hv (hv l (fun p => -TT p) n) (wpl D PL (Int32.ofNat nx)) n) (n + 1 - nx)) - 1) 11 n := ⟨_, rfl⟩
                  rw [← hT4]
                  have g4 : ∀ k, k ≠ 60 → k ≠ 62 → k ≠ 73 → T4 k = s k := fun k a b c => by rw [hT4]; exact (tkSt_ne a b).trans ((f3 k c).trans (fr k a b c))
                  have gE : ∀ p, p < n → T4 60 p = bif xcmp .eq (hd (bmk n D nx WG (hv (hv l (fun p => -TT p) n) (wpl D PL (Int32.ofNat nx)) n) (n + 1 - nx)) (Int32.ofNat p)) 0 then E p else 2 * Int32.ofNat nx + bc6 (bmk n D nx WG (hv (hv l (fun p => -TT p) n) (wpl D PL (Int32.ofNat nx)) n) (n + 1 - nx)) - 1 := fun p hp => by
                    rw [hT4]
                    unfold tkSt
                    rw [wr_ne (by decide), wr_in (Nat.zero_le _) hp]
                    unfold tkf
                    rw [show T3 (52 + 8) p = E p from (congrFun (f3 _ (by decide)) p).trans (hE p hp)]
                  have gR : ∀ p, p < n → T4 62 p = bif xcmp .eq (hd (bmk n D nx WG (hv (hv l (fun p => -TT p) n) (wpl D PL (Int32.ofNat nx)) n) (n + 1 - nx)) (Int32.ofNat p)) 0 then R p else 11 := fun p hp => by
                    rw [hT4]
                    unfold tkSt
                    rw [show 62 = 52 + 10 from rfl, wr_in (Nat.zero_le _) hp]
                    unfold tkf
                    rw [show T3 (52 + 10) p = R p from (congrFun (f3 _ (by decide)) p).trans (hR p hp)]
                  refine yp_run 2 (pc' := 123) (lv' := [(0, .ref 52), (1, .int l), (2, .int t), (3, .int (Int32.ofNat nx)), (4, .int (Int32.ofNat i)), (5, .int (bmk n D nx WG (hv (hv l (fun p => -TT p) n) (wpl D PL (Int32.ofNat nx)) n) (n + 1 - nx))), (6, .int 11)]) (st' := [.int (bmk n D nx WG (hv (hv l (fun p => -TT p) n) (wpl D PL (Int32.ofNat nx)) n) (n + 1 - nx)), .int (Int32.ofNat nx)]) (s' := T4) rfl ?_
                  refine yp_st rfl rfl (c_bits ?_)
                  refine yp_run 10 (pc' := 16) (lv' := [(0, .ref 52), (1, .int (l &&& ((bmk n D nx WG (hv (hv l (fun p => -TT p) n) (wpl D PL (Int32.ofNat nx)) n) (n + 1 - nx)) ^^^ (-1)))), (2, .int t), (3, .int ((Int32.ofNat nx) + (bc6 (bmk n D nx WG (hv (hv l (fun p => -TT p) n) (wpl D PL (Int32.ofNat nx)) n) (n + 1 - nx))))), (4, .int ((Int32.ofNat i) + 1)), (5, .int (bmk n D nx WG (hv (hv l (fun p => -TT p) n) (wpl D PL (Int32.ofNat nx)) n) (n + 1 - nx))), (6, .int 11)]) (st' := []) (s' := T4) rfl ?_
                  have e9 : pos n D TT PL WG nx (l, t) = ((l &&& ((bmk n D nx WG (hv (hv l (fun p => -TT p) n) (wpl D PL (Int32.ofNat nx)) n) (n + 1 - nx)) ^^^ (-1))), t, (bmk n D nx WG (hv (hv l (fun p => -TT p) n) (wpl D PL (Int32.ofNat nx)) n) (n + 1 - nx)), 11) := by
                    refine (pos_eq n D TT PL WG nx (l, t)).trans ?_
                    simp only [h42, h54, h81, h99, cond_true, cond_false]
                  have e7 := bcN_ok (bmk n D nx WG (hv (hv l (fun p => -TT p) n) (wpl D PL (Int32.ofNat nx)) n) (n + 1 - nx))
                  have e6 := bcN_le (bmk n D nx WG (hv (hv l (fun p => -TT p) n) (wpl D PL (Int32.ofNat nx)) n) (n + 1 - nx))
                  rw [i32_s, show Int32.ofNat nx + bc6 (bmk n D nx WG (hv (hv l (fun p => -TT p) n) (wpl D PL (Int32.ofNat nx)) n) (n + 1 - nx)) = Int32.ofNat (nx + bcN (bmk n D nx WG (hv (hv l (fun p => -TT p) n) (wpl D PL (Int32.ofNat nx)) n) (n + 1 - nx))) from by rw [e7, Int32.ofNat_add]]
                  refine yp_sel [0, 1, 2, 3, 4] ?_
                  refine ih (i + 1) (nx + bcN (bmk n D nx WG (hv (hv l (fun p => -TT p) n) (wpl D PL (Int32.ofNat nx)) n) (n + 1 - nx))) _ _ _ _ T4 (by omega) (by omega) (by omega) g4 gE gR (fun T9 a1 a2 a3 => kk T9 a1 ?_ ?_)
                  · intro p hp
                    rw [a2 p hp]
                    refine congrFun (congrArg Prod.fst ?_) p
                    refine Eq.symm ?_
                    refine (poR_s (hl := h26)).trans ?_
                    rw [e9]
                    rfl
                  · intro p hp
                    rw [a3 p hp]
                    refine congrFun (congrArg Prod.snd ?_) p
                    refine Eq.symm ?_
                    refine (poR_s (hl := h26)).trans ?_
                    rw [e9]
                    rfl
                · refine yp_run 7 (pc' := 117) (lv' := [(0, .ref 52), (1, .int l), (2, .int t), (3, .int (Int32.ofNat nx)), (4, .int (Int32.ofNat i)), (5, .int (bmk n D nx WG (hv (hv l (fun p => -TT p) n) (wpl D PL (Int32.ofNat nx)) n) (n + 1 - nx))), (6, .int 12)]) (st' := [.int 12, .int (Int32.ofNat nx), .int (bmk n D nx WG (hv (hv l (fun p => -TT p) n) (wpl D PL (Int32.ofNat nx)) n) (n + 1 - nx)), .ref 52]) (s' := T3) rfl ?_
                  have y0 : T3 52 0 = Int32.ofNat n := (congrFun (f3 _ (by decide)) 0).trans u0
                  refine yp_vi rfl rfl rfl rfl (c_take (w := 12) (by decide) hn y0 ?_)
                  obtain ⟨T4, hT4⟩ : ∃ X, X = tkSt T3 52 (bmk n D nx WG (hv (hv l (fun p => -TT p) n) (wpl D PL (Int32.ofNat nx)) n) (n + 1 - nx)) (2 * (Int32.ofNat nx) + bc6 (bmk n D nx WG (hv (hv l (fun p => -TT p) n) (wpl D PL (Int32.ofNat nx)) n) (n + 1 - nx)) - 1) 12 n := ⟨_, rfl⟩
                  rw [← hT4]
                  have g4 : ∀ k, k ≠ 60 → k ≠ 62 → k ≠ 73 → T4 k = s k := fun k a b c => by rw [hT4]; exact (tkSt_ne a b).trans ((f3 k c).trans (fr k a b c))
                  have gE : ∀ p, p < n → T4 60 p = bif xcmp .eq (hd (bmk n D nx WG (hv (hv l (fun p => -TT p) n) (wpl D PL (Int32.ofNat nx)) n) (n + 1 - nx)) (Int32.ofNat p)) 0 then E p else 2 * Int32.ofNat nx + bc6 (bmk n D nx WG (hv (hv l (fun p => -TT p) n) (wpl D PL (Int32.ofNat nx)) n) (n + 1 - nx)) - 1 := fun p hp => by
                    rw [hT4]
                    unfold tkSt
                    rw [wr_ne (by decide), wr_in (Nat.zero_le _) hp]
                    unfold tkf
                    rw [show T3 (52 + 8) p = E p from (congrFun (f3 _ (by decide)) p).trans (hE p hp)]
                  have gR : ∀ p, p < n → T4 62 p = bif xcmp .eq (hd (bmk n D nx WG (hv (hv l (fun p => -TT p) n) (wpl D PL (Int32.ofNat nx)) n) (n + 1 - nx)) (Int32.ofNat p)) 0 then R p else 12 := fun p hp => by
                    rw [hT4]
                    unfold tkSt
                    rw [show 62 = 52 + 10 from rfl, wr_in (Nat.zero_le _) hp]
                    unfold tkf
                    rw [show T3 (52 + 10) p = R p from (congrFun (f3 _ (by decide)) p).trans (hR p hp)]
                  refine yp_run 2 (pc' := 123) (lv' := [(0, .ref 52), (1, .int l), (2, .int t), (3, .int (Int32.ofNat nx)), (4, .int (Int32.ofNat i)), (5, .int (bmk n D nx WG (hv (hv l (fun p => -TT p) n) (wpl D PL (Int32.ofNat nx)) n) (n + 1 - nx))), (6, .int 12)]) (st' := [.int (bmk n D nx WG (hv (hv l (fun p => -TT p) n) (wpl D PL (Int32.ofNat nx)) n) (n + 1 - nx)), .int (Int32.ofNat nx)]) (s' := T4) rfl ?_
                  refine yp_st rfl rfl (c_bits ?_)
                  refine yp_run 10 (pc' := 16) (lv' := [(0, .ref 52), (1, .int (l &&& ((bmk n D nx WG (hv (hv l (fun p => -TT p) n) (wpl D PL (Int32.ofNat nx)) n) (n + 1 - nx)) ^^^ (-1)))), (2, .int t), (3, .int ((Int32.ofNat nx) + (bc6 (bmk n D nx WG (hv (hv l (fun p => -TT p) n) (wpl D PL (Int32.ofNat nx)) n) (n + 1 - nx))))), (4, .int ((Int32.ofNat i) + 1)), (5, .int (bmk n D nx WG (hv (hv l (fun p => -TT p) n) (wpl D PL (Int32.ofNat nx)) n) (n + 1 - nx))), (6, .int 12)]) (st' := []) (s' := T4) rfl ?_
                  have e9 : pos n D TT PL WG nx (l, t) = ((l &&& ((bmk n D nx WG (hv (hv l (fun p => -TT p) n) (wpl D PL (Int32.ofNat nx)) n) (n + 1 - nx)) ^^^ (-1))), t, (bmk n D nx WG (hv (hv l (fun p => -TT p) n) (wpl D PL (Int32.ofNat nx)) n) (n + 1 - nx)), 12) := by
                    refine (pos_eq n D TT PL WG nx (l, t)).trans ?_
                    simp only [h42, h54, h81, h99, cond_true, cond_false]
                  have e7 := bcN_ok (bmk n D nx WG (hv (hv l (fun p => -TT p) n) (wpl D PL (Int32.ofNat nx)) n) (n + 1 - nx))
                  have e6 := bcN_le (bmk n D nx WG (hv (hv l (fun p => -TT p) n) (wpl D PL (Int32.ofNat nx)) n) (n + 1 - nx))
                  rw [i32_s, show Int32.ofNat nx + bc6 (bmk n D nx WG (hv (hv l (fun p => -TT p) n) (wpl D PL (Int32.ofNat nx)) n) (n + 1 - nx)) = Int32.ofNat (nx + bcN (bmk n D nx WG (hv (hv l (fun p => -TT p) n) (wpl D PL (Int32.ofNat nx)) n) (n + 1 - nx))) from by rw [e7, Int32.ofNat_add]]
                  refine yp_sel [0, 1, 2, 3, 4] ?_
                  refine ih (i + 1) (nx + bcN (bmk n D nx WG (hv (hv l (fun p => -TT p) n) (wpl D PL (Int32.ofNat nx)) n) (n + 1 - nx))) _ _ _ _ T4 (by omega) (by omega) (by omega) g4 gE gR (fun T9 a1 a2 a3 => kk T9 a1 ?_ ?_)
                  · intro p hp
                    rw [a2 p hp]
                    refine congrFun (congrArg Prod.fst ?_) p
                    refine Eq.symm ?_
                    refine (poR_s (hl := h26)).trans ?_
                    rw [e9]
                    rfl
                  · intro p hp
                    rw [a3 p hp]
                    refine congrFun (congrArg Prod.snd ?_) p
                    refine Eq.symm ?_
                    refine (poR_s (hl := h26)).trans ?_
                    rw [e9]
                    rfl
            · refine yp_run 6 (pc' := 70) (lv' := [(0, .ref 52), (1, .int l), (2, .int t), (3, .int (Int32.ofNat nx)), (4, .int (Int32.ofNat i)), (5, .int (hv l (fun p => -TT p) n)), (6, .int 9)]) (st' := [.int (Int32.ofNat nx), .int (hv l (fun p => -TT p) n), .ref 52]) (s' := T1) rfl ?_
              have v0 : T1 52 0 = Int32.ofNat n := (congrFun (f1 _ (by decide)) 0).trans u0
              have v1 : T1 52 1 = Int32.ofNat D := (congrFun (f1 _ (by decide)) 1).trans u1
              refine yp_vi rfl rfl rfl rfl (c_bplc (PL := PL) (by decide) hn hD v0 v1 (fun d p h1 h2 => (congrFun ((f1 _ (by decide)).trans (fr _ (by decide) (by decide) (by decide))) _).trans (hPL d p h1 h2)) ?_)
              obtain ⟨T2, hT2⟩ : ∃ X, X = wr T1 73 0 n (wpl D PL (Int32.ofNat nx)) := ⟨_, rfl⟩
              rw [← hT2]
              have f2 : ∀ k, k ≠ 73 → T2 k = T k := fun k q => by rw [hT2]; exact (wr_ne q).trans (f1 k q)
              refine yp_run 2 (pc' := 77) (lv' := [(0, .ref 52), (1, .int l), (2, .int t), (3, .int (Int32.ofNat nx)), (4, .int (Int32.ofNat i)), (5, .int (hv (hv l (fun p => -TT p) n) (wpl D PL (Int32.ofNat nx)) n)), (6, .int 9)]) (st' := [.int (hv (hv l (fun p => -TT p) n) (wpl D PL (Int32.ofNat nx)) n)]) (s' := T2) rfl ?_
              refine yp_st rfl rfl (c_bits ?_)
              refine yp_run 1 (pc' := 81) (lv' := [(0, .ref 52), (1, .int l), (2, .int t), (3, .int (Int32.ofNat nx)), (4, .int (Int32.ofNat i)), (5, .int (hv (hv l (fun p => -TT p) n) (wpl D PL (Int32.ofNat nx)) n)), (6, .int 9)]) (st' := [.int 1, .int (bc6 (hv (hv l (fun p => -TT p) n) (wpl D PL (Int32.ofNat nx)) n))]) (s' := T2) rfl ?_
              refine yp_icmp rfl rfl (fun h81 => ?_) (fun h81 => ?_)
              · refine yp_run 4 (pc' := 117) (lv' := [(0, .ref 52), (1, .int l), (2, .int t), (3, .int (Int32.ofNat nx)), (4, .int (Int32.ofNat i)), (5, .int (hv (hv l (fun p => -TT p) n) (wpl D PL (Int32.ofNat nx)) n)), (6, .int 9)]) (st' := [.int 9, .int (Int32.ofNat nx), .int (hv (hv l (fun p => -TT p) n) (wpl D PL (Int32.ofNat nx)) n), .ref 52]) (s' := T2) rfl ?_
                have y0 : T2 52 0 = Int32.ofNat n := (congrFun (f2 _ (by decide)) 0).trans u0
                refine yp_vi rfl rfl rfl rfl (c_take (w := 9) (by decide) hn y0 ?_)
                obtain ⟨T4, hT4⟩ : ∃ X, X = tkSt T2 52 (hv (hv l (fun p => -TT p) n) (wpl D PL (Int32.ofNat nx)) n) (2 * (Int32.ofNat nx) + bc6 (hv (hv l (fun p => -TT p) n) (wpl D PL (Int32.ofNat nx)) n) - 1) 9 n := ⟨_, rfl⟩
                rw [← hT4]
                have g4 : ∀ k, k ≠ 60 → k ≠ 62 → k ≠ 73 → T4 k = s k := fun k a b c => by rw [hT4]; exact (tkSt_ne a b).trans ((f2 k c).trans (fr k a b c))
                have gE : ∀ p, p < n → T4 60 p = bif xcmp .eq (hd (hv (hv l (fun p => -TT p) n) (wpl D PL (Int32.ofNat nx)) n) (Int32.ofNat p)) 0 then E p else 2 * Int32.ofNat nx + bc6 (hv (hv l (fun p => -TT p) n) (wpl D PL (Int32.ofNat nx)) n) - 1 := fun p hp => by
                  rw [hT4]
                  unfold tkSt
                  rw [wr_ne (by decide), wr_in (Nat.zero_le _) hp]
                  unfold tkf
                  rw [show T2 (52 + 8) p = E p from (congrFun (f2 _ (by decide)) p).trans (hE p hp)]
                have gR : ∀ p, p < n → T4 62 p = bif xcmp .eq (hd (hv (hv l (fun p => -TT p) n) (wpl D PL (Int32.ofNat nx)) n) (Int32.ofNat p)) 0 then R p else 9 := fun p hp => by
                  rw [hT4]
                  unfold tkSt
                  rw [show 62 = 52 + 10 from rfl, wr_in (Nat.zero_le _) hp]
                  unfold tkf
                  rw [show T2 (52 + 10) p = R p from (congrFun (f2 _ (by decide)) p).trans (hR p hp)]
                refine yp_run 2 (pc' := 123) (lv' := [(0, .ref 52), (1, .int l), (2, .int t), (3, .int (Int32.ofNat nx)), (4, .int (Int32.ofNat i)), (5, .int (hv (hv l (fun p => -TT p) n) (wpl D PL (Int32.ofNat nx)) n)), (6, .int 9)]) (st' := [.int (hv (hv l (fun p => -TT p) n) (wpl D PL (Int32.ofNat nx)) n), .int (Int32.ofNat nx)]) (s' := T4) rfl ?_
                refine yp_st rfl rfl (c_bits ?_)
                refine yp_run 10 (pc' := 16) (lv' := [(0, .ref 52), (1, .int (l &&& ((hv (hv l (fun p => -TT p) n) (wpl D PL (Int32.ofNat nx)) n) ^^^ (-1)))), (2, .int t), (3, .int ((Int32.ofNat nx) + (bc6 (hv (hv l (fun p => -TT p) n) (wpl D PL (Int32.ofNat nx)) n)))), (4, .int ((Int32.ofNat i) + 1)), (5, .int (hv (hv l (fun p => -TT p) n) (wpl D PL (Int32.ofNat nx)) n)), (6, .int 9)]) (st' := []) (s' := T4) rfl ?_
                have e9 : pos n D TT PL WG nx (l, t) = ((l &&& ((hv (hv l (fun p => -TT p) n) (wpl D PL (Int32.ofNat nx)) n) ^^^ (-1))), t, (hv (hv l (fun p => -TT p) n) (wpl D PL (Int32.ofNat nx)) n), 9) := by
                  refine (pos_eq n D TT PL WG nx (l, t)).trans ?_
                  simp only [h42, h54, h81, cond_true, cond_false]
                have e7 := bcN_ok (hv (hv l (fun p => -TT p) n) (wpl D PL (Int32.ofNat nx)) n)
                have e6 := bcN_le (hv (hv l (fun p => -TT p) n) (wpl D PL (Int32.ofNat nx)) n)
                rw [i32_s, show Int32.ofNat nx + bc6 (hv (hv l (fun p => -TT p) n) (wpl D PL (Int32.ofNat nx)) n) = Int32.ofNat (nx + bcN (hv (hv l (fun p => -TT p) n) (wpl D PL (Int32.ofNat nx)) n)) from by rw [e7, Int32.ofNat_add]]
                refine yp_sel [0, 1, 2, 3, 4] ?_
                refine ih (i + 1) (nx + bcN (hv (hv l (fun p => -TT p) n) (wpl D PL (Int32.ofNat nx)) n)) _ _ _ _ T4 (by omega) (by omega) (by omega) g4 gE gR (fun T9 a1 a2 a3 => kk T9 a1 ?_ ?_)
                · intro p hp
                  rw [a2 p hp]
                  refine congrFun (congrArg Prod.fst ?_) p
                  refine Eq.symm ?_
                  refine (poR_s (hl := h26)).trans ?_
                  rw [e9]
                  rfl
                · intro p hp
                  rw [a3 p hp]
                  refine congrFun (congrArg Prod.snd ?_) p
                  refine Eq.symm ?_
                  refine (poR_s (hl := h26)).trans ?_
                  rw [e9]
                  rfl
              · refine yp_run 3 (pc' := 88) (lv' := [(0, .ref 52), (1, .int l), (2, .int t), (3, .int (Int32.ofNat nx)), (4, .int (Int32.ofNat i)), (5, .int (hv (hv l (fun p => -TT p) n) (wpl D PL (Int32.ofNat nx)) n)), (6, .int 9)]) (st' := [.int (Int32.ofNat nx), .int (hv (hv l (fun p => -TT p) n) (wpl D PL (Int32.ofNat nx)) n), .ref 52]) (s' := T2) rfl ?_
                have v0 : T2 52 0 = Int32.ofNat n := (congrFun (f2 _ (by decide)) 0).trans u0
                have v1 : T2 52 1 = Int32.ofNat D := (congrFun (f2 _ (by decide)) 1).trans u1
                refine yp_vi rfl rfl rfl rfl (c_bmrk (WG := WG) (by decide) hn hD h1x (by omega) v0 v1 (fun d p q h1 h2 h3 h4 => (congrFun ((f2 _ (by decide)).trans (fr _ (by decide) (by decide) (by decide))) _).trans (hWG d p q h1 h2 h3 h4)) ?_)
                obtain ⟨T3, hT3⟩ : ∃ X, X = bmSt T2 52 n D nx WG (n + 1 - nx) := ⟨_, rfl⟩
                rw [← hT3]
                have f3 : ∀ k, k ≠ 73 → T3 k = T k := fun k q => by rw [hT3]; exact (bmSt_ne q).trans (f2 k q)
                refine yp_run 2 (pc' := 95) (lv' := [(0, .ref 52), (1, .int l), (2, .int t), (3, .int (Int32.ofNat nx)), (4, .int (Int32.ofNat i)), (5, .int (bmk n D nx WG (hv (hv l (fun p => -TT p) n) (wpl D PL (Int32.ofNat nx)) n) (n + 1 - nx))), (6, .int 9)]) (st' := [.int (bmk n D nx WG (hv (hv l (fun p => -TT p) n) (wpl D PL (Int32.ofNat nx)) n) (n + 1 - nx))]) (s' := T3) rfl ?_
                refine yp_st rfl rfl (c_bits ?_)
                refine yp_run 1 (pc' := 99) (lv' := [(0, .ref 52), (1, .int l), (2, .int t), (3, .int (Int32.ofNat nx)), (4, .int (Int32.ofNat i)), (5, .int (bmk n D nx WG (hv (hv l (fun p => -TT p) n) (wpl D PL (Int32.ofNat nx)) n) (n + 1 - nx))), (6, .int 9)]) (st' := [.int 1, .int (bc6 (bmk n D nx WG (hv (hv l (fun p => -TT p) n) (wpl D PL (Int32.ofNat nx)) n) (n + 1 - nx)))]) (s' := T3) rfl ?_
                refine yp_icmp rfl rfl (fun h99 => ?_) (fun h99 => ?_)
                · refine yp_run 6 (pc' := 117) (lv' := [(0, .ref 52), (1, .int l), (2, .int t), (3, .int (Int32.ofNat nx)), (4, .int (Int32.ofNat i)), (5, .int (bmk n D nx WG (hv (hv l (fun p => -TT p) n) (wpl D PL (Int32.ofNat nx)) n) (n + 1 - nx))), (6, .int 11)]) (st' := [.int 11, .int (Int32.ofNat nx), .int (bmk n D nx WG (hv (hv l (fun p => -TT p) n) (wpl D PL (Int32.ofNat nx)) n) (n + 1 - nx)), .ref 52]) (s' := T3) rfl ?_
                  have y0 : T3 52 0 = Int32.ofNat n := (congrFun (f3 _ (by decide)) 0).trans u0
                  refine yp_vi rfl rfl rfl rfl (c_take (w := 11) (by decide) hn y0 ?_)
                  obtain ⟨T4, hT4⟩ : ∃ X, X = tkSt T3 52 (bmk n D nx WG (hv (hv l (fun p => -TT p) n) (wpl D PL (Int32.ofNat nx)) n) (n + 1 - nx)) (2 * (Int32.ofNat nx) + bc6 (bmk n D nx WG (hv (hv l (fun p => -TT p) n) (wpl D PL (Int32.ofNat nx)) n) (n + 1 - nx)) - 1) 11 n := ⟨_, rfl⟩
                  rw [← hT4]
                  have g4 : ∀ k, k ≠ 60 → k ≠ 62 → k ≠ 73 → T4 k = s k := fun k a b c => by rw [hT4]; exact (tkSt_ne a b).trans ((f3 k c).trans (fr k a b c))
                  have gE : ∀ p, p < n → T4 60 p = bif xcmp .eq (hd (bmk n D nx WG (hv (hv l (fun p => -TT p) n) (wpl D PL (Int32.ofNat nx)) n) (n + 1 - nx)) (Int32.ofNat p)) 0 then E p else 2 * Int32.ofNat nx + bc6 (bmk n D nx WG (hv (hv l (fun p => -TT p) n) (wpl D PL (Int32.ofNat nx)) n) (n + 1 - nx)) - 1 := fun p hp => by
                    rw [hT4]
                    unfold tkSt
                    rw [wr_ne (by decide), wr_in (Nat.zero_le _) hp]
                    unfold tkf
                    rw [show T3 (52 + 8) p = E p from (congrFun (f3 _ (by decide)) p).trans (hE p hp)]
                  have gR : ∀ p, p < n → T4 62 p = bif xcmp .eq (hd (bmk n D nx WG (hv (hv l (fun p => -TT p) n) (wpl D PL (Int32.ofNat nx)) n) (n + 1 - nx)) (Int32.ofNat p)) 0 then R p else 11 := fun p hp => by
                    rw [hT4]
                    unfold tkSt
                    rw [show 62 = 52 + 10 from rfl, wr_in (Nat.zero_le _) hp]
                    unfold tkf
                    rw [show T3 (52 + 10) p = R p from (congrFun (f3 _ (by decide)) p).trans (hR p hp)]
                  refine yp_run 2 (pc' := 123) (lv' := [(0, .ref 52), (1, .int l), (2, .int t), (3, .int (Int32.ofNat nx)), (4, .int (Int32.ofNat i)), (5, .int (bmk n D nx WG (hv (hv l (fun p => -TT p) n) (wpl D PL (Int32.ofNat nx)) n) (n + 1 - nx))), (6, .int 11)]) (st' := [.int (bmk n D nx WG (hv (hv l (fun p => -TT p) n) (wpl D PL (Int32.ofNat nx)) n) (n + 1 - nx)), .int (Int32.ofNat nx)]) (s' := T4) rfl ?_
                  refine yp_st rfl rfl (c_bits ?_)
                  refine yp_run 10 (pc' := 16) (lv' := [(0, .ref 52), (1, .int (l &&& ((bmk n D nx WG (hv (hv l (fun p => -TT p) n) (wpl D PL (Int32.ofNat nx)) n) (n + 1 - nx)) ^^^ (-1)))), (2, .int t), (3, .int ((Int32.ofNat nx) + (bc6 (bmk n D nx WG (hv (hv l (fun p => -TT p) n) (wpl D PL (Int32.ofNat nx)) n) (n + 1 - nx))))), (4, .int ((Int32.ofNat i) + 1)), (5, .int (bmk n D nx WG (hv (hv l (fun p => -TT p) n) (wpl D PL (Int32.ofNat nx)) n) (n + 1 - nx))), (6, .int 11)]) (st' := []) (s' := T4) rfl ?_
                  have e9 : pos n D TT PL WG nx (l, t) = ((l &&& ((bmk n D nx WG (hv (hv l (fun p => -TT p) n) (wpl D PL (Int32.ofNat nx)) n) (n + 1 - nx)) ^^^ (-1))), t, (bmk n D nx WG (hv (hv l (fun p => -TT p) n) (wpl D PL (Int32.ofNat nx)) n) (n + 1 - nx)), 11) := by
                    refine (pos_eq n D TT PL WG nx (l, t)).trans ?_
                    simp only [h42, h54, h81, h99, cond_true, cond_false]
                  have e7 := bcN_ok (bmk n D nx WG (hv (hv l (fun p => -TT p) n) (wpl D PL (Int32.ofNat nx)) n) (n + 1 - nx))
                  have e6 := bcN_le (bmk n D nx WG (hv (hv l (fun p => -TT p) n) (wpl D PL (Int32.ofNat nx)) n) (n + 1 - nx))
                  rw [i32_s, show Int32.ofNat nx + bc6 (bmk n D nx WG (hv (hv l (fun p => -TT p) n) (wpl D PL (Int32.ofNat nx)) n) (n + 1 - nx)) = Int32.ofNat (nx + bcN (bmk n D nx WG (hv (hv l (fun p => -TT p) n) (wpl D PL (Int32.ofNat nx)) n) (n + 1 - nx))) from by rw [e7, Int32.ofNat_add]]
                  refine yp_sel [0, 1, 2, 3, 4] ?_
                  refine ih (i + 1) (nx + bcN (bmk n D nx WG (hv (hv l (fun p => -TT p) n) (wpl D PL (Int32.ofNat nx)) n) (n + 1 - nx))) _ _ _ _ T4 (by omega) (by omega) (by omega) g4 gE gR (fun T9 a1 a2 a3 => kk T9 a1 ?_ ?_)
                  · intro p hp
                    rw [a2 p hp]
                    refine congrFun (congrArg Prod.fst ?_) p
                    refine Eq.symm ?_
                    refine (poR_s (hl := h26)).trans ?_
                    rw [e9]
                    rfl
                  · intro p hp
                    rw [a3 p hp]
                    refine congrFun (congrArg Prod.snd ?_) p
                    refine Eq.symm ?_
                    refine (poR_s (hl := h26)).trans ?_
                    rw [e9]
                    rfl
                · refine yp_run 7 (pc' := 117) (lv' := [(0, .ref 52), (1, .int l), (2, .int t), (3, .int (Int32.ofNat nx)), (4, .int (Int32.ofNat i)), (5, .int (bmk n D nx WG (hv (hv l (fun p => -TT p) n) (wpl D PL (Int32.ofNat nx)) n) (n + 1 - nx))), (6, .int 12)]) (st' := [.int 12, .int (Int32.ofNat nx), .int (bmk n D nx WG (hv (hv l (fun p => -TT p) n) (wpl D PL (Int32.ofNat nx)) n) (n + 1 - nx)), .ref 52]) (s' := T3) rfl ?_
                  have y0 : T3 52 0 = Int32.ofNat n := (congrFun (f3 _ (by decide)) 0).trans u0
                  refine yp_vi rfl rfl rfl rfl (c_take (w := 12) (by decide) hn y0 ?_)
                  obtain ⟨T4, hT4⟩ : ∃ X, X = tkSt T3 52 (bmk n D nx WG (hv (hv l (fun p => -TT p) n) (wpl D PL (Int32.ofNat nx)) n) (n + 1 - nx)) (2 * (Int32.ofNat nx) + bc6 (bmk n D nx WG (hv (hv l (fun p => -TT p) n) (wpl D PL (Int32.ofNat nx)) n) (n + 1 - nx)) - 1) 12 n := ⟨_, rfl⟩
                  rw [← hT4]
                  have g4 : ∀ k, k ≠ 60 → k ≠ 62 → k ≠ 73 → T4 k = s k := fun k a b c => by rw [hT4]; exact (tkSt_ne a b).trans ((f3 k c).trans (fr k a b c))
                  have gE : ∀ p, p < n → T4 60 p = bif xcmp .eq (hd (bmk n D nx WG (hv (hv l (fun p => -TT p) n) (wpl D PL (Int32.ofNat nx)) n) (n + 1 - nx)) (Int32.ofNat p)) 0 then E p else 2 * Int32.ofNat nx + bc6 (bmk n D nx WG (hv (hv l (fun p => -TT p) n) (wpl D PL (Int32.ofNat nx)) n) (n + 1 - nx)) - 1 := fun p hp => by
                    rw [hT4]
                    unfold tkSt
                    rw [wr_ne (by decide), wr_in (Nat.zero_le _) hp]
                    unfold tkf
                    rw [show T3 (52 + 8) p = E p from (congrFun (f3 _ (by decide)) p).trans (hE p hp)]
                  have gR : ∀ p, p < n → T4 62 p = bif xcmp .eq (hd (bmk n D nx WG (hv (hv l (fun p => -TT p) n) (wpl D PL (Int32.ofNat nx)) n) (n + 1 - nx)) (Int32.ofNat p)) 0 then R p else 12 := fun p hp => by
                    rw [hT4]
                    unfold tkSt
                    rw [show 62 = 52 + 10 from rfl, wr_in (Nat.zero_le _) hp]
                    unfold tkf
                    rw [show T3 (52 + 10) p = R p from (congrFun (f3 _ (by decide)) p).trans (hR p hp)]
                  refine yp_run 2 (pc' := 123) (lv' := [(0, .ref 52), (1, .int l), (2, .int t), (3, .int (Int32.ofNat nx)), (4, .int (Int32.ofNat i)), (5, .int (bmk n D nx WG (hv (hv l (fun p => -TT p) n) (wpl D PL (Int32.ofNat nx)) n) (n + 1 - nx))), (6, .int 12)]) (st' := [.int (bmk n D nx WG (hv (hv l (fun p => -TT p) n) (wpl D PL (Int32.ofNat nx)) n) (n + 1 - nx)), .int (Int32.ofNat nx)]) (s' := T4) rfl ?_
                  refine yp_st rfl rfl (c_bits ?_)
                  refine yp_run 10 (pc' := 16) (lv' := [(0, .ref 52), (1, .int (l &&& ((bmk n D nx WG (hv (hv l (fun p => -TT p) n) (wpl D PL (Int32.ofNat nx)) n) (n + 1 - nx)) ^^^ (-1)))), (2, .int t), (3, .int ((Int32.ofNat nx) + (bc6 (bmk n D nx WG (hv (hv l (fun p => -TT p) n) (wpl D PL (Int32.ofNat nx)) n) (n + 1 - nx))))), (4, .int ((Int32.ofNat i) + 1)), (5, .int (bmk n D nx WG (hv (hv l (fun p => -TT p) n) (wpl D PL (Int32.ofNat nx)) n) (n + 1 - nx))), (6, .int 12)]) (st' := []) (s' := T4) rfl ?_
                  have e9 : pos n D TT PL WG nx (l, t) = ((l &&& ((bmk n D nx WG (hv (hv l (fun p => -TT p) n) (wpl D PL (Int32.ofNat nx)) n) (n + 1 - nx)) ^^^ (-1))), t, (bmk n D nx WG (hv (hv l (fun p => -TT p) n) (wpl D PL (Int32.ofNat nx)) n) (n + 1 - nx)), 12) := by
                    refine (pos_eq n D TT PL WG nx (l, t)).trans ?_
                    simp only [h42, h54, h81, h99, cond_true, cond_false]
                  have e7 := bcN_ok (bmk n D nx WG (hv (hv l (fun p => -TT p) n) (wpl D PL (Int32.ofNat nx)) n) (n + 1 - nx))
                  have e6 := bcN_le (bmk n D nx WG (hv (hv l (fun p => -TT p) n) (wpl D PL (Int32.ofNat nx)) n) (n + 1 - nx))
                  rw [i32_s, show Int32.ofNat nx + bc6 (bmk n D nx WG (hv (hv l (fun p => -TT p) n) (wpl D PL (Int32.ofNat nx)) n) (n + 1 - nx)) = Int32.ofNat (nx + bcN (bmk n D nx WG (hv (hv l (fun p => -TT p) n) (wpl D PL (Int32.ofNat nx)) n) (n + 1 - nx))) from by rw [e7, Int32.ofNat_add]]
                  refine yp_sel [0, 1, 2, 3, 4] ?_
                  refine ih (i + 1) (nx + bcN (bmk n D nx WG (hv (hv l (fun p => -TT p) n) (wpl D PL (Int32.ofNat nx)) n) (n + 1 - nx))) _ _ _ _ T4 (by omega) (by omega) (by omega) g4 gE gR (fun T9 a1 a2 a3 => kk T9 a1 ?_ ?_)
                  · intro p hp
                    rw [a2 p hp]
                    refine congrFun (congrArg Prod.fst ?_) p
                    refine Eq.symm ?_
                    refine (poR_s (hl := h26)).trans ?_
                    rw [e9]
                    rfl
                  · intro p hp
                    rw [a3 p hp]
                    refine congrFun (congrArg Prod.snd ?_) p
                    refine Eq.symm ?_
                    refine (poR_s (hl := h26)).trans ?_
                    rw [e9]
                    rfl
          · refine yp_run 7 (pc' := 54) (lv' := [(0, .ref 52), (1, .int l), (2, .int (t ||| (hv l (fun p => -TT p) n))), (3, .int (Int32.ofNat nx)), (4, .int (Int32.ofNat i)), (5, .int (hv l (fun p => -TT p) n))]) (st' := [.int ((hv l (fun p => -TT p) n) &&& (t ||| (hv l (fun p => -TT p) n)))]) (s' := T1) rfl ?_
            refine yp_if rfl rfl (fun h54 => ?_) (fun h54 => ?_)
            · refine yp_run 5 (pc' := 70) (lv' := [(0, .ref 52), (1, .int l), (2, .int (t ||| (hv l (fun p => -TT p) n))), (3, .int (Int32.ofNat nx)), (4, .int (Int32.ofNat i)), (5, .int (hv l (fun p => -TT p) n)), (6, .int 10)]) (st' := [.int (Int32.ofNat nx), .int (hv l (fun p => -TT p) n), .ref 52]) (s' := T1) rfl ?_
              have v0 : T1 52 0 = Int32.ofNat n := (congrFun (f1 _ (by decide)) 0).trans u0
              have v1 : T1 52 1 = Int32.ofNat D := (congrFun (f1 _ (by decide)) 1).trans u1
              refine yp_vi rfl rfl rfl rfl (c_bplc (PL := PL) (by decide) hn hD v0 v1 (fun d p h1 h2 => (congrFun ((f1 _ (by decide)).trans (fr _ (by decide) (by decide) (by decide))) _).trans (hPL d p h1 h2)) ?_)
              obtain ⟨T2, hT2⟩ : ∃ X, X = wr T1 73 0 n (wpl D PL (Int32.ofNat nx)) := ⟨_, rfl⟩
              rw [← hT2]
              have f2 : ∀ k, k ≠ 73 → T2 k = T k := fun k q => by rw [hT2]; exact (wr_ne q).trans (f1 k q)
              refine yp_run 2 (pc' := 77) (lv' := [(0, .ref 52), (1, .int l), (2, .int (t ||| (hv l (fun p => -TT p) n))), (3, .int (Int32.ofNat nx)), (4, .int (Int32.ofNat i)), (5, .int (hv (hv l (fun p => -TT p) n) (wpl D PL (Int32.ofNat nx)) n)), (6, .int 10)]) (st' := [.int (hv (hv l (fun p => -TT p) n) (wpl D PL (Int32.ofNat nx)) n)]) (s' := T2) rfl ?_
              refine yp_st rfl rfl (c_bits ?_)
              refine yp_run 1 (pc' := 81) (lv' := [(0, .ref 52), (1, .int l), (2, .int (t ||| (hv l (fun p => -TT p) n))), (3, .int (Int32.ofNat nx)), (4, .int (Int32.ofNat i)), (5, .int (hv (hv l (fun p => -TT p) n) (wpl D PL (Int32.ofNat nx)) n)), (6, .int 10)]) (st' := [.int 1, .int (bc6 (hv (hv l (fun p => -TT p) n) (wpl D PL (Int32.ofNat nx)) n))]) (s' := T2) rfl ?_
              refine yp_icmp rfl rfl (fun h81 => ?_) (fun h81 => ?_)
              · refine yp_run 4 (pc' := 117) (lv' := [(0, .ref 52), (1, .int l), (2, .int (t ||| (hv l (fun p => -TT p) n))), (3, .int (Int32.ofNat nx)), (4, .int (Int32.ofNat i)), (5, .int (hv (hv l (fun p => -TT p) n) (wpl D PL (Int32.ofNat nx)) n)), (6, .int 10)]) (st' := [.int 10, .int (Int32.ofNat nx), .int (hv (hv l (fun p => -TT p) n) (wpl D PL (Int32.ofNat nx)) n), .ref 52]) (s' := T2) rfl ?_
                have y0 : T2 52 0 = Int32.ofNat n := (congrFun (f2 _ (by decide)) 0).trans u0
                refine yp_vi rfl rfl rfl rfl (c_take (w := 10) (by decide) hn y0 ?_)
                obtain ⟨T4, hT4⟩ : ∃ X, X = tkSt T2 52 (hv (hv l (fun p => -TT p) n) (wpl D PL (Int32.ofNat nx)) n) (2 * (Int32.ofNat nx) + bc6 (hv (hv l (fun p => -TT p) n) (wpl D PL (Int32.ofNat nx)) n) - 1) 10 n := ⟨_, rfl⟩
                rw [← hT4]
                have g4 : ∀ k, k ≠ 60 → k ≠ 62 → k ≠ 73 → T4 k = s k := fun k a b c => by rw [hT4]; exact (tkSt_ne a b).trans ((f2 k c).trans (fr k a b c))
                have gE : ∀ p, p < n → T4 60 p = bif xcmp .eq (hd (hv (hv l (fun p => -TT p) n) (wpl D PL (Int32.ofNat nx)) n) (Int32.ofNat p)) 0 then E p else 2 * Int32.ofNat nx + bc6 (hv (hv l (fun p => -TT p) n) (wpl D PL (Int32.ofNat nx)) n) - 1 := fun p hp => by
                  rw [hT4]
                  unfold tkSt
                  rw [wr_ne (by decide), wr_in (Nat.zero_le _) hp]
                  unfold tkf
                  rw [show T2 (52 + 8) p = E p from (congrFun (f2 _ (by decide)) p).trans (hE p hp)]
                have gR : ∀ p, p < n → T4 62 p = bif xcmp .eq (hd (hv (hv l (fun p => -TT p) n) (wpl D PL (Int32.ofNat nx)) n) (Int32.ofNat p)) 0 then R p else 10 := fun p hp => by
                  rw [hT4]
                  unfold tkSt
                  rw [show 62 = 52 + 10 from rfl, wr_in (Nat.zero_le _) hp]
                  unfold tkf
                  rw [show T2 (52 + 10) p = R p from (congrFun (f2 _ (by decide)) p).trans (hR p hp)]
                refine yp_run 2 (pc' := 123) (lv' := [(0, .ref 52), (1, .int l), (2, .int (t ||| (hv l (fun p => -TT p) n))), (3, .int (Int32.ofNat nx)), (4, .int (Int32.ofNat i)), (5, .int (hv (hv l (fun p => -TT p) n) (wpl D PL (Int32.ofNat nx)) n)), (6, .int 10)]) (st' := [.int (hv (hv l (fun p => -TT p) n) (wpl D PL (Int32.ofNat nx)) n), .int (Int32.ofNat nx)]) (s' := T4) rfl ?_
                refine yp_st rfl rfl (c_bits ?_)
                refine yp_run 10 (pc' := 16) (lv' := [(0, .ref 52), (1, .int (l &&& ((hv (hv l (fun p => -TT p) n) (wpl D PL (Int32.ofNat nx)) n) ^^^ (-1)))), (2, .int (t ||| (hv l (fun p => -TT p) n))), (3, .int ((Int32.ofNat nx) + (bc6 (hv (hv l (fun p => -TT p) n) (wpl D PL (Int32.ofNat nx)) n)))), (4, .int ((Int32.ofNat i) + 1)), (5, .int (hv (hv l (fun p => -TT p) n) (wpl D PL (Int32.ofNat nx)) n)), (6, .int 10)]) (st' := []) (s' := T4) rfl ?_
                have e9 : pos n D TT PL WG nx (l, t) = ((l &&& ((hv (hv l (fun p => -TT p) n) (wpl D PL (Int32.ofNat nx)) n) ^^^ (-1))), (t ||| (hv l (fun p => -TT p) n)), (hv (hv l (fun p => -TT p) n) (wpl D PL (Int32.ofNat nx)) n), 10) := by
                  refine (pos_eq n D TT PL WG nx (l, t)).trans ?_
                  simp only [h42, h54, h81, cond_true, cond_false]
                have e7 := bcN_ok (hv (hv l (fun p => -TT p) n) (wpl D PL (Int32.ofNat nx)) n)
                have e6 := bcN_le (hv (hv l (fun p => -TT p) n) (wpl D PL (Int32.ofNat nx)) n)
                rw [i32_s, show Int32.ofNat nx + bc6 (hv (hv l (fun p => -TT p) n) (wpl D PL (Int32.ofNat nx)) n) = Int32.ofNat (nx + bcN (hv (hv l (fun p => -TT p) n) (wpl D PL (Int32.ofNat nx)) n)) from by rw [e7, Int32.ofNat_add]]
                refine yp_sel [0, 1, 2, 3, 4] ?_
                refine ih (i + 1) (nx + bcN (hv (hv l (fun p => -TT p) n) (wpl D PL (Int32.ofNat nx)) n)) _ _ _ _ T4 (by omega) (by omega) (by omega) g4 gE gR (fun T9 a1 a2 a3 => kk T9 a1 ?_ ?_)
                · intro p hp
                  rw [a2 p hp]
                  refine congrFun (congrArg Prod.fst ?_) p
                  refine Eq.symm ?_
                  refine (poR_s (hl := h26)).trans ?_
                  rw [e9]
                  rfl
                · intro p hp
                  rw [a3 p hp]
                  refine congrFun (congrArg Prod.snd ?_) p
                  refine Eq.symm ?_
                  refine (poR_s (hl := h26)).trans ?_
                  rw [e9]
                  rfl
              · refine yp_run 3 (pc' := 88) (lv' := [(0, .ref 52), (1, .int l), (2, .int (t ||| (hv l (fun p => -TT p) n))), (3, .int (Int32.ofNat nx)), (4, .int (Int32.ofNat i)), (5, .int (hv (hv l (fun p => -TT p) n) (wpl D PL (Int32.ofNat nx)) n)), (6, .int 10)]) (st' := [.int (Int32.ofNat nx), .int (hv (hv l (fun p => -TT p) n) (wpl D PL (Int32.ofNat nx)) n), .ref 52]) (s' := T2) rfl ?_
                have v0 : T2 52 0 = Int32.ofNat n := (congrFun (f2 _ (by decide)) 0).trans u0
                have v1 : T2 52 1 = Int32.ofNat D := (congrFun (f2 _ (by decide)) 1).trans u1
                refine yp_vi rfl rfl rfl rfl (c_bmrk (WG := WG) (by decide) hn hD h1x (by omega) v0 v1 (fun d p q h1 h2 h3 h4 => (congrFun ((f2 _ (by decide)).trans (fr _ (by decide) (by decide) (by decide))) _).trans (hWG d p q h1 h2 h3 h4)) ?_)
                obtain ⟨T3, hT3⟩ : ∃ X, X = bmSt T2 52 n D nx WG (n + 1 - nx) := ⟨_, rfl⟩
                rw [← hT3]
                have f3 : ∀ k, k ≠ 73 → T3 k = T k := fun k q => by rw [hT3]; exact (bmSt_ne q).trans (f2 k q)
                refine yp_run 2 (pc' := 95) (lv' := [(0, .ref 52), (1, .int l), (2, .int (t ||| (hv l (fun p => -TT p) n))), (3, .int (Int32.ofNat nx)), (4, .int (Int32.ofNat i)), (5, .int (bmk n D nx WG (hv (hv l (fun p => -TT p) n) (wpl D PL (Int32.ofNat nx)) n) (n + 1 - nx))), (6, .int 10)]) (st' := [.int (bmk n D nx WG (hv (hv l (fun p => -TT p) n) (wpl D PL (Int32.ofNat nx)) n) (n + 1 - nx))]) (s' := T3) rfl ?_
                refine yp_st rfl rfl (c_bits ?_)
                refine yp_run 1 (pc' := 99) (lv' := [(0, .ref 52), (1, .int l), (2, .int (t ||| (hv l (fun p => -TT p) n))), (3, .int (Int32.ofNat nx)), (4, .int (Int32.ofNat i)), (5, .int (bmk n D nx WG (hv (hv l (fun p => -TT p) n) (wpl D PL (Int32.ofNat nx)) n) (n + 1 - nx))), (6, .int 10)]) (st' := [.int 1, .int (bc6 (bmk n D nx WG (hv (hv l (fun p => -TT p) n) (wpl D PL (Int32.ofNat nx)) n) (n + 1 - nx)))]) (s' := T3) rfl ?_
                refine yp_icmp rfl rfl (fun h99 => ?_) (fun h99 => ?_)
                · refine yp_run 6 (pc' := 117) (lv' := [(0, .ref 52), (1, .int l), (2, .int (t ||| (hv l (fun p => -TT p) n))), (3, .int (Int32.ofNat nx)), (4, .int (Int32.ofNat i)), (5, .int (bmk n D nx WG (hv (hv l (fun p => -TT p) n) (wpl D PL (Int32.ofNat nx)) n) (n + 1 - nx))), (6, .int 11)]) (st' := [.int 11, .int (Int32.ofNat nx), .int (bmk n D nx WG (hv (hv l (fun p => -TT p) n) (wpl D PL (Int32.ofNat nx)) n) (n + 1 - nx)), .ref 52]) (s' := T3) rfl ?_
                  have y0 : T3 52 0 = Int32.ofNat n := (congrFun (f3 _ (by decide)) 0).trans u0
                  refine yp_vi rfl rfl rfl rfl (c_take (w := 11) (by decide) hn y0 ?_)
                  obtain ⟨T4, hT4⟩ : ∃ X, X = tkSt T3 52 (bmk n D nx WG (hv (hv l (fun p => -TT p) n) (wpl D PL (Int32.ofNat nx)) n) (n + 1 - nx)) (2 * (Int32.ofNat nx) + bc6 (bmk n D nx WG (hv (hv l (fun p => -TT p) n) (wpl D PL (Int32.ofNat nx)) n) (n + 1 - nx)) - 1) 11 n := ⟨_, rfl⟩
                  rw [← hT4]
                  have g4 : ∀ k, k ≠ 60 → k ≠ 62 → k ≠ 73 → T4 k = s k := fun k a b c => by rw [hT4]; exact (tkSt_ne a b).trans ((f3 k c).trans (fr k a b c))
                  have gE : ∀ p, p < n → T4 60 p = bif xcmp .eq (hd (bmk n D nx WG (hv (hv l (fun p => -TT p) n) (wpl D PL (Int32.ofNat nx)) n) (n + 1 - nx)) (Int32.ofNat p)) 0 then E p else 2 * Int32.ofNat nx + bc6 (bmk n D nx WG (hv (hv l (fun p => -TT p) n) (wpl D PL (Int32.ofNat nx)) n) (n + 1 - nx)) - 1 := fun p hp => by
                    rw [hT4]
                    unfold tkSt
                    rw [wr_ne (by decide), wr_in (Nat.zero_le _) hp]
                    unfold tkf
                    rw [show T3 (52 + 8) p = E p from (congrFun (f3 _ (by decide)) p).trans (hE p hp)]
                  have gR : ∀ p, p < n → T4 62 p = bif xcmp .eq (hd (bmk n D nx WG (hv (hv l (fun p => -TT p) n) (wpl D PL (Int32.ofNat nx)) n) (n + 1 - nx)) (Int32.ofNat p)) 0 then R p else 11 := fun p hp => by
                    rw [hT4]
                    unfold tkSt
                    rw [show 62 = 52 + 10 from rfl, wr_in (Nat.zero_le _) hp]
                    unfold tkf
                    rw [show T3 (52 + 10) p = R p from (congrFun (f3 _ (by decide)) p).trans (hR p hp)]
                  refine yp_run 2 (pc' := 123) (lv' := [(0, .ref 52), (1, .int l), (2, .int (t ||| (hv l (fun p => -TT p) n))), (3, .int (Int32.ofNat nx)), (4, .int (Int32.ofNat i)), (5, .int (bmk n D nx WG (hv (hv l (fun p => -TT p) n) (wpl D PL (Int32.ofNat nx)) n) (n + 1 - nx))), (6, .int 11)]) (st' := [.int (bmk n D nx WG (hv (hv l (fun p => -TT p) n) (wpl D PL (Int32.ofNat nx)) n) (n + 1 - nx)), .int (Int32.ofNat nx)]) (s' := T4) rfl ?_
                  refine yp_st rfl rfl (c_bits ?_)
                  refine yp_run 10 (pc' := 16) (lv' := [(0, .ref 52), (1, .int (l &&& ((bmk n D nx WG (hv (hv l (fun p => -TT p) n) (wpl D PL (Int32.ofNat nx)) n) (n + 1 - nx)) ^^^ (-1)))), (2, .int (t ||| (hv l (fun p => -TT p) n))), (3, .int ((Int32.ofNat nx) + (bc6 (bmk n D nx WG (hv (hv l (fun p => -TT p) n) (wpl D PL (Int32.ofNat nx)) n) (n + 1 - nx))))), (4, .int ((Int32.ofNat i) + 1)), (5, .int (bmk n D nx WG (hv (hv l (fun p => -TT p) n) (wpl D PL (Int32.ofNat nx)) n) (n + 1 - nx))), (6, .int 11)]) (st' := []) (s' := T4) rfl ?_
                  have e9 : pos n D TT PL WG nx (l, t) = ((l &&& ((bmk n D nx WG (hv (hv l (fun p => -TT p) n) (wpl D PL (Int32.ofNat nx)) n) (n + 1 - nx)) ^^^ (-1))), (t ||| (hv l (fun p => -TT p) n)), (bmk n D nx WG (hv (hv l (fun p => -TT p) n) (wpl D PL (Int32.ofNat nx)) n) (n + 1 - nx)), 11) := by
                    refine (pos_eq n D TT PL WG nx (l, t)).trans ?_
                    simp only [h42, h54, h81, h99, cond_true, cond_false]
                  have e7 := bcN_ok (bmk n D nx WG (hv (hv l (fun p => -TT p) n) (wpl D PL (Int32.ofNat nx)) n) (n + 1 - nx))
                  have e6 := bcN_le (bmk n D nx WG (hv (hv l (fun p => -TT p) n) (wpl D PL (Int32.ofNat nx)) n) (n + 1 - nx))
                  rw [i32_s, show Int32.ofNat nx + bc6 (bmk n D nx WG (hv (hv l (fun p => -TT p) n) (wpl D PL (Int32.ofNat nx)) n) (n + 1 - nx)) = Int32.ofNat (nx + bcN (bmk n D nx WG (hv (hv l (fun p => -TT p) n) (wpl D PL (Int32.ofNat nx)) n) (n + 1 - nx))) from by rw [e7, Int32.ofNat_add]]
                  refine yp_sel [0, 1, 2, 3, 4] ?_
                  refine ih (i + 1) (nx + bcN (bmk n D nx WG (hv (hv l (fun p => -TT p) n) (wpl D PL (Int32.ofNat nx)) n) (n + 1 - nx))) _ _ _ _ T4 (by omega) (by omega) (by omega) g4 gE gR (fun T9 a1 a2 a3 => kk T9 a1 ?_ ?_)
                  · intro p hp
                    rw [a2 p hp]
                    refine congrFun (congrArg Prod.fst ?_) p
                    refine Eq.symm ?_
                    refine (poR_s (hl := h26)).trans ?_
                    rw [e9]
                    rfl
                  · intro p hp
                    rw [a3 p hp]
                    refine congrFun (congrArg Prod.snd ?_) p
                    refine Eq.symm ?_
                    refine (poR_s (hl := h26)).trans ?_
                    rw [e9]
                    rfl
                · refine yp_run 7 (pc' := 117) (lv' := [(0, .ref 52), (1, .int l), (2, .int (t ||| (hv l (fun p => -TT p) n))), (3, .int (Int32.ofNat nx)), (4, .int (Int32.ofNat i)), (5, .int (bmk n D nx WG (hv (hv l (fun p => -TT p) n) (wpl D PL (Int32.ofNat nx)) n) (n + 1 - nx))), (6, .int 12)]) (st' := [.int 12, .int (Int32.ofNat nx), .int (bmk n D nx WG (hv (hv l (fun p => -TT p) n) (wpl D PL (Int32.ofNat nx)) n) (n + 1 - nx)), .ref 52]) (s' := T3) rfl ?_
                  have y0 : T3 52 0 = Int32.ofNat n := (congrFun (f3 _ (by decide)) 0).trans u0
                  refine yp_vi rfl rfl rfl rfl (c_take (w := 12) (by decide) hn y0 ?_)
                  obtain ⟨T4, hT4⟩ : ∃ X, X = tkSt T3 52 (bmk n D nx WG (hv (hv l (fun p => -TT p) n) (wpl D PL (Int32.ofNat nx)) n) (n + 1 - nx)) (2 * (Int32.ofNat nx) + bc6 (bmk n D nx WG (hv (hv l (fun p => -TT p) n) (wpl D PL (Int32.ofNat nx)) n) (n + 1 - nx)) - 1) 12 n := ⟨_, rfl⟩
                  rw [← hT4]
                  have g4 : ∀ k, k ≠ 60 → k ≠ 62 → k ≠ 73 → T4 k = s k := fun k a b c => by rw [hT4]; exact (tkSt_ne a b).trans ((f3 k c).trans (fr k a b c))
                  have gE : ∀ p, p < n → T4 60 p = bif xcmp .eq (hd (bmk n D nx WG (hv (hv l (fun p => -TT p) n) (wpl D PL (Int32.ofNat nx)) n) (n + 1 - nx)) (Int32.ofNat p)) 0 then E p else 2 * Int32.ofNat nx + bc6 (bmk n D nx WG (hv (hv l (fun p => -TT p) n) (wpl D PL (Int32.ofNat nx)) n) (n + 1 - nx)) - 1 := fun p hp => by
                    rw [hT4]
                    unfold tkSt
                    rw [wr_ne (by decide), wr_in (Nat.zero_le _) hp]
                    unfold tkf
                    rw [show T3 (52 + 8) p = E p from (congrFun (f3 _ (by decide)) p).trans (hE p hp)]
                  have gR : ∀ p, p < n → T4 62 p = bif xcmp .eq (hd (bmk n D nx WG (hv (hv l (fun p => -TT p) n) (wpl D PL (Int32.ofNat nx)) n) (n + 1 - nx)) (Int32.ofNat p)) 0 then R p else 12 := fun p hp => by
                    rw [hT4]
                    unfold tkSt
                    rw [show 62 = 52 + 10 from rfl, wr_in (Nat.zero_le _) hp]
                    unfold tkf
                    rw [show T3 (52 + 10) p = R p from (congrFun (f3 _ (by decide)) p).trans (hR p hp)]
                  refine yp_run 2 (pc' := 123) (lv' := [(0, .ref 52), (1, .int l), (2, .int (t ||| (hv l (fun p => -TT p) n))), (3, .int (Int32.ofNat nx)), (4, .int (Int32.ofNat i)), (5, .int (bmk n D nx WG (hv (hv l (fun p => -TT p) n) (wpl D PL (Int32.ofNat nx)) n) (n + 1 - nx))), (6, .int 12)]) (st' := [.int (bmk n D nx WG (hv (hv l (fun p => -TT p) n) (wpl D PL (Int32.ofNat nx)) n) (n + 1 - nx)), .int (Int32.ofNat nx)]) (s' := T4) rfl ?_
                  refine yp_st rfl rfl (c_bits ?_)
                  refine yp_run 10 (pc' := 16) (lv' := [(0, .ref 52), (1, .int (l &&& ((bmk n D nx WG (hv (hv l (fun p => -TT p) n) (wpl D PL (Int32.ofNat nx)) n) (n + 1 - nx)) ^^^ (-1)))), (2, .int (t ||| (hv l (fun p => -TT p) n))), (3, .int ((Int32.ofNat nx) + (bc6 (bmk n D nx WG (hv (hv l (fun p => -TT p) n) (wpl D PL (Int32.ofNat nx)) n) (n + 1 - nx))))), (4, .int ((Int32.ofNat i) + 1)), (5, .int (bmk n D nx WG (hv (hv l (fun p => -TT p) n) (wpl D PL (Int32.ofNat nx)) n) (n + 1 - nx))), (6, .int 12)]) (st' := []) (s' := T4) rfl ?_
                  have e9 : pos n D TT PL WG nx (l, t) = ((l &&& ((bmk n D nx WG (hv (hv l (fun p => -TT p) n) (wpl D PL (Int32.ofNat nx)) n) (n + 1 - nx)) ^^^ (-1))), (t ||| (hv l (fun p => -TT p) n)), (bmk n D nx WG (hv (hv l (fun p => -TT p) n) (wpl D PL (Int32.ofNat nx)) n) (n + 1 - nx)), 12) := by
                    refine (pos_eq n D TT PL WG nx (l, t)).trans ?_
                    simp only [h42, h54, h81, h99, cond_true, cond_false]
                  have e7 := bcN_ok (bmk n D nx WG (hv (hv l (fun p => -TT p) n) (wpl D PL (Int32.ofNat nx)) n) (n + 1 - nx))
                  have e6 := bcN_le (bmk n D nx WG (hv (hv l (fun p => -TT p) n) (wpl D PL (Int32.ofNat nx)) n) (n + 1 - nx))
                  rw [i32_s, show Int32.ofNat nx + bc6 (bmk n D nx WG (hv (hv l (fun p => -TT p) n) (wpl D PL (Int32.ofNat nx)) n) (n + 1 - nx)) = Int32.ofNat (nx + bcN (bmk n D nx WG (hv (hv l (fun p => -TT p) n) (wpl D PL (Int32.ofNat nx)) n) (n + 1 - nx))) from by rw [e7, Int32.ofNat_add]]
                  refine yp_sel [0, 1, 2, 3, 4] ?_
                  refine ih (i + 1) (nx + bcN (bmk n D nx WG (hv (hv l (fun p => -TT p) n) (wpl D PL (Int32.ofNat nx)) n) (n + 1 - nx))) _ _ _ _ T4 (by omega) (by omega) (by omega) g4 gE gR (fun T9 a1 a2 a3 => kk T9 a1 ?_ ?_)
                  · intro p hp
                    rw [a2 p hp]
                    refine congrFun (congrArg Prod.fst ?_) p
                    refine Eq.symm ?_
                    refine (poR_s (hl := h26)).trans ?_
                    rw [e9]
                    rfl
                  · intro p hp
                    rw [a3 p hp]
                    refine congrFun (congrArg Prod.snd ?_) p
                    refine Eq.symm ?_
                    refine (poR_s (hl := h26)).trans ?_
                    rw [e9]
                    rfl
            · refine yp_run 6 (pc' := 70) (lv' := [(0, .ref 52), (1, .int l), (2, .int (t ||| (hv l (fun p => -TT p) n))), (3, .int (Int32.ofNat nx)), (4, .int (Int32.ofNat i)), (5, .int (hv l (fun p => -TT p) n)), (6, .int 9)]) (st' := [.int (Int32.ofNat nx), .int (hv l (fun p => -TT p) n), .ref 52]) (s' := T1) rfl ?_
              have v0 : T1 52 0 = Int32.ofNat n := (congrFun (f1 _ (by decide)) 0).trans u0
              have v1 : T1 52 1 = Int32.ofNat D := (congrFun (f1 _ (by decide)) 1).trans u1
              refine yp_vi rfl rfl rfl rfl (c_bplc (PL := PL) (by decide) hn hD v0 v1 (fun d p h1 h2 => (congrFun ((f1 _ (by decide)).trans (fr _ (by decide) (by decide) (by decide))) _).trans (hPL d p h1 h2)) ?_)
              obtain ⟨T2, hT2⟩ : ∃ X, X = wr T1 73 0 n (wpl D PL (Int32.ofNat nx)) := ⟨_, rfl⟩
              rw [← hT2]
              have f2 : ∀ k, k ≠ 73 → T2 k = T k := fun k q => by rw [hT2]; exact (wr_ne q).trans (f1 k q)
              refine yp_run 2 (pc' := 77) (lv' := [(0, .ref 52), (1, .int l), (2, .int (t ||| (hv l (fun p => -TT p) n))), (3, .int (Int32.ofNat nx)), (4, .int (Int32.ofNat i)), (5, .int (hv (hv l (fun p => -TT p) n) (wpl D PL (Int32.ofNat nx)) n)), (6, .int 9)]) (st' := [.int (hv (hv l (fun p => -TT p) n) (wpl D PL (Int32.ofNat nx)) n)]) (s' := T2) rfl ?_
              refine yp_st rfl rfl (c_bits ?_)
              refine yp_run 1 (pc' := 81) (lv' := [(0, .ref 52), (1, .int l), (2, .int (t ||| (hv l (fun p => -TT p) n))), (3, .int (Int32.ofNat nx)), (4, .int (Int32.ofNat i)), (5, .int (hv (hv l (fun p => -TT p) n) (wpl D PL (Int32.ofNat nx)) n)), (6, .int 9)]) (st' := [.int 1, .int (bc6 (hv (hv l (fun p => -TT p) n) (wpl D PL (Int32.ofNat nx)) n))]) (s' := T2) rfl ?_
              refine yp_icmp rfl rfl (fun h81 => ?_) (fun h81 => ?_)
              · refine yp_run 4 (pc' := 117) (lv' := [(0, .ref 52), (1, .int l), (2, .int (t ||| (hv l (fun p => -TT p) n))), (3, .int (Int32.ofNat nx)), (4, .int (Int32.ofNat i)), (5, .int (hv (hv l (fun p => -TT p) n) (wpl D PL (Int32.ofNat nx)) n)), (6, .int 9)]) (st' := [.int 9, .int (Int32.ofNat nx), .int (hv (hv l (fun p => -TT p) n) (wpl D PL (Int32.ofNat nx)) n), .ref 52]) (s' := T2) rfl ?_
                have y0 : T2 52 0 = Int32.ofNat n := (congrFun (f2 _ (by decide)) 0).trans u0
                refine yp_vi rfl rfl rfl rfl (c_take (w := 9) (by decide) hn y0 ?_)
                obtain ⟨T4, hT4⟩ : ∃ X, X = tkSt T2 52 (hv (hv l (fun p => -TT p) n) (wpl D PL (Int32.ofNat nx)) n) (2 * (Int32.ofNat nx) + bc6 (hv (hv l (fun p => -TT p) n) (wpl D PL (Int32.ofNat nx)) n) - 1) 9 n := ⟨_, rfl⟩
                rw [← hT4]
                have g4 : ∀ k, k ≠ 60 → k ≠ 62 → k ≠ 73 → T4 k = s k := fun k a b c => by rw [hT4]; exact (tkSt_ne a b).trans ((f2 k c).trans (fr k a b c))
                have gE : ∀ p, p < n → T4 60 p = bif xcmp .eq (hd (hv (hv l (fun p => -TT p) n) (wpl D PL (Int32.ofNat nx)) n) (Int32.ofNat p)) 0 then E p else 2 * Int32.ofNat nx + bc6 (hv (hv l (fun p => -TT p) n) (wpl D PL (Int32.ofNat nx)) n) - 1 := fun p hp => by
                  rw [hT4]
                  unfold tkSt
                  rw [wr_ne (by decide), wr_in (Nat.zero_le _) hp]
                  unfold tkf
                  rw [show T2 (52 + 8) p = E p from (congrFun (f2 _ (by decide)) p).trans (hE p hp)]
                have gR : ∀ p, p < n → T4 62 p = bif xcmp .eq (hd (hv (hv l (fun p => -TT p) n) (wpl D PL (Int32.ofNat nx)) n) (Int32.ofNat p)) 0 then R p else 9 := fun p hp => by
                  rw [hT4]
                  unfold tkSt
                  rw [show 62 = 52 + 10 from rfl, wr_in (Nat.zero_le _) hp]
                  unfold tkf
                  rw [show T2 (52 + 10) p = R p from (congrFun (f2 _ (by decide)) p).trans (hR p hp)]
                refine yp_run 2 (pc' := 123) (lv' := [(0, .ref 52), (1, .int l), (2, .int (t ||| (hv l (fun p => -TT p) n))), (3, .int (Int32.ofNat nx)), (4, .int (Int32.ofNat i)), (5, .int (hv (hv l (fun p => -TT p) n) (wpl D PL (Int32.ofNat nx)) n)), (6, .int 9)]) (st' := [.int (hv (hv l (fun p => -TT p) n) (wpl D PL (Int32.ofNat nx)) n), .int (Int32.ofNat nx)]) (s' := T4) rfl ?_
                refine yp_st rfl rfl (c_bits ?_)
                refine yp_run 10 (pc' := 16) (lv' := [(0, .ref 52), (1, .int (l &&& ((hv (hv l (fun p => -TT p) n) (wpl D PL (Int32.ofNat nx)) n) ^^^ (-1)))), (2, .int (t ||| (hv l (fun p => -TT p) n))), (3, .int ((Int32.ofNat nx) + (bc6 (hv (hv l (fun p => -TT p) n) (wpl D PL (Int32.ofNat nx)) n)))), (4, .int ((Int32.ofNat i) + 1)), (5, .int (hv (hv l (fun p => -TT p) n) (wpl D PL (Int32.ofNat nx)) n)), (6, .int 9)]) (st' := []) (s' := T4) rfl ?_
                have e9 : pos n D TT PL WG nx (l, t) = ((l &&& ((hv (hv l (fun p => -TT p) n) (wpl D PL (Int32.ofNat nx)) n) ^^^ (-1))), (t ||| (hv l (fun p => -TT p) n)), (hv (hv l (fun p => -TT p) n) (wpl D PL (Int32.ofNat nx)) n), 9) := by
                  refine (pos_eq n D TT PL WG nx (l, t)).trans ?_
                  simp only [h42, h54, h81, cond_true, cond_false]
                have e7 := bcN_ok (hv (hv l (fun p => -TT p) n) (wpl D PL (Int32.ofNat nx)) n)
                have e6 := bcN_le (hv (hv l (fun p => -TT p) n) (wpl D PL (Int32.ofNat nx)) n)
                rw [i32_s, show Int32.ofNat nx + bc6 (hv (hv l (fun p => -TT p) n) (wpl D PL (Int32.ofNat nx)) n) = Int32.ofNat (nx + bcN (hv (hv l (fun p => -TT p) n) (wpl D PL (Int32.ofNat nx)) n)) from by rw [e7, Int32.ofNat_add]]
                refine yp_sel [0, 1, 2, 3, 4] ?_
                refine ih (i + 1) (nx + bcN (hv (hv l (fun p => -TT p) n) (wpl D PL (Int32.ofNat nx)) n)) _ _ _ _ T4 (by omega) (by omega) (by omega) g4 gE gR (fun T9 a1 a2 a3 => kk T9 a1 ?_ ?_)
                · intro p hp
                  rw [a2 p hp]
                  refine congrFun (congrArg Prod.fst ?_) p
                  refine Eq.symm ?_
                  refine (poR_s (hl := h26)).trans ?_
                  rw [e9]
                  rfl
                · intro p hp
                  rw [a3 p hp]
                  refine congrFun (congrArg Prod.snd ?_) p
                  refine Eq.symm ?_
                  refine (poR_s (hl := h26)).trans ?_
                  rw [e9]
                  rfl
              · refine yp_run 3 (pc' := 88) (lv' := [(0, .ref 52), (1, .int l), (2, .int (t ||| (hv l (fun p => -TT p) n))), (3, .int (Int32.ofNat nx)), (4, .int (Int32.ofNat i)), (5, .int (hv (hv l (fun p => -TT p) n) (wpl D PL (Int32.ofNat nx)) n)), (6, .int 9)]) (st' := [.int (Int32.ofNat nx), .int (hv (hv l (fun p => -TT p) n) (wpl D PL (Int32.ofNat nx)) n), .ref 52]) (s' := T2) rfl ?_
                have v0 : T2 52 0 = Int32.ofNat n := (congrFun (f2 _ (by decide)) 0).trans u0
                have v1 : T2 52 1 = Int32.ofNat D := (congrFun (f2 _ (by decide)) 1).trans u1
                refine yp_vi rfl rfl rfl rfl (c_bmrk (WG := WG) (by decide) hn hD h1x (by omega) v0 v1 (fun d p q h1 h2 h3 h4 => (congrFun ((f2 _ (by decide)).trans (fr _ (by decide) (by decide) (by decide))) _).trans (hWG d p q h1 h2 h3 h4)) ?_)
                obtain ⟨T3, hT3⟩ : ∃ X, X = bmSt T2 52 n D nx WG (n + 1 - nx) := ⟨_, rfl⟩
                rw [← hT3]
                have f3 : ∀ k, k ≠ 73 → T3 k = T k := fun k q => by rw [hT3]; exact (bmSt_ne q).trans (f2 k q)
                refine yp_run 2 (pc' := 95) (lv' := [(0, .ref 52), (1, .int l), (2, .int (t ||| (hv l (fun p => -TT p) n))), (3, .int (Int32.ofNat nx)), (4, .int (Int32.ofNat i)), (5, .int (bmk n D nx WG (hv (hv l (fun p => -TT p) n) (wpl D PL (Int32.ofNat nx)) n) (n + 1 - nx))), (6, .int 9)]) (st' := [.int (bmk n D nx WG (hv (hv l (fun p => -TT p) n) (wpl D PL (Int32.ofNat nx)) n) (n + 1 - nx))]) (s' := T3) rfl ?_
                refine yp_st rfl rfl (c_bits ?_)
                refine yp_run 1 (pc' := 99) (lv' := [(0, .ref 52), (1, .int l), (2, .int (t ||| (hv l (fun p => -TT p) n))), (3, .int (Int32.ofNat nx)), (4, .int (Int32.ofNat i)), (5, .int (bmk n D nx WG (hv (hv l (fun p => -TT p) n) (wpl D PL (Int32.ofNat nx)) n) (n + 1 - nx))), (6, .int 9)]) (st' := [.int 1, .int (bc6 (bmk n D nx WG (hv (hv l (fun p => -TT p) n) (wpl D PL (Int32.ofNat nx)) n) (n + 1 - nx)))]) (s' := T3) rfl ?_
                refine yp_icmp rfl rfl (fun h99 => ?_) (fun h99 => ?_)
                · refine yp_run 6 (pc' := 117) (lv' := [(0, .ref 52), (1, .int l), (2, .int (t ||| (hv l (fun p => -TT p) n))), (3, .int (Int32.ofNat nx)), (4, .int (Int32.ofNat i)), (5, .int (bmk n D nx WG (hv (hv l (fun p => -TT p) n) (wpl D PL (Int32.ofNat nx)) n) (n + 1 - nx))), (6, .int 11)]) (st' := [.int 11, .int (Int32.ofNat nx), .int (bmk n D nx WG (hv (hv l (fun p => -TT p) n) (wpl D PL (Int32.ofNat nx)) n) (n + 1 - nx)), .ref 52]) (s' := T3) rfl ?_
                  have y0 : T3 52 0 = Int32.ofNat n := (congrFun (f3 _ (by decide)) 0).trans u0
                  refine yp_vi rfl rfl rfl rfl (c_take (w := 11) (by decide) hn y0 ?_)
                  obtain ⟨T4, hT4⟩ : ∃ X, X = tkSt T3 52 (bmk n D nx WG (hv (hv l (fun p => -TT p) n) (wpl D PL (Int32.ofNat nx)) n) (n + 1 - nx)) (2 * (Int32.ofNat nx) + bc6 (bmk n D nx WG (hv (hv l (fun p => -TT p) n) (wpl D PL (Int32.ofNat nx)) n) (n + 1 - nx)) - 1) 11 n := ⟨_, rfl⟩
                  rw [← hT4]
                  have g4 : ∀ k, k ≠ 60 → k ≠ 62 → k ≠ 73 → T4 k = s k := fun k a b c => by rw [hT4]; exact (tkSt_ne a b).trans ((f3 k c).trans (fr k a b c))
                  have gE : ∀ p, p < n → T4 60 p = bif xcmp .eq (hd (bmk n D nx WG (hv (hv l (fun p => -TT p) n) (wpl D PL (Int32.ofNat nx)) n) (n + 1 - nx)) (Int32.ofNat p)) 0 then E p else 2 * Int32.ofNat nx + bc6 (bmk n D nx WG (hv (hv l (fun p => -TT p) n) (wpl D PL (Int32.ofNat nx)) n) (n + 1 - nx)) - 1 := fun p hp => by
                    rw [hT4]
                    unfold tkSt
                    rw [wr_ne (by decide), wr_in (Nat.zero_le _) hp]
                    unfold tkf
                    rw [show T3 (52 + 8) p = E p from (congrFun (f3 _ (by decide)) p).trans (hE p hp)]
                  have gR : ∀ p, p < n → T4 62 p = bif xcmp .eq (hd (bmk n D nx WG (hv (hv l (fun p => -TT p) n) (wpl D PL (Int32.ofNat nx)) n) (n + 1 - nx)) (Int32.ofNat p)) 0 then R p else 11 := fun p hp => by
                    rw [hT4]
                    unfold tkSt
                    rw [show 62 = 52 + 10 from rfl, wr_in (Nat.zero_le _) hp]
                    unfold tkf
                    rw [show T3 (52 + 10) p = R p from (congrFun (f3 _ (by decide)) p).trans (hR p hp)]
                  refine yp_run 2 (pc' := 123) (lv' := [(0, .ref 52), (1, .int l), (2, .int (t ||| (hv l (fun p => -TT p) n))), (3, .int (Int32.ofNat nx)), (4, .int (Int32.ofNat i)), (5, .int (bmk n D nx WG (hv (hv l (fun p => -TT p) n) (wpl D PL (Int32.ofNat nx)) n) (n + 1 - nx))), (6, .int 11)]) (st' := [.int (bmk n D nx WG (hv (hv l (fun p => -TT p) n) (wpl D PL (Int32.ofNat nx)) n) (n + 1 - nx)), .int (Int32.ofNat nx)]) (s' := T4) rfl ?_
                  refine yp_st rfl rfl (c_bits ?_)
                  refine yp_run 10 (pc' := 16) (lv' := [(0, .ref 52), (1, .int (l &&& ((bmk n D nx WG (hv (hv l (fun p => -TT p) n) (wpl D PL (Int32.ofNat nx)) n) (n + 1 - nx)) ^^^ (-1)))), (2, .int (t ||| (hv l (fun p => -TT p) n))), (3, .int ((Int32.ofNat nx) + (bc6 (bmk n D nx WG (hv (hv l (fun p => -TT p) n) (wpl D PL (Int32.ofNat nx)) n) (n + 1 - nx))))), (4, .int ((Int32.ofNat i) + 1)), (5, .int (bmk n D nx WG (hv (hv l (fun p => -TT p) n) (wpl D PL (Int32.ofNat nx)) n) (n + 1 - nx))), (6, .int 11)]) (st' := []) (s' := T4) rfl ?_
                  have e9 : pos n D TT PL WG nx (l, t) = ((l &&& ((bmk n D nx WG (hv (hv l (fun p => -TT p) n) (wpl D PL (Int32.ofNat nx)) n) (n + 1 - nx)) ^^^ (-1))), (t ||| (hv l (fun p => -TT p) n)), (bmk n D nx WG (hv (hv l (fun p => -TT p) n) (wpl D PL (Int32.ofNat nx)) n) (n + 1 - nx)), 11) := by
                    refine (pos_eq n D TT PL WG nx (l, t)).trans ?_
                    simp only [h42, h54, h81, h99, cond_true, cond_false]
                  have e7 := bcN_ok (bmk n D nx WG (hv (hv l (fun p => -TT p) n) (wpl D PL (Int32.ofNat nx)) n) (n + 1 - nx))
                  have e6 := bcN_le (bmk n D nx WG (hv (hv l (fun p => -TT p) n) (wpl D PL (Int32.ofNat nx)) n) (n + 1 - nx))
                  rw [i32_s, show Int32.ofNat nx + bc6 (bmk n D nx WG (hv (hv l (fun p => -TT p) n) (wpl D PL (Int32.ofNat nx)) n) (n + 1 - nx)) = Int32.ofNat (nx + bcN (bmk n D nx WG (hv (hv l (fun p => -TT p) n) (wpl D PL (Int32.ofNat nx)) n) (n + 1 - nx))) from by rw [e7, Int32.ofNat_add]]
                  refine yp_sel [0, 1, 2, 3, 4] ?_
                  refine ih (i + 1) (nx + bcN (bmk n D nx WG (hv (hv l (fun p => -TT p) n) (wpl D PL (Int32.ofNat nx)) n) (n + 1 - nx))) _ _ _ _ T4 (by omega) (by omega) (by omega) g4 gE gR (fun T9 a1 a2 a3 => kk T9 a1 ?_ ?_)
                  · intro p hp
                    rw [a2 p hp]
                    refine congrFun (congrArg Prod.fst ?_) p
                    refine Eq.symm ?_
                    refine (poR_s (hl := h26)).trans ?_
                    rw [e9]
                    rfl
                  · intro p hp
                    rw [a3 p hp]
                    refine congrFun (congrArg Prod.snd ?_) p
                    refine Eq.symm ?_
                    refine (poR_s (hl := h26)).trans ?_
                    rw [e9]
                    rfl
                · refine yp_run 7 (pc' := 117) (lv' := [(0, .ref 52), (1, .int l), (2, .int (t ||| (hv l (fun p => -TT p) n))), (3, .int (Int32.ofNat nx)), (4, .int (Int32.ofNat i)), (5, .int (bmk n D nx WG (hv (hv l (fun p => -TT p) n) (wpl D PL (Int32.ofNat nx)) n) (n + 1 - nx))), (6, .int 12)]) (st' := [.int 12, .int (Int32.ofNat nx), .int (bmk n D nx WG (hv (hv l (fun p => -TT p) n) (wpl D PL (Int32.ofNat nx)) n) (n + 1 - nx)), .ref 52]) (s' := T3) rfl ?_
                  have y0 : T3 52 0 = Int32.ofNat n := (congrFun (f3 _ (by decide)) 0).trans u0
                  refine yp_vi rfl rfl rfl rfl (c_take (w := 12) (by decide) hn y0 ?_)
                  obtain ⟨T4, hT4⟩ : ∃ X, X = tkSt T3 52 (bmk n D nx WG (hv (hv l (fun p => -TT p) n) (wpl D PL (Int32.ofNat nx)) n) (n + 1 - nx)) (2 * (Int32.ofNat nx) + bc6 (bmk n D nx WG (hv (hv l (fun p => -TT p) n) (wpl D PL (Int32.ofNat nx)) n) (n + 1 - nx)) - 1) 12 n := ⟨_, rfl⟩
                  rw [← hT4]
                  have g4 : ∀ k, k ≠ 60 → k ≠ 62 → k ≠ 73 → T4 k = s k := fun k a b c => by rw [hT4]; exact (tkSt_ne a b).trans ((f3 k c).trans (fr k a b c))
                  have gE : ∀ p, p < n → T4 60 p = bif xcmp .eq (hd (bmk n D nx WG (hv (hv l (fun p => -TT p) n) (wpl D PL (Int32.ofNat nx)) n) (n + 1 - nx)) (Int32.ofNat p)) 0 then E p else 2 * Int32.ofNat nx + bc6 (bmk n D nx WG (hv (hv l (fun p => -TT p) n) (wpl D PL (Int32.ofNat nx)) n) (n + 1 - nx)) - 1 := fun p hp => by
                    rw [hT4]
                    unfold tkSt
                    rw [wr_ne (by decide), wr_in (Nat.zero_le _) hp]
                    unfold tkf
                    rw [show T3 (52 + 8) p = E p from (congrFun (f3 _ (by decide)) p).trans (hE p hp)]
                  have gR : ∀ p, p < n → T4 62 p = bif xcmp .eq (hd (bmk n D nx WG (hv (hv l (fun p => -TT p) n) (wpl D PL (Int32.ofNat nx)) n) (n + 1 - nx)) (Int32.ofNat p)) 0 then R p else 12 := fun p hp => by
                    rw [hT4]
                    unfold tkSt
                    rw [show 62 = 52 + 10 from rfl, wr_in (Nat.zero_le _) hp]
                    unfold tkf
                    rw [show T3 (52 + 10) p = R p from (congrFun (f3 _ (by decide)) p).trans (hR p hp)]
                  refine yp_run 2 (pc' := 123) (lv' := [(0, .ref 52), (1, .int l), (2, .int (t ||| (hv l (fun p => -TT p) n))), (3, .int (Int32.ofNat nx)), (4, .int (Int32.ofNat i)), (5, .int (bmk n D nx WG (hv (hv l (fun p => -TT p) n) (wpl D PL (Int32.ofNat nx)) n) (n + 1 - nx))), (6, .int 12)]) (st' := [.int (bmk n D nx WG (hv (hv l (fun p => -TT p) n) (wpl D PL (Int32.ofNat nx)) n) (n + 1 - nx)), .int (Int32.ofNat nx)]) (s' := T4) rfl ?_
                  refine yp_st rfl rfl (c_bits ?_)
                  refine yp_run 10 (pc' := 16) (lv' := [(0, .ref 52), (1, .int (l &&& ((bmk n D nx WG (hv (hv l (fun p => -TT p) n) (wpl D PL (Int32.ofNat nx)) n) (n + 1 - nx)) ^^^ (-1)))), (2, .int (t ||| (hv l (fun p => -TT p) n))), (3, .int ((Int32.ofNat nx) + (bc6 (bmk n D nx WG (hv (hv l (fun p => -TT p) n) (wpl D PL (Int32.ofNat nx)) n) (n + 1 - nx))))), (4, .int ((Int32.ofNat i) + 1)), (5, .int (bmk n D nx WG (hv (hv l (fun p => -TT p) n) (wpl D PL (Int32.ofNat nx)) n) (n + 1 - nx))), (6, .int 12)]) (st' := []) (s' := T4) rfl ?_
                  have e9 : pos n D TT PL WG nx (l, t) = ((l &&& ((bmk n D nx WG (hv (hv l (fun p => -TT p) n) (wpl D PL (Int32.ofNat nx)) n) (n + 1 - nx)) ^^^ (-1))), (t ||| (hv l (fun p => -TT p) n)), (bmk n D nx WG (hv (hv l (fun p => -TT p) n) (wpl D PL (Int32.ofNat nx)) n) (n + 1 - nx)), 12) := by
                    refine (pos_eq n D TT PL WG nx (l, t)).trans ?_
                    simp only [h42, h54, h81, h99, cond_true, cond_false]
                  have e7 := bcN_ok (bmk n D nx WG (hv (hv l (fun p => -TT p) n) (wpl D PL (Int32.ofNat nx)) n) (n + 1 - nx))
                  have e6 := bcN_le (bmk n D nx WG (hv (hv l (fun p => -TT p) n) (wpl D PL (Int32.ofNat nx)) n) (n + 1 - nx))
                  rw [i32_s, show Int32.ofNat nx + bc6 (bmk n D nx WG (hv (hv l (fun p => -TT p) n) (wpl D PL (Int32.ofNat nx)) n) (n + 1 - nx)) = Int32.ofNat (nx + bcN (bmk n D nx WG (hv (hv l (fun p => -TT p) n) (wpl D PL (Int32.ofNat nx)) n) (n + 1 - nx))) from by rw [e7, Int32.ofNat_add]]
                  refine yp_sel [0, 1, 2, 3, 4] ?_
                  refine ih (i + 1) (nx + bcN (bmk n D nx WG (hv (hv l (fun p => -TT p) n) (wpl D PL (Int32.ofNat nx)) n) (n + 1 - nx))) _ _ _ _ T4 (by omega) (by omega) (by omega) g4 gE gR (fun T9 a1 a2 a3 => kk T9 a1 ?_ ?_)
                  · intro p hp
                    rw [a2 p hp]
                    refine congrFun (congrArg Prod.fst ?_) p
                    refine Eq.symm ?_
                    refine (poR_s (hl := h26)).trans ?_
                    rw [e9]
                    rfl
                  · intro p hp
                    rw [a3 p hp]
                    refine congrFun (congrArg Prod.snd ?_) p
                    refine Eq.symm ?_
                    refine (poR_s (hl := h26)).trans ?_
                    rw [e9]
                    rfl
theorem c_over {S n D : Nat} {TT : Nat → Int32} {PL : Nat → Nat → Int32} {WG : Nat → Nat → Nat → Int32} (hS : yss S) (hn : n ≤ 8) (hD : D ≤ 5) (hz : s S 0 = Int32.ofNat n) (hD1 : s S 1 = Int32.ofNat D) (hTT : ∀ p, p < n → s (S + 6) p = TT p) (hPL : ∀ d p, d < D → p < n → s (S + 2) (d * 8 + p) = PL d p) (hWG : ∀ d p q, d < D → p < n → 1 ≤ q → q ≤ n → s (S + 15) ((d * 8 + p) * 9 + q) = WG d p q)
    (kk : ∀ T' : yS, (∀ k, k ≠ S + 8 → k ≠ S + 10 → k ≠ S + 21 → T' k = s k) → (∀ p, p < n → T' (S + 8) p = (poR n D TT PL WG n 1 ((1 <<< (Int32.ofNat n &&& 31)) - 1, 0) (s (S + 8), s (S + 10))).1 p) → (∀ p, p < n → T' (S + 10) p = (poR n D TT PL WG n 1 ((1 <<< (Int32.ofNat n &&& 31)) - 1, 0) (s (S + 8), s (S + 10))).2 p) → Φ none T') : Yq sd 31 [.ref S] s Φ := by
  refine Yq.of rfl (Nat.le_of_ble_eq_true rfl) ?_
  rcases hS with rfl | rfl
  · have hz : s 30 0 = Int32.ofNat n := hz
    refine yp_run 13 (pc' := 16) (lv' := [(0, .ref 30), (1, .int ((1 <<< ((s 30 0) &&& 31)) - 1)), (2, .int 0), (3, .int 1), (4, .int 0)]) (st' := []) (s' := s) rfl ?_
    rw [hz]
    exact lz_po (by decide) hn hD hz hD1 hTT hPL hWG n 0 1 _ 0 (s 38) (s 40) s (Nat.zero_add n) (Nat.le_refl _) (Nat.le_refl _) (fun _ _ _ _ => rfl) (fun _ _ => rfl) (fun _ _ => rfl) kk
  · have hz : s 52 0 = Int32.ofNat n := hz
    refine yp_run 13 (pc' := 16) (lv' := [(0, .ref 52), (1, .int ((1 <<< ((s 52 0) &&& 31)) - 1)), (2, .int 0), (3, .int 1), (4, .int 0)]) (st' := []) (s' := s) rfl ?_
    rw [hz]
    exact lz_po (by decide) hn hD hz hD1 hTT hPL hWG n 0 1 _ 0 (s 60) (s 62) s (Nat.zero_add n) (Nat.le_refl _) (Nat.le_refl _) (fun _ _ _ _ => rfl) (fun _ _ => rfl) (fun _ _ => rfl) kk
end YP2
