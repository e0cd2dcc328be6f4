/-! places speak of the marks of the seven judges alone -/
section YAR
variable {scl : List Int32}
theorem Yc.fun38 {sd : Option (List Int32)} {μ : Nat} {as : List Value} {s s1 s2 : yS} {r1 r2 : Option Value} (h1 : Yc sd μ as s r1 s1) (h2 : Yc sd μ as s r2 s2) {p : Nat} (hp : p < 8) : s1 38 p = s2 38 p := by
  have hB : yB (List.replicate 74 ((0, []) : xE)) 4 := ⟨Nat.le_refl _, by rw [List.length_replicate]; exact Nat.le_refl _⟩
  have e := Cx.fun (h1 (List.replicate 74 (0, [])) 4 0 hB) (h2 (List.replicate 74 (0, [])) 4 0 hB)
  have e1 : yput (List.replicate 74 ((0, []) : xE)) 4 s1 = yput (List.replicate 74 ((0, []) : xE)) 4 s2 := congrArg (fun o => o.2.2.1) e
  have g1 := yput_get (s := s1) (k := 38) hB (by decide)
  have g2 := yput_get (s := s2) (k := 38) hB (by decide)
  rw [e1, g2] at g1
  have e2 : (yce 4 s2 38).2[p]? = (yce 4 s1 38).2[p]? := congrArg (fun q => q.2[p]?) (Option.some.inj g1)
  have e3 : ∀ s : yS, (yce 4 s 38).2[p]? = some (.int (s 38 p)) := by
    intro s
    unfold yce
    dsimp only
    rw [List.getElem?_map, show yln 38 = 8 from rfl, List.getElem?_range hp]
    rfl
  rw [e3, e3] at e2
  exact (Value.int.inj (Option.some.inj e2)).symm
theorem hd0_tab : ∀ j, j < 7 → hd 0 (Int32.ofNat j) = 0 := by decide +kernel
theorem EPf_congr {n D : Nat} {E E' : Nat → Nat → Nat → Int32} (hn : n ≤ 7) (hD : D ≤ 5) (hE : ∀ a d p, a < 7 → d < 5 → p < 8 → E a d p = E' a d p) : ∀ p, p < n → EPf n D E p = EPf n D E' p := by
  obtain ⟨s, hs⟩ : ∃ s : yS, s = fun k j => if k = 25 then (if j = 0 then Int32.ofNat n else if j = 1 then Int32.ofNat D else 0) else if k = 27 then E (j / 40) (j / 8 % 5) (j % 8) else 0 := ⟨_, rfl⟩
  have h25 : s 25 0 = Int32.ofNat n := by rw [hs]; rfl
  have h26 : s 25 1 = Int32.ofNat D := by rw [hs]; rfl
  have h29 : ∀ d, d < 5 → s 29 d = 0 := fun d _ => by rw [hs]; rfl
  have hW : ∀ R, R < 40 → s (30 + 15) (R * 9 + (n + 1)) = 0 := fun R _ => by rw [hs]; rfl
  have hm : ∀ j d p, j < 7 → d < 5 → p < 8 → E j d p = bif xcmp .ne (hd 0 (Int32.ofNat j)) 0 then 0 else s 27 ((j * 5 + d) * 8 + p) := fun j d p h1 h2 h3 => by
    rw [hd0_tab j h1, hs]
    show E j d p = E (((j * 5 + d) * 8 + p) / 40) (((j * 5 + d) * 8 + p) / 8 % 5) (((j * 5 + d) * 8 + p) % 8)
    rw [show ((j * 5 + d) * 8 + p) / 40 = j by omega, show ((j * 5 + d) * 8 + p) / 8 % 5 = d by omega, show ((j * 5 + d) * 8 + p) % 8 = p by omega]
  have a := c_settle (sd := none) (s := s) (S := 30) (n := n) (D := D) (w := 0) (E := E) (Φ := fun _ T => stl T 30 n D E) (by decide) hn hD h25 h26 h29 hW hm (fun T _ q => q)
  have b := c_settle (sd := none) (s := s) (S := 30) (n := n) (D := D) (w := 0) (E := E') (Φ := fun _ T => stl T 30 n D E') (by decide) hn hD h25 h26 h29 hW (fun j d p h1 h2 h3 => (hE j d p h1 h2 h3).symm.trans (hm j d p h1 h2 h3)) (fun T _ q => q)
  obtain ⟨r1, s1, x1, y1⟩ := a
  obtain ⟨r2, s2, x2, y2⟩ := b
  intro p hp
  have e := Yc.fun38 x1 x2 (p := p) (by omega)
  have z1 := y1.2.2.2.2.2.1 p hp
  have z2 := y2.2.2.2.2.2.1 p hp
  exact z1.symm.trans (e.trans z2)
theorem hdj_tab : ∀ j, j < 7 → ∀ a, a < 7 → hd (1 <<< (Int32.ofNat j &&& 31)) (Int32.ofNat a) = if a = j then 1 else 0 := by decide +kernel
theorem ef_0 {m : Nat → Int32} {a d p : Nat} (ha : a < 7) : ef 0 m a d p = m ((a * 5 + d) * 8 + p) := by
  unfold ef
  rw [hd0_tab a ha]
  rfl
/-- a judge's sheets taken away -/
def goM (M : Nat → Nat → List Nat) (j : Nat) : Nat → Nat → List Nat := fun a e => if a = j then [] else M a e
/-- places without a judge are those behind its sheets being lost -/
theorem EPf_lost {n D j : Nat} {M : Nat → Nat → List Nat} (hn : n ≤ 7) (hD : D ≤ 5) (hj : j < 7) : ∀ p, p < n → EPf n D (ef 0 (mM (goM M j))) p = EPf n D (ef (1 <<< (Int32.ofNat j &&& 31)) (mM M)) p := by
  refine EPf_congr hn hD (fun a d p h1 h2 h3 => ?_)
  rw [ef_0 h1]
  unfold ef
  rw [hdj_tab j hj a h1]
  unfold mM goM
  rw [if_pos (show (a * 5 + d) * 8 + p < 280 by omega), show ((a * 5 + d) * 8 + p) / 40 = a by omega, show ((a * 5 + d) * 8 + p) / 8 % 5 = d by omega, show ((a * 5 + d) * 8 + p) % 8 = p by omega]
  by_cases e : a = j
  · rw [if_pos e, if_pos e, getD_hi (Nat.zero_le _)]
    rfl
  · rw [if_neg e, if_neg e, if_pos (show (a * 5 + d) * 8 + p < 280 by omega)]
    rfl
/-- an exchange as a list -/
def swL (L : List Nat) (x y : Nat) : List Nat := (L.set x (L.getD y 0)).set y (L.getD x 0)
theorem swL_at {L : List Nat} {x y i : Nat} (hx : x < L.length) (hy : y < L.length) : (swL L x y).getD i 0 = if i = y then L.getD x 0 else if i = x then L.getD y 0 else L.getD i 0 := by
  unfold swL
  rw [List.getD_eq_getElem?_getD, List.getElem?_set]
  by_cases h1 : i = y
  · subst h1
    rw [if_pos rfl, if_pos rfl, if_pos (by rw [List.length_set]; exact hy)]
    rfl
  · rw [if_neg (fun q => h1 q.symm), if_neg h1, List.getElem?_set]
    by_cases h2 : i = x
    · subst h2
      rw [if_pos rfl, if_pos rfl, if_pos hx]
      rfl
    · rw [if_neg (fun q => h2 q.symm), if_neg h2, ← List.getD_eq_getElem?_getD]
theorem mM_sw {n j d x y : Nat} {M : Nat → Nat → List Nat} (hn : n ≤ 7) (hj : j < 7) (hd : d < 5) (hL : (M j d).length = n) (hx : x < n) (hy : y < n) : mM (upM M j d (swL (M j d) x y)) = swp (mM M) ((j * 5 + d) * 8 + x) ((j * 5 + d) * 8 + y) := by
  have hat : ∀ i, i < 8 → mM M ((j * 5 + d) * 8 + i) = Int32.ofNat ((M j d).getD i 0) := fun i hi => by
    unfold mM
    rw [if_pos (show (j * 5 + d) * 8 + i < 280 by omega), show ((j * 5 + d) * 8 + i) / 40 = j by omega, show ((j * 5 + d) * 8 + i) / 8 % 5 = d by omega, show ((j * 5 + d) * 8 + i) % 8 = i by omega]
  funext q
  unfold swp
  rw [hat x (by omega), hat y (by omega)]
  by_cases h1 : (j * 5 + d) * 8 ≤ q ∧ q < (j * 5 + d) * 8 + 8
  · obtain ⟨i, hi, rfl⟩ : ∃ i, i < 8 ∧ q = (j * 5 + d) * 8 + i := ⟨q - (j * 5 + d) * 8, by omega, by omega⟩
    rw [hat i hi]
    unfold mM upM
    rw [if_pos (show (j * 5 + d) * 8 + i < 280 by omega), show ((j * 5 + d) * 8 + i) / 40 = j by omega, show ((j * 5 + d) * 8 + i) / 8 % 5 = d by omega, show ((j * 5 + d) * 8 + i) % 8 = i by omega, if_pos ⟨rfl, rfl⟩, swL_at (by omega) (by omega)]
    by_cases e1 : i = y
    · rw [if_pos e1, if_pos (show (j * 5 + d) * 8 + i = (j * 5 + d) * 8 + y by omega)]
    · rw [if_neg e1, if_neg (show ¬ (j * 5 + d) * 8 + i = (j * 5 + d) * 8 + y by omega)]
      by_cases e2 : i = x
      · rw [if_pos e2, if_pos (show (j * 5 + d) * 8 + i = (j * 5 + d) * 8 + x by omega)]
      · rw [if_neg e2, if_neg (show ¬ (j * 5 + d) * 8 + i = (j * 5 + d) * 8 + x by omega)]
  · rw [if_neg (show ¬ q = (j * 5 + d) * 8 + y by omega), if_neg (show ¬ q = (j * 5 + d) * 8 + x by omega)]
    unfold mM upM
    by_cases h3 : q < 280
    · rw [if_pos h3, if_pos h3, if_neg (fun z => h1 (by omega))]
    · rw [if_neg h3, if_neg h3]
theorem okS_sw {n x y : Nat} {L : List Nat} (h : okS n L) (hx : x < n) (hy : y < n) : okS n (swL L x y) := by
  obtain ⟨h1, h2, h3⟩ := h
  refine ⟨?_, fun a ha => ?_, fun i k hi hk e => ?_⟩
  · unfold swL
    rw [List.length_set, List.length_set]
    exact h1
  · unfold swL at ha
    have hg : ∀ i, i < n → 1 ≤ L.getD i 0 ∧ L.getD i 0 ≤ n := fun i hi => by
      rw [List.getD_eq_getElem?_getD, List.getElem?_eq_getElem (by omega)]
      exact h2 _ (List.getElem_mem _)
    rcases List.mem_or_eq_of_mem_set ha with ha | ha
    · rcases List.mem_or_eq_of_mem_set ha with ha | ha
      · exact h2 a ha
      · rw [ha]
        exact hg y hy
    · rw [ha]
      exact hg x hx
  · rw [swL_at (by omega) (by omega), swL_at (by omega) (by omega)] at e
    by_cases a1 : i = y
    · rw [if_pos a1] at e
      by_cases b1 : k = y
      · omega
      · rw [if_neg b1] at e
        by_cases b2 : k = x
        · rw [if_pos b2] at e
          have := h3 x y hx hy e
          omega
        · rw [if_neg b2] at e
          have := h3 x k hx hk e
          omega
    · rw [if_neg a1] at e
      by_cases a2 : i = x
      · rw [if_pos a2] at e
        by_cases b1 : k = y
        · rw [if_pos b1] at e
          have := h3 y x hy hx e
          omega
        · rw [if_neg b1] at e
          by_cases b2 : k = x
          · omega
          · rw [if_neg b2] at e
            have := h3 y k hy hk e
            omega
      · rw [if_neg a2] at e
        by_cases b1 : k = y
        · rw [if_pos b1] at e
          have := h3 i x hi hx e
          omega
        · rw [if_neg b1] at e
          by_cases b2 : k = x
          · rw [if_pos b2] at e
            have := h3 i y hi hy e
            omega
          · rw [if_neg b2] at e
            exact h3 i k hi hk e
end YAR
