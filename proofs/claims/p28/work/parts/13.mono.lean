/-! a run on lists grows -/
section XMO
set_option maxHeartbeats 4000000 in
theorem xstep_mono {o nL : Nat} {ini : Bool} {sc : Option (List Int32)} {i : Instr} {pc : Nat} {lv : xL} {st : List Value} {h : xH} {ks : Nat} {pc' : Nat} {lv' : xL} {st' : List Value} {h' : xH} {ks' : Nat}
    (he : xstep o nL ini sc i pc lv st h ks = some (pc', lv', st', h', ks')) : h.length ≤ h'.length ∧ ks ≤ ks' := by
  unfold xstep at he
  simp only [Bool.cond_eq_ite] at he
  repeat' split at he
  all_goals first
    | (cases he; exact ⟨Nat.le_refl _, Nat.le_refl _⟩)
    | (cases he; simp only [xset, List.length_set, List.length_append, List.length_singleton]; omega)
    | cases he
theorem xcpy_len {o μ x : Nat} {st rest : List Value} {h h' : xH} (hm : xcpy o μ x st h = some (rest, h')) : h'.length = h.length := by
  unfold xcpy at hm
  repeat' split at hm
  all_goals first
    | (cases hm; done)
    | (cases hm; simp [xset])
theorem xloop_mono {call : Nat → List Value → xH → Nat → Option xO} (hcall : ∀ μ as h ks out, call μ as h ks = some out → h.length ≤ out.2.2.1.length ∧ ks ≤ out.2.2.2) {sc : Option (List Int32)} {μ o nL : Nat} {ini : Bool} {cod : List (Option Instr)} :
    ∀ (n pc : Nat) (lv : xL) (st : List Value) (h : xH) (ks : Nat) (out : xO), xloop call sc μ o nL ini cod n pc lv st h ks = some out → h.length ≤ out.2.2.1.length ∧ ks ≤ out.2.2.2 := by
  intro n
  induction n with
  | zero => intro pc lv st h ks out he; cases he
  | succ n ih =>
    intro pc lv st h ks out he
    have down : ∀ (pc' : Nat) (lv' : xL) (st' : List Value) (h' : xH) (ks' : Nat), h.length ≤ h'.length → ks ≤ ks' → xloop call sc μ o nL ini cod n pc' lv' st' h' ks' = some out → h.length ≤ out.2.2.1.length ∧ ks ≤ out.2.2.2 := fun pc' lv' st' h' ks' a b q => by
      have := ih pc' lv' st' h' ks' out q
      exact ⟨Nat.le_trans a this.1, Nat.le_trans b this.2⟩
    unfold xloop at he
    split at he
    · split at he
      · split at he
        · cases he; exact ⟨Nat.le_refl _, Nat.le_refl _⟩
        · cases he
      · split at he
        · cases he; exact ⟨Nat.le_refl _, Nat.le_refl _⟩
        · cases he
      · split at he
        · cases he; exact ⟨Nat.le_refl _, Nat.le_refl _⟩
        · cases he
      · split at he
        · cases he; exact ⟨Nat.le_refl _, Nat.le_refl _⟩
        · cases he
      · split at he
        · cases he; exact ⟨Nat.le_refl _, Nat.le_refl _⟩
        · cases he
      · split at he
        · exact down _ _ _ _ _ (Nat.le_refl _) (Nat.le_refl _) he
        · split at he
          · split at he
            · split at he
              · rename_i hc
                have := hcall _ _ _ _ _ hc
                exact down _ _ _ _ _ this.1 this.2 he
              · rename_i hc
                have := hcall _ _ _ _ _ hc
                split at he
                · split at he
                  · cases he
                    exact this
                  · split at he
                    · split at he
                      · exact down _ _ _ _ _ this.1 this.2 he
                      · cases he
                    · cases he
                · cases he
              · cases he
            · split at he
              · split at he
                · rename_i hc
                  have := hcall _ _ _ _ _ hc
                  exact down _ _ _ _ _ this.1 this.2 he
                · cases he
              · cases he
          · split at he
            · rename_i hc
              exact down _ _ _ _ _ (Nat.le_of_eq (xcpy_len hc).symm) (Nat.le_refl _) he
            · cases he
      · split at he
        · split at he
          · split at he
            · rename_i hc
              have := hcall _ _ _ _ _ hc
              exact down _ _ _ _ _ this.1 this.2 he
            · rename_i hc
              have := hcall _ _ _ _ _ hc
              split at he
              · cases he
                exact this
              · split at he
                · split at he
                  · exact down _ _ _ _ _ this.1 this.2 he
                  · cases he
                · cases he
            · cases he
          · cases he
        · cases he
      · split at he
        · split at he
          · split at he
            · exact down _ _ _ _ _ (Nat.le_refl _) (Nat.le_refl _) he
            · cases he
          · cases he
        · split at he
          · split at he
            · split at he
              · rename_i hc
                have := hcall _ _ _ _ _ hc
                exact down _ _ _ _ _ this.1 this.2 he
              · cases he
            · cases he
          · cases he
      · split at he
        · exact down _ _ _ _ _ (Nat.le_refl _) (Nat.le_refl _) he
        · cases he
      · split at he
        · split at he
          · split at he
            · split at he
              · rename_i hc
                have := hcall _ _ _ _ _ hc
                exact down _ _ _ _ _ this.1 this.2 he
              · cases he
            · cases he
          · cases he
        · cases he
      · split at he
        · exact down _ _ _ _ _ (by rw [List.length_append]; exact Nat.le_add_right _ _) (Nat.le_add_right _ _) he
        · cases he
      · split at he
        · exact down _ _ _ _ _ (by rw [List.length_append]; exact Nat.le_add_right _ _) (Nat.le_refl _) he
        · cases he
      · split at he
        · split at he
          · split at he
            · cases he
              exact ⟨by rw [List.length_append]; exact Nat.le_add_right _ _, Nat.le_add_right _ _⟩
            · cases he
          · cases he
        · split at he
          · rename_i hs
            have := xstep_mono hs
            exact down _ _ _ _ _ this.1 this.2 he
          · cases he
      · split at he
        · rename_i hs
          have := xstep_mono hs
          exact down _ _ _ _ _ this.1 this.2 he
        · cases he
    · cases he
theorem xcall_mono {F : Nat} {sc : Option (List Int32)} : ∀ (d μ : Nat) (as : List Value) (h : xH) (ks : Nat) (out : xO), xcall F sc d μ as h ks = some out → h.length ≤ out.2.2.1.length ∧ ks ≤ out.2.2.2 := by
  intro d
  induction d with
  | zero => intro μ as h ks out he; cases he
  | succ d ih =>
    intro μ as h ks out he
    unfold xcall at he
    split at he
    · exact xloop_mono ih _ _ _ _ _ _ _ he
    · cases he
end XMO
