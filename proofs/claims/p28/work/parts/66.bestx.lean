/-! the best exchange is the best -/
section YAS
def bI (V : Nat → Nat → Int32) (n : Nat) (now : Int32) (e : Int32 × Int32) (a i : Nat) : Prop := ((e.2 = -1 ∧ e.1 = now) ∨ ∃ x y, x < y ∧ y < n ∧ e.1 = V x y ∧ e.2 = Int32.ofNat (10 * x + y) ∧ (V x y).toInt < now.toInt) ∧ e.1.toInt ≤ now.toInt ∧ ∀ x y, x < y → y < n → (x < a ∨ (x = a ∧ y < a + 1 + i)) → e.1.toInt ≤ (V x y).toInt
theorem ten_tab (a b : Nat) : 10 * Int32.ofNat a + Int32.ofNat b = Int32.ofNat (10 * a + b) := by
  rw [Int32.ofNat_add, Int32.ofNat_mul]
  rfl
theorem bI_s {V : Nat → Nat → Int32} {n a i : Nat} {now : Int32} {e : Int32 × Int32} (hi : a + 1 + i < n) (h : bI V n now e a i) : bI V n now (bis V a i e) a (i + 1) := by
  obtain ⟨h1, h2, h3⟩ := h
  unfold bis
  cases hb : xcmp .ge (V a (a + 1 + i)) e.1 with
  | true =>
    have hb := xT (xc_ge _ _) hb
    refine ⟨h1, h2, fun x y q1 q2 q3 => ?_⟩
    by_cases e1 : x < a ∨ (x = a ∧ y < a + 1 + i)
    · exact h3 x y q1 q2 e1
    · have e2 : x = a := by omega
      have e3 : y = a + 1 + i := by omega
      rw [e2, e3]
      exact hb
  | false =>
    have hb := xN (xc_ge _ _) hb
    refine ⟨Or.inr ⟨a, a + 1 + i, by omega, hi, rfl, ten_tab _ _, by omega⟩, ?_, fun x y q1 q2 q3 => ?_⟩
    · show (V a (a + 1 + i)).toInt ≤ now.toInt
      omega
    · show (V a (a + 1 + i)).toInt ≤ (V x y).toInt
      by_cases e1 : x < a ∨ (x = a ∧ y < a + 1 + i)
      · have := h3 x y q1 q2 e1
        omega
      · have e2 : x = a := by omega
        have e3 : y = a + 1 + i := by omega
        rw [e2, e3]
        exact Int.le_refl _
theorem bI_in {V : Nat → Nat → Int32} {n a : Nat} {now : Int32} {e : Int32 × Int32} (h : bI V n now e a 0) : ∀ i, i ≤ n - (a + 1) → bI V n now (itf (bis V a) i e) a i := by
  intro i
  induction i with
  | zero => exact fun _ => h
  | succ i ih => exact fun hi => bI_s (by omega) (ih (by omega))
theorem bI_out {V : Nat → Nat → Int32} {n : Nat} {now : Int32} : ∀ a, a ≤ n → bI V n now (itf (bos V n) a (now, -1)) a 0 := by
  intro a
  induction a with
  | zero => exact fun _ => ⟨Or.inl ⟨rfl, rfl⟩, Int.le_refl _, fun x y q1 q2 q3 => by omega⟩
  | succ a ih =>
    intro ha
    obtain ⟨h1, h2, h3⟩ := bI_in (ih (by omega)) (n - (a + 1)) (Nat.le_refl _)
    exact ⟨h1, h2, fun x y q1 q2 q3 => h3 x y q1 q2 (by omega)⟩
/-- what the best exchange is -/
theorem bst_ok {n D j d c : Nat} {m : Nat → Int32} : (bst n D m j d c = -1 ∧ ∀ x y, x < y → y < n → (EPf n D (ef 0 m) c).toInt ≤ (vx n D m j d c x y).toInt) ∨ ∃ x y, x < y ∧ y < n ∧ bst n D m j d c = Int32.ofNat (10 * x + y) ∧ (vx n D m j d c x y).toInt < (EPf n D (ef 0 m) c).toInt ∧ ∀ x' y', x' < y' → y' < n → (vx n D m j d c x y).toInt ≤ (vx n D m j d c x' y').toInt := by
  obtain ⟨h1, h2, h3⟩ := bI_out (V := vx n D m j d c) (n := n) (now := EPf n D (ef 0 m) c) n (Nat.le_refl _)
  rcases h1 with ⟨a, b⟩ | ⟨x, y, a, b, c1, c2, c3⟩
  · exact Or.inl ⟨a, fun x y q1 q2 => by
      have := h3 x y q1 q2 (by omega)
      rw [b] at this
      exact this⟩
  · exact Or.inr ⟨x, y, a, b, c2, c3, fun x' y' q1 q2 => by
      have := h3 x' y' q1 q2 (by omega)
      rw [c1] at this
      exact this⟩
theorem swp_c (m : Nat → Int32) (x y : Nat) : swp m x y = swp m y x := by
  funext i
  unfold swp
  by_cases h1 : i = y
  · by_cases h2 : i = x
    · rw [if_pos h1, if_pos h2, ← h1, ← h2]
    · rw [if_pos h1, if_neg h2, if_pos h1]
  · by_cases h2 : i = x
    · rw [if_neg h1, if_pos h2, if_pos h2]
    · rw [if_neg h1, if_neg h2, if_neg h2, if_neg h1]
theorem swp_e (m : Nat → Int32) (x : Nat) : swp m x x = m := by
  funext i
  unfold swp
  by_cases h1 : i = x
  · rw [if_pos h1, h1]
  · rw [if_neg h1, if_neg h1]
theorem vxq_c {n D j d c x y : Nat} {m : Nat → Int32} : vx n D m j d c x y = vx n D m j d c y x := by
  unfold vx
  rw [swp_c]
theorem vxq_e {n D j d c x : Nat} {m : Nat → Int32} : vx n D m j d c x x = EPf n D (ef 0 m) c := by
  unfold vx
  rw [swp_e]
/-- against any exchange at all -/
theorem bst_any {n D j d c : Nat} {m : Nat → Int32} : (bst n D m j d c = -1 ∧ ∀ x y, x < n → y < n → (EPf n D (ef 0 m) c).toInt ≤ (vx n D m j d c x y).toInt) ∨ ∃ x y, x < y ∧ y < n ∧ bst n D m j d c = Int32.ofNat (10 * x + y) ∧ (vx n D m j d c x y).toInt < (EPf n D (ef 0 m) c).toInt ∧ ∀ x' y', x' < n → y' < n → (vx n D m j d c x y).toInt ≤ (vx n D m j d c x' y').toInt := by
  rcases bst_ok (n := n) (D := D) (j := j) (d := d) (c := c) (m := m) with ⟨h1, h2⟩ | ⟨x, y, h1, h2, h3, h4, h5⟩
  · refine Or.inl ⟨h1, fun x y q1 q2 => ?_⟩
    rcases Nat.lt_trichotomy x y with e | e | e
    · exact h2 x y e q2
    · rw [e, vxq_e]
      exact Int.le_refl _
    · rw [vxq_c]
      exact h2 y x e q1
  · refine Or.inr ⟨x, y, h1, h2, h3, h4, fun x' y' q1 q2 => ?_⟩
    rcases Nat.lt_trichotomy x' y' with e | e | e
    · exact h5 x' y' e q2
    · rw [e, vxq_e]
      omega
    · rw [vxq_c (x := x')]
      exact h5 y' x' e q1
end YAS
