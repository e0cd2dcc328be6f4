/-! the code lists are the bytes -/
section XDC
def xchk (b : ByteArray) : Nat → List (Option Instr) → Bool
  | _, [] => true
  | pc, none :: r => xchk b (pc + 1) r
  | pc, some i :: r => (match decode b pc with
    | .ok (j, n) => decide (j = i) && (decide (xlen i = 0) || decide (n = xlen i))
    | .error _ => false) && xchk b (pc + 1) r
theorem xchk_ok {b : ByteArray} : ∀ {l : List (Option Instr)} {pc k : Nat} {i : Instr}, xchk b pc l = true → l[k]? = some (some i) → ∃ len, decode b (pc + k) = .ok (i, len) ∧ (xlen i = 0 ∨ len = xlen i)
  | [], _, _, _, _, h => by simp at h
  | none :: r, pc, 0, i, _, h => by simp at h
  | none :: r, pc, k + 1, i, hc, h => by
    have := xchk_ok (l := r) (pc := pc + 1) (k := k) hc (by simpa using h)
    rw [show pc + (k + 1) = pc + 1 + k by omega]
    exact this
  | some j :: r, pc, 0, i, hc, h => by
    simp only [List.getElem?_cons_zero, Option.some.injEq] at h
    subst h
    unfold xchk at hc
    rw [Bool.and_eq_true] at hc
    have hc := hc.1
    split at hc
    · rename_i j2 n hd
      simp only [Bool.and_eq_true, Bool.or_eq_true, decide_eq_true_eq] at hc
      obtain ⟨rfl, h2⟩ := hc
      exact ⟨n, hd, h2⟩
    · cases hc
  | some j :: r, pc, k + 1, i, hc, h => by
    unfold xchk at hc
    rw [Bool.and_eq_true] at hc
    have := xchk_ok (l := r) (pc := pc + 1) (k := k) hc.2 (by simpa using h)
    rw [show pc + (k + 1) = pc + 1 + k by omega]
    exact this
theorem xchk_app {b : ByteArray} : ∀ {l1 l2 : List (Option Instr)} {pc : Nat}, xchk b pc l1 = true → xchk b (pc + l1.length) l2 = true → xchk b pc (l1 ++ l2) = true
  | [], _, pc, _, h => h
  | none :: r, l2, pc, h1, h2 => xchk_app (l1 := r) (pc := pc + 1) h1 (by rw [List.length_cons] at h2; rw [show pc + 1 + r.length = pc + (r.length + 1) by omega]; exact h2)
  | some i :: r, l2, pc, h1, h2 => by
    rw [List.cons_append]
    unfold xchk at h1 ⊢
    rw [Bool.and_eq_true] at h1 ⊢
    exact ⟨h1.1, xchk_app (l1 := r) (pc := pc + 1) h1.2 (by rw [List.length_cons] at h2; rw [show pc + 1 + r.length = pc + (r.length + 1) by omega]; exact h2)⟩
end XDC
