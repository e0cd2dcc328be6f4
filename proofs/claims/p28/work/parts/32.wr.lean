/-! blocks written, places as numbers -/
section YW
def wr (s : yS) (k lo hi : Nat) (f : Nat → Int32) : yS := fun k' j => if k' = k ∧ lo ≤ j ∧ j < hi then f j else s k' j
theorem wr_0 (s : yS) (k lo : Nat) (f : Nat → Int32) : wr s k lo lo f = s := by
  funext k' j
  unfold wr
  rw [if_neg (fun q => by omega)]
theorem wr_s {s : yS} {k lo i : Nat} {f : Nat → Int32} {v : Int32} (h : lo ≤ i) (hv : v = f i) : yup (wr s k lo i f) k i v = wr s k lo (i + 1) f := by
  subst hv
  funext k' j
  unfold yup wr
  by_cases h1 : k' = k
  · by_cases h2 : j = i
    · rw [if_pos ⟨h1, h2⟩, if_pos ⟨h1, by omega, by omega⟩, h2]
    · rw [if_neg (fun q => h2 q.2)]
      by_cases h3 : lo ≤ j ∧ j < i
      · rw [if_pos ⟨h1, h3⟩, if_pos ⟨h1, by omega, by omega⟩]
      · rw [if_neg (fun q => h3 q.2), if_neg (fun q => h3 ⟨q.2.1, by omega⟩)]
  · rw [if_neg (fun q => h1 q.1), if_neg (fun q => h1 q.1), if_neg (fun q => h1 q.1)]
theorem wr_in {s : yS} {k lo hi j : Nat} {f : Nat → Int32} (h1 : lo ≤ j) (h2 : j < hi) : wr s k lo hi f k j = f j := by
  unfold wr
  rw [if_pos ⟨rfl, h1, h2⟩]
theorem wr_out {s : yS} {k lo hi j : Nat} {f : Nat → Int32} (h : j < lo ∨ hi ≤ j) : wr s k lo hi f k j = s k j := by
  unfold wr
  rw [if_neg (fun q => by omega)]
theorem wr_ne {s : yS} {k k' lo hi : Nat} {f : Nat → Int32} (h : k' ≠ k) : wr s k lo hi f k' = s k' := by
  funext j
  unfold wr
  rw [if_neg (fun q => h q.1)]
theorem yup_ne {s : yS} {k k' j : Nat} {v : Int32} (h : k' ≠ k) : yup s k j v k' = s k' := by
  funext i
  unfold yup
  rw [if_neg (fun q => h q.1)]
theorem yup_at {s : yS} {k j : Nat} {v : Int32} : yup s k j v k j = v := by
  unfold yup
  rw [if_pos ⟨rfl, rfl⟩]
theorem yup_wr {s : yS} {k k' lo hi j : Nat} {f : Nat → Int32} {v : Int32} (h : k' ≠ k) : yup (wr s k lo hi f) k' j v = wr (yup s k' j v) k lo hi f := by
  funext a b
  unfold yup wr
  by_cases h1 : a = k' ∧ b = j
  · rw [if_pos h1, if_neg (fun q => h (h1.1.symm.trans q.1))]
    exact (if_pos h1).symm
  · rw [if_neg h1]
    show _ = if _ then _ else (if a = k' ∧ b = j then v else s a b)
    rw [if_neg h1]
theorem rget_i {s : yS} {k i : Nat} (h : i < yln (k + 1)) : rget s k (Int32.ofNat i) = s (k + 1) i := by
  have hn := yln_le (k + 1)
  unfold rget
  rw [if_pos (by unfold yin; rw [i32_to (by omega)]; omega), i32_to (by omega), Int.toNat_natCast]
theorem rset_i {s : yS} {k i : Nat} {v : Int32} (h : i < yln (k + 1)) : rset s k (Int32.ofNat i) v = yup s (k + 1) i v := by
  have hn := yln_le (k + 1)
  unfold rset
  rw [if_pos (by unfold yin; rw [i32_to (by omega)]; omega), i32_to (by omega), Int.toNat_natCast]
theorem gat_i {k a b : Nat} (hb : b < ycl k) (hc : ycl k < 1000) (hl : a * ycl k + b < yln (k + 1)) : gat k (Int32.ofNat a) (Int32.ofNat b) = Int32.ofNat (a * ycl k + b) := by
  unfold gat
  rw [if_pos (by unfold yin; rw [i32_to (by omega)]; omega), ← Int32.ofNat_mul, ← Int32.ofNat_add]
theorem gget_i {s : yS} {k a b : Nat} (hb : b < ycl k) (hc : ycl k < 1000) (hl : a * ycl k + b < yln (k + 1)) : gget s k (Int32.ofNat a) (Int32.ofNat b) = s (k + 1) (a * ycl k + b) := by
  have hn := yln_le (k + 1)
  unfold gget
  rw [gat_i hb hc hl, if_pos (by unfold yin; rw [i32_to (by omega)]; omega), i32_to (by omega), Int.toNat_natCast]
theorem gset_i {s : yS} {k a b : Nat} {v : Int32} (hb : b < ycl k) (hc : ycl k < 1000) (hl : a * ycl k + b < yln (k + 1)) : gset s k (Int32.ofNat a) (Int32.ofNat b) v = yup s (k + 1) (a * ycl k + b) v := by
  have hn := yln_le (k + 1)
  unfold gset
  rw [gat_i hb hc hl, if_pos (by unfold yin; rw [i32_to (by omega)]; omega), i32_to (by omega), Int.toNat_natCast]
theorem wr_wr {s : yS} {k lo hi : Nat} {f g : Nat → Int32} : wr (wr s k lo hi f) k lo hi g = wr s k lo hi g := by
  funext a b
  unfold wr
  by_cases h : a = k ∧ lo ≤ b ∧ b < hi
  · rw [if_pos h, if_pos h]
  · rw [if_neg h, if_neg h, if_neg h]
/-- the place of a score -/
abbrev yss (S : Nat) : Prop := S = 30 ∨ S = 52
theorem row_i (d p : Nat) : Int32.ofNat d * 8 + Int32.ofNat p = Int32.ofNat (d * 8 + p) := by
  rw [Int32.ofNat_add, Int32.ofNat_mul]
  rfl
end YW
