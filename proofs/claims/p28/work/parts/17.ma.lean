/-! arrays of arrays, two and three deep -/
section XMA
theorem x_outE (c : ClassId) (N h0 : Nat) : ∀ i, Jvm.Free.Multi.outerC c N h0 i = { cls := c, slots := (Jvm.Free.Multi.outerC c N h0 i).slots, vm := .none }
  | 0 => rfl
  | i + 1 => by
    show (Jvm.Free.Multi.outerC c N h0 i).setSlot i _ = _
    rw [x_outE c N h0 i]
    rfl
theorem x_out (c : ClassId) (N h0 : Nat) : Jvm.Free.Multi.outerC c N h0 N = { cls := c, slots := ((List.range N).map (fun j => Value.ref (h0 + 1 + j))).toArray, vm := .none } := by
  rw [x_outE]
  congr 1
  refine Array.ext_getElem? fun j => ?_
  by_cases hj : j < N
  · rw [Jvm.Free.Multi.outerC_slot c N h0 N j hj, if_pos hj]
    simp [hj]
  · rw [Array.getElem?_eq_none (by rw [(Jvm.Free.Multi.outerC_facts c N h0 N).2.2]; omega)]
    simp [hj]
def x_o3 (c : ClassId) (N h0 K : Nat) : Nat → Cell
  | 0 => { cls := c, slots := Array.replicate N .null, vm := .none }
  | i + 1 => (x_o3 c N h0 K i).setSlot i (.ref (h0 + 1 + i * (1 + K)))
def x_f3 (s : State) (c comp cc : ClassId) (N K M : Nat) (dv : Value) : Nat → State
  | 0 => s.pushCell (x_o3 c N s.heap.size K 0)
  | i + 1 => (Jvm.Free.Multi.fill (x_f3 s c comp cc N K M dv i) comp cc K M dv K).setCell s.heap.size (x_o3 c N s.heap.size K (i + 1))
theorem x_o3_facts (c : ClassId) (N h0 K : Nat) : ∀ i, (x_o3 c N h0 K i).cls = c ∧ (x_o3 c N h0 K i).vm = .none ∧ (x_o3 c N h0 K i).slots.size = N
  | 0 => ⟨rfl, rfl, by simp [x_o3]⟩
  | i + 1 => by
    obtain ⟨a, b, d⟩ := x_o3_facts c N h0 K i
    exact ⟨by simp [x_o3, Cell.setSlot, a], by simp [x_o3, Cell.setSlot, b], by simp [x_o3, Cell.setSlot, d]⟩
theorem x_f3_facts (s : State) (c comp cc : ClassId) (N K M : Nat) (dv : Value) : ∀ i, (x_f3 s c comp cc N K M dv i).heap.size = s.heap.size + 1 + i * (1 + K) ∧ (x_f3 s c comp cc N K M dv i).heap[s.heap.size]? = some (x_o3 c N s.heap.size K i) ∧
    (x_f3 s c comp cc N K M dv i).vm = s.vm ∧ (x_f3 s c comp cc N K M dv i).slotsUsed = s.slotsUsed + N + i * (K + K * M)
  | 0 => ⟨by simp [x_f3], by simp [x_f3], rfl, by simp [x_f3, x_o3]⟩
  | i + 1 => by
    obtain ⟨a, b, d, u⟩ := x_f3_facts s c comp cc N K M dv i
    obtain ⟨f1, f2, f3, f4⟩ := Jvm.Free.Multi.fill_facts (x_f3 s c comp cc N K M dv i) comp cc K M dv K
    have hlt : s.heap.size < (x_f3 s c comp cc N K M dv i).heap.size := by omega
    have hb' : (Jvm.Free.Multi.fill (x_f3 s c comp cc N K M dv i) comp cc K M dv K).heap[s.heap.size]? = some (x_o3 c N s.heap.size K i) := by rw [Jvm.Free.Multi.fill_old _ _ _ _ _ _ hlt]; exact b
    have e1 : (i + 1) * (1 + K) = i * (1 + K) + (1 + K) := Nat.succ_mul _ _
    have e2 : (i + 1) * (K + K * M) = i * (K + K * M) + (K + K * M) := Nat.succ_mul _ _
    refine ⟨?_, State.heap_setCell_self hb', by simp [x_f3, f3, d], ?_⟩
    · have e3 : (x_f3 s c comp cc N K M dv (i + 1)).heap.size = (Jvm.Free.Multi.fill (x_f3 s c comp cc N K M dv i) comp cc K M dv K).heap.size := by simp [x_f3, State.setCell]
      rw [e3, f1, a, e1]
      omega
    · have e4 : (x_f3 s c comp cc N K M dv (i + 1)).slotsUsed = (Jvm.Free.Multi.fill (x_f3 s c comp cc N K M dv i) comp cc K M dv K).slotsUsed := by simp [x_f3]
      rw [e4, f4, u, e2]
      omega
theorem x_f3_setTop (s : State) (f : JFrame) (c comp cc : ClassId) (N K M : Nat) (dv : Value) : ∀ i, x_f3 (s.setTop f) c comp cc N K M dv i = (x_f3 s c comp cc N K M dv i).setTop f
  | 0 => rfl
  | i + 1 => by simp only [x_f3, x_f3_setTop s f c comp cc N K M dv i, Jvm.Free.Multi.fill_setTop, State.heap_setTop, State.setCell_setTop]
theorem x_f3_old (s : State) (c comp cc : ClassId) (N K M : Nat) (dv : Value) {a : Addr} (ha : a < s.heap.size) : ∀ i, (x_f3 s c comp cc N K M dv i).heap[a]? = s.heap[a]?
  | 0 => State.heap_pushCell_of_lt _ _ ha
  | i + 1 => by
    have f1 := (x_f3_facts s c comp cc N K M dv i).1
    show ((Jvm.Free.Multi.fill (x_f3 s c comp cc N K M dv i) comp cc K M dv K).setCell s.heap.size _).heap[a]? = _
    rw [State.heap_setCell_other (Nat.ne_of_gt ha), Jvm.Free.Multi.fill_old _ _ _ _ _ _ (Nat.lt_of_lt_of_le ha (by rw [f1, Nat.add_assoc]; exact Nat.le_add_right _ _))]
    exact x_f3_old s c comp cc N K M dv ha i
/-- the middle one number j, and its rows -/
theorem x_f3_mid (s : State) (c comp cc : ClassId) (N K M : Nat) (dv : Value) : ∀ i j, j < i → (x_f3 s c comp cc N K M dv i).heap[s.heap.size + 1 + j * (1 + K)]? = some (Jvm.Free.Multi.outerC comp K (s.heap.size + 1 + j * (1 + K)) K) ∧
    ∀ q, q < K → (x_f3 s c comp cc N K M dv i).heap[s.heap.size + 1 + j * (1 + K) + 1 + q]? = some (Jvm.Free.Multi.innerC cc M dv)
  | 0, _, h => absurd h (Nat.not_lt_zero _)
  | i + 1, j, h => by
    have f1 := (x_f3_facts s c comp cc N K M dv i).1
    have hne : ∀ z : Nat, s.heap.size ≠ s.heap.size + 1 + z := fun z h => by
      have h : (s.heap.size : Nat) = s.heap.size + 1 + z := h
      omega
    have hne2 : ∀ z q : Nat, s.heap.size ≠ s.heap.size + 1 + z + 1 + q := fun z q h => by
      have h : (s.heap.size : Nat) = s.heap.size + 1 + z + 1 + q := h
      omega
    rcases Nat.lt_or_ge j i with hj | hj
    · obtain ⟨h1, h2⟩ := x_f3_mid s c comp cc N K M dv i j hj
      have hle : (j + 1) * (1 + K) ≤ i * (1 + K) := Nat.mul_le_mul_right _ hj
      rw [Nat.succ_mul] at hle
      have b1 : s.heap.size + 1 + j * (1 + K) < (x_f3 s c comp cc N K M dv i).heap.size := by
        rw [f1]
        generalize j * (1 + K) = A at hle ⊢
        generalize i * (1 + K) = B at hle ⊢
        omega
      have b2 : ∀ q, q < K → s.heap.size + 1 + j * (1 + K) + 1 + q < (x_f3 s c comp cc N K M dv i).heap.size := fun q hq => by
        rw [f1]
        generalize j * (1 + K) = A at hle ⊢
        generalize i * (1 + K) = B at hle ⊢
        omega
      refine ⟨?_, fun q hq => ?_⟩
      · show ((Jvm.Free.Multi.fill (x_f3 s c comp cc N K M dv i) comp cc K M dv K).setCell s.heap.size _).heap[_]? = _
        rw [State.heap_setCell_other (hne _), Jvm.Free.Multi.fill_old _ _ _ _ _ _ b1]
        exact h1
      · show ((Jvm.Free.Multi.fill (x_f3 s c comp cc N K M dv i) comp cc K M dv K).setCell s.heap.size _).heap[_]? = _
        rw [State.heap_setCell_other (hne2 _ _), Jvm.Free.Multi.fill_old _ _ _ _ _ _ (b2 q hq)]
        exact h2 q hq
    · have e : j = i := by omega
      subst e
      obtain ⟨-, g2, -, -⟩ := Jvm.Free.Multi.fill_facts (x_f3 s c comp cc N K M dv j) comp cc K M dv K
      refine ⟨?_, fun q hq => ?_⟩
      · show ((Jvm.Free.Multi.fill (x_f3 s c comp cc N K M dv j) comp cc K M dv K).setCell s.heap.size _).heap[_]? = _
        rw [State.heap_setCell_other (hne _), ← f1]
        exact g2
      · show ((Jvm.Free.Multi.fill (x_f3 s c comp cc N K M dv j) comp cc K M dv K).setCell s.heap.size _).heap[_]? = _
        rw [State.heap_setCell_other (hne2 _ _), ← f1]
        exact Jvm.Free.Multi.fill_inner _ _ _ _ _ _ _ _ hq
theorem x_o3_slot (c : ClassId) (N h0 K : Nat) : ∀ i j, j < N → (x_o3 c N h0 K i).slots[j]? = some (if j < i then .ref (h0 + 1 + j * (1 + K)) else .null)
  | 0, j, h => by simp [x_o3, h]
  | i + 1, j, h => by
    have ih := x_o3_slot c N h0 K i j h
    have hs := (x_o3_facts c N h0 K i).2.2
    show ((x_o3 c N h0 K i).setSlot i (.ref (h0 + 1 + i * (1 + K)))).slots[j]? = _
    simp only [Cell.setSlot, Array.getElem?_setIfInBounds]
    by_cases e : i = j
    · subst e; simp [hs, h]
    · rw [if_neg e, ih]
      by_cases hj : j < i
      · rw [if_pos hj, if_pos (by omega)]
      · rw [if_neg hj, if_neg (by omega)]
theorem x_o3E (c : ClassId) (N h0 K : Nat) : ∀ i, x_o3 c N h0 K i = { cls := c, slots := (x_o3 c N h0 K i).slots, vm := .none }
  | 0 => rfl
  | i + 1 => by
    show (x_o3 c N h0 K i).setSlot i _ = _
    rw [x_o3E c N h0 K i]
    rfl
theorem x_o3o (c : ClassId) (N h0 K : Nat) : x_o3 c N h0 K N = { cls := c, slots := ((List.range N).map (fun j => Value.ref (h0 + 1 + j * (1 + K)))).toArray, vm := .none } := by
  rw [x_o3E]
  congr 1
  refine Array.ext_getElem? fun j => ?_
  by_cases hj : j < N
  · rw [x_o3_slot c N h0 K N j hj, if_pos hj]
    simp [hj]
  · rw [Array.getElem?_eq_none (by rw [(x_o3_facts c N h0 K N).2.2]; omega)]
    simp [hj]
section
variable {E : CtlPost} {e : Env} {d : Bool} {acts : List Action} {s : State}
theorem x_make3 {c comp cc cd : ClassId} {k kc kd : Class} {t0 t1 type : FieldType} {n m r : Int32} (hk : s.vm.classes[c]? = some k) (hkind : k.kind = .array comp t0) (href : t0.isReference = true)
    (hkc : s.vm.classes[comp]? = some kc) (hkindc : kc.kind = .array cc t1) (href1 : t1.isReference = true) (hkd : s.vm.classes[cc]? = some kd) (hkindd : kd.kind = .array cd type) (hn : ¬ n < 0) (hm : ¬ m < 0) (hr : ¬ r < 0)
    (hl1 : ¬ n.toNatClampNeg > e.platform.arrayLengthLimit) (hh1 : ¬ n.toNatClampNeg * componentBytes t0 > e.platform.maxHeapBytes)
    (hl2 : ¬ m.toNatClampNeg > e.platform.arrayLengthLimit) (hh2 : ¬ m.toNatClampNeg * componentBytes t1 > e.platform.maxHeapBytes)
    (hl3 : ¬ r.toNatClampNeg > e.platform.arrayLengthLimit) (hh3 : ¬ r.toNatClampNeg * componentBytes type > e.platform.maxHeapBytes)
    (hdf : fits type (defaultValue type) = true) (hdd : (defaultValue type).isDefault = true)
    (hc : s.heap.size + 1 + n.toNatClampNeg * (1 + m.toNatClampNeg) ≤ e.platform.maxCells) (hs : s.slotsUsed + n.toNatClampNeg + n.toNatClampNeg * (m.toNatClampNeg + m.toNatClampNeg * r.toNatClampNeg) ≤ e.platform.maxSlots)
    {Q : Addr → Pre} (hq : ∀ d' acts', Q s.heap.size d' acts' (x_f3 s c comp cc n.toNatClampNeg m.toNatClampNeg r.toNatClampNeg (defaultValue type) n.toNatClampNeg)) :
    wp (multianewarray.make c [n, m, r]) Q E e d acts s := by
  have hfind : ([m, r].find? (· < 0)) = none := by simp [hm, hr]
  rw [multianewarray.make]
  simp only [wp_bind', W.ite, hn, if_false, wp_pure', W.theClass, hk, hkind, Option.some.injEq, exists_eq_left']
  refine Jvm.Free.Multi.wp_newArray hk hkind hl1 hh1 (Jvm.Free.Multi.refFits href _ (Or.inl rfl)) rfl (by have := Nat.zero_le (n.toNatClampNeg * (1 + m.toNatClampNeg)); omega) (by have := Nat.zero_le (n.toNatClampNeg * (m.toNatClampNeg + m.toNatClampNeg * r.toNatClampNeg)); omega) ?_
  simp only [hfind]
  rw [ite_self, wp_bind', Std.Legacy.Range.forIn_eq_forIn_range']
  have hsz : ([:n.toNatClampNeg] : Std.Legacy.Range).size = n.toNatClampNeg := by simp [Std.Legacy.Range.size]
  rw [hsz]
  show wp (forIn (List.range' 0 n.toNatClampNeg 1) PUnit.unit _) _ E e d acts _
  refine wp_forIn_inv (fun rest s' => ∃ i, i ≤ n.toNatClampNeg ∧ rest = List.range' i (n.toNatClampNeg - i) ∧ s' = x_f3 s c comp cc n.toNatClampNeg m.toNatClampNeg r.toNatClampNeg (defaultValue type) i) _ _ ⟨0, Nat.zero_le _, rfl, rfl⟩ ?_ ?_
  · rintro x rest s' d' acts' Q' ⟨i, hi, hl, rfl⟩ hnext
    have hlt : i < n.toNatClampNeg := by
      rcases Nat.lt_or_ge i n.toNatClampNeg with h | h
      · exact h
      · rw [show n.toNatClampNeg - i = 0 from by omega] at hl; simp at hl
    obtain ⟨rfl, hrest⟩ : x = i ∧ rest = List.range' (i + 1) (n.toNatClampNeg - (i + 1)) := by
      rw [show n.toNatClampNeg - i = (n.toNatClampNeg - (i + 1)) + 1 from by omega, List.range'_succ] at hl
      exact ⟨(List.cons.inj hl).1, (List.cons.inj hl).2⟩
    obtain ⟨f1, f2, f3, f4⟩ := x_f3_facts s c comp cc n.toNatClampNeg m.toNatClampNeg r.toNatClampNeg (defaultValue type) x
    obtain ⟨o1, o2, o3⟩ := x_o3_facts c n.toNatClampNeg s.heap.size m.toNatClampNeg x
    have hmul : x * (1 + m.toNatClampNeg) + (1 + m.toNatClampNeg) ≤ n.toNatClampNeg * (1 + m.toNatClampNeg) := by
      have := Nat.mul_le_mul_right (1 + m.toNatClampNeg) (show x + 1 ≤ n.toNatClampNeg from hlt)
      rw [Nat.succ_mul] at this; exact this
    have hmul2 : x * (m.toNatClampNeg + m.toNatClampNeg * r.toNatClampNeg) + (m.toNatClampNeg + m.toNatClampNeg * r.toNatClampNeg) ≤ n.toNatClampNeg * (m.toNatClampNeg + m.toNatClampNeg * r.toNatClampNeg) := by
      have := Nat.mul_le_mul_right (m.toNatClampNeg + m.toNatClampNeg * r.toNatClampNeg) (show x + 1 ≤ n.toNatClampNeg from hlt)
      rw [Nat.succ_mul] at this; exact this
    simp only [wp_bind']
    refine Jvm.Free.Multi.wp_make2 (k := kc) (kc := kd) (comp := cc) (cc := cd) (t0 := t1) (type := type) (by rw [f3]; exact hkc) hkindc href1 (by rw [f3]; exact hkd) hkindd hm hr hl2 hh2 hl3 hh3 hdf hdd (by rw [f1]; omega) (by rw [f4]; omega) (fun d9 acts9 => ?_)
    have hlt0 : s.heap.size < (x_f3 s c comp cc n.toNatClampNeg m.toNatClampNeg r.toNatClampNeg (defaultValue type) x).heap.size := by rw [f1]; omega
    have g3 := (Jvm.Free.Multi.fill_facts (x_f3 s c comp cc n.toNatClampNeg m.toNatClampNeg r.toNatClampNeg (defaultValue type) x) comp cc m.toNatClampNeg r.toNatClampNeg (defaultValue type) m.toNatClampNeg).2.2.1
    simp only [wp_bind', W.writeLoc, wp_pure']
    refine ⟨x_o3 c n.toNatClampNeg s.heap.size m.toNatClampNeg x, by rw [Jvm.Free.Multi.fill_old _ _ _ _ _ _ hlt0]; exact f2, by rw [o2]; simp, by rw [o3]; exact hlt, ?_, hnext _ _ _ ⟨x + 1, hlt, hrest, ?_⟩⟩
    · rw [o1, o2]
      simp [State.fitsSlot, State.slotType?, g3, f3, hk, hkind, Jvm.Free.Multi.refFits href _ (Or.inr ⟨_, rfl⟩)]
    · rw [f1]; rfl
  · rintro s' d' acts' ⟨i, hi, hl, rfl⟩
    have hiN : i = n.toNatClampNeg := by
      rcases Nat.lt_or_ge i n.toNatClampNeg with h | h
      · rw [show n.toNatClampNeg - i = (n.toNatClampNeg - (i + 1)) + 1 from by omega, List.range'_succ] at hl; cases hl
      · omega
    subst hiN
    simp only [wp_pure']
    exact hq _ _
end
end XMA
