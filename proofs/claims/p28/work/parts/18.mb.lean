section XMB
variable {p : Program} {l : Launch} {e : Env} {R : Room} {s : State} {m : MethodId} {args : Array Value} {below : List Frame} {meth : Method} {c : Code} {T : State} {locs : List Loc} {cells slots : Nat} {H : Heap} {Q : State → Prop}
theorem x_filled3 (X : Stand p l e R s m args below meth c T locs cells slots) (cA comp cc : ClassId) (N K M : Nat) (dv : Value) :
    ∀ i, ∃ L : List Loc, (∀ q ∈ L, T.heap.size ≤ q.base) ∧ Stand p l e R s m args below meth c (x_f3 T cA comp cc N K M dv i) (locs ++ L) (cells + 1 + i * (1 + K)) (slots + N + i * (K + K * M))
  | 0 => by
    have h := X.pushed (x_o3 cA N T.heap.size K 0)
    rw [(x_o3_facts cA N T.heap.size K 0).2.2] at h
    refine ⟨[], fun q hq => (nomatch hq), ?_⟩
    simpa [x_f3] using h
  | i + 1 => by
    obtain ⟨L, hL, Xi⟩ := x_filled3 X cA comp cc N K M dv i
    obtain ⟨f1, f2, f3, f4⟩ := x_f3_facts T cA comp cc N K M dv i
    have hlt0 : T.heap.size < (x_f3 T cA comp cc N K M dv i).heap.size := by rw [f1, Nat.add_assoc]; exact Nat.lt_of_lt_of_le (Nat.lt_succ_self _) (by rw [← Nat.add_assoc]; exact Nat.le_add_right _ _)
    have hcell : (Jvm.Free.Multi.fill (x_f3 T cA comp cc N K M dv i) comp cc K M dv K).heap[T.heap.size]? = some (x_o3 cA N T.heap.size K i) := by rw [Jvm.Free.Multi.fill_old _ _ _ _ _ _ hlt0]; exact f2
    have h := (Xi.filled comp cc K M dv K).stored hcell i (.ref (T.heap.size + 1 + i * (1 + K)))
    refine ⟨L ++ (List.range K).map (fun j => ⟨(x_f3 T cA comp cc N K M dv i).heap.size, j⟩) ++ [⟨T.heap.size, i⟩], fun q hq => ?_, ?_⟩
    · rcases List.mem_append.mp hq with hq | hq
      · rcases List.mem_append.mp hq with hq | hq
        · exact hL q hq
        · obtain ⟨j, -, rfl⟩ := List.mem_map.mp hq
          exact Nat.le_of_lt hlt0
      · rw [List.mem_singleton.mp hq]
        exact Nat.le_refl _
    · have e3 : slots + N + (i + 1) * (K + K * M) = slots + N + i * (K + K * M) + K + K * M := by rw [Nat.succ_mul]; omega
      have e4 : cells + 1 + (i + 1) * (1 + K) = cells + 1 + i * (1 + K) + 1 + K := by rw [Nat.succ_mul]; omega
      rw [e3, e4]
      simpa only [x_f3, x_o3, List.append_assoc] using h
/-- new T[n][k], at W -/
theorem x_mna2 {cc : ByteArray} {pc : Nat} {ls : Array Slot} {rest : List Value} (hexec : p.tables.exec = Jvm.exec) (hb : c.code = cc) {own : String} {index : Nat} {ty : FieldType} (hown : s.vm.findClass own = some m.cls) (hclink : (Jvm.Cond.classLink own index ("[" ++ (FieldType.array ty).toString)).before args s = true)
    (hover : (Jvm.Cond.arrayOver (.array ty)).before args s = true) (harr : (Jvm.Cond.arrayClass ty).before args s = true) {n k : Int32} (hn : ¬ n < 0) (hk : ¬ k < 0)
    (hb1 : n.toNatClampNeg * 4 ≤ 536870912) (hb2 : k.toNatClampNeg * componentBytes ty ≤ 536870912) (hb3 : k.toNatClampNeg ≤ 536870912) (hdf : fits ty (defaultValue ty) = true) (hdd : (defaultValue ty).isDefault = true)
    (hcells : cells + (1 + n.toNatClampNeg) ≤ R.cells) (hslots : slots + (n.toNatClampNeg + n.toNatClampNeg * k.toNatClampNeg) ≤ R.slots) (hdg : decode cc pc = .ok (.multianewarray index 2, 4))
    (kk : ∀ (H1 : Heap) (cA comp : ClassId), s.vm.findClass ("[" ++ (FieldType.array ty).toString) = some cA → s.vm.findClass (FieldType.array ty).toString = some comp → H1.size = H.size + 1 + n.toNatClampNeg → (∀ q, q < H.size → H1[q]? = H[q]?) →
      H1[H.size]? = some { cls := cA, slots := ((List.range n.toNatClampNeg).map (fun j => Value.ref (H.size + 1 + j))).toArray, vm := .none } → (∀ j, j < n.toNatClampNeg → H1[H.size + 1 + j]? = some { cls := comp, slots := Array.replicate k.toNatClampNeg (defaultValue ty), vm := .none }) →
      W p l e R s m args below meth c H1 locs (cells + 1 + n.toNatClampNeg) (slots + n.toNatClampNeg + n.toNatClampNeg * k.toNatClampNeg) Q (F0 m (pc + 4) ls (.ref H.size :: rest))) : W p l e R s m args below meth c H locs cells slots Q (F0 m pc ls (.int k :: .int n :: rest)) := by
  intro T hT X
  obtain ⟨vm₁, cA, comp, -, fA, fC, -, -, X', step⟩ := X.multianewarray2F hexec hown hclink hover harr (g := F0 m pc ls (.int k :: .int n :: rest)) rfl (by rw [hb]; exact hdg) rfl hn hk hb1 hb2 hb3 hdf hdd hcells hslots
  have hTh : (T.setVm vm₁).heap = H := hT
  obtain ⟨f1, f2, -, -⟩ := Jvm.Free.Multi.fill_facts (T.setVm vm₁) cA comp n.toNatClampNeg k.toNatClampNeg (defaultValue ty) n.toNatClampNeg
  rw [hTh] at f1 f2
  rw [x_out] at f2
  obtain ⟨t, a1, b1⟩ := kk _ cA comp fA fC f1 (fun q hq => by
    have := Jvm.Free.Multi.fill_old (T.setVm vm₁) cA comp n.toNatClampNeg k.toNatClampNeg (defaultValue ty) (a := q) (by rw [hTh]; exact hq) n.toNatClampNeg
    rw [hTh] at this
    exact this) f2 (fun j hj => by
    have := Jvm.Free.Multi.fill_inner (T.setVm vm₁) cA comp n.toNatClampNeg k.toNatClampNeg (defaultValue ty) n.toNatClampNeg j hj
    rw [hTh] at this
    exact this) _ rfl X'
  refine ⟨t, step t ?_, b1⟩
  have e : T.heap.size = H.size := by rw [hT]
  rw [e]
  exact a1
/-- new T[n][k][r], at W -/
theorem x_mna3 {cc : ByteArray} {pc : Nat} {ls : Array Slot} {rest : List Value} (hexec : p.tables.exec = Jvm.exec) (hb : c.code = cc) {own : String} {index : Nat} {ty : FieldType} (hown : s.vm.findClass own = some m.cls) (hclink : (Jvm.Cond.classLink own index ("[" ++ (FieldType.array (.array ty)).toString)).before args s = true)
    (hover1 : (Jvm.Cond.arrayOver (.array (.array ty))).before args s = true) (hover2 : (Jvm.Cond.arrayOver (.array ty)).before args s = true) (harr : (Jvm.Cond.arrayClass ty).before args s = true) {n k r : Int32} (hn : ¬ n < 0) (hk : ¬ k < 0) (hr : ¬ r < 0)
    (hb1 : n.toNatClampNeg * 4 ≤ 536870912) (hb2 : k.toNatClampNeg * 4 ≤ 536870912) (hb3 : r.toNatClampNeg * componentBytes ty ≤ 536870912) (hb4 : r.toNatClampNeg ≤ 536870912) (hdf : fits ty (defaultValue ty) = true) (hdd : (defaultValue ty).isDefault = true)
    (hcells : cells + (1 + n.toNatClampNeg * (1 + k.toNatClampNeg)) ≤ R.cells) (hslots : slots + (n.toNatClampNeg + n.toNatClampNeg * (k.toNatClampNeg + k.toNatClampNeg * r.toNatClampNeg)) ≤ R.slots) (hdg : decode cc pc = .ok (.multianewarray index 3, 4))
    (kk : ∀ (H1 : Heap) (cA comp cd : ClassId), s.vm.findClass ("[" ++ (FieldType.array (.array ty)).toString) = some cA → s.vm.findClass ("[" ++ (FieldType.array ty).toString) = some comp → s.vm.findClass (FieldType.array ty).toString = some cd → H1.size = H.size + 1 + n.toNatClampNeg * (1 + k.toNatClampNeg) → (∀ q, q < H.size → H1[q]? = H[q]?) →
      H1[H.size]? = some { cls := cA, slots := ((List.range n.toNatClampNeg).map (fun j => Value.ref (H.size + 1 + j * (1 + k.toNatClampNeg)))).toArray, vm := .none } →
      (∀ j, j < n.toNatClampNeg → H1[H.size + 1 + j * (1 + k.toNatClampNeg)]? = some { cls := comp, slots := ((List.range k.toNatClampNeg).map (fun q => Value.ref (H.size + 1 + j * (1 + k.toNatClampNeg) + 1 + q))).toArray, vm := .none } ∧
        ∀ q, q < k.toNatClampNeg → H1[H.size + 1 + j * (1 + k.toNatClampNeg) + 1 + q]? = some { cls := cd, slots := Array.replicate r.toNatClampNeg (defaultValue ty), vm := .none }) →
      W p l e R s m args below meth c H1 locs (cells + 1 + n.toNatClampNeg * (1 + k.toNatClampNeg)) (slots + n.toNatClampNeg + n.toNatClampNeg * (k.toNatClampNeg + k.toNatClampNeg * r.toNatClampNeg)) Q (F0 m (pc + 4) ls (.ref H.size :: rest))) : W p l e R s m args below meth c H locs cells slots Q (F0 m pc ls (.int r :: .int k :: .int n :: rest)) := by
  intro T hT X
  have hpl : e.platform.magicAccessors = ({} : Platform).magicAccessors := by rw [X.admits.platform]
  obtain ⟨comp, cA, kA, hcomp, hkA, hkindA, hnameA⟩ := Cond.arrayOver_specA hover1
  obtain ⟨cd, c2, kB, hcd, hkB, hkindB, hnameB⟩ := Cond.arrayOver_specA hover2
  obtain ⟨cd', kC, ce, hcd', hkC, hkindC⟩ := Cond.arrayClass_spec harr
  have ecd : cd' = cd := Option.some.inj (hcd'.symm.trans hcd)
  subst ecd
  have ecomp : c2 = comp := Option.some.inj (hnameB.symm.trans hcomp)
  subst ecomp
  obtain ⟨c0, hfc0, hcl⟩ := Cond.classLink_spec hown hclink e.platform hpl
  cases hnameA.symm.trans hfc0
  obtain ⟨hg₁, hwarm₁, hready₁⟩ := State.classEntry (e := e) X.warmed hcl
  generalize T.vm.noted m.cls index (.cls cA) = vm₁ at hg₁ hwarm₁ hready₁
  have hal : s.vm.Alike vm₁ := hwarm₁.alike
  obtain ⟨kA₁, hkA₁, heA⟩ := hal.2.2 _ _ hkA
  obtain ⟨kB₁, hkB₁, heB⟩ := hal.2.2 _ _ hkB
  obtain ⟨kC₁, hkC₁, heC⟩ := hal.2.2 _ _ hkC
  have hkindA₁ : kA₁.kind = .array c2 (.array (.array ty)) := by rw [heA]; exact hkindA
  have hkindB₁ : kB₁.kind = .array cd' (.array ty) := by rw [heB]; exact hkindB
  have hkindC₁ : kC₁.kind = .array ce ty := by rw [heC]; exact hkindC
  have X₁ := X.noted hwarm₁
  obtain ⟨hr1, hr2⟩ := X.roomAbove hcells hslots
  obtain ⟨L, hL, XF0⟩ := x_filled3 X₁ cA c2 cd' n.toNatClampNeg k.toNatClampNeg r.toNatClampNeg (defaultValue ty) n.toNatClampNeg
  have XF := XF0.dropFresh (fun x hx => Nat.le_trans X.heapGrown (hL x hx))
  have hTh : (T.setVm vm₁).heap = H := hT
  obtain ⟨f1, f2, -, -⟩ := x_f3_facts (T.setVm vm₁) cA c2 cd' n.toNatClampNeg k.toNatClampNeg r.toNatClampNeg (defaultValue ty) n.toNatClampNeg
  rw [hTh] at f1 f2
  rw [x_o3o] at f2
  obtain ⟨t, a1, b1⟩ := kk _ cA c2 cd' hnameA hnameB hcd f1 (fun q hq => by
    have := x_f3_old (T.setVm vm₁) cA c2 cd' n.toNatClampNeg k.toNatClampNeg r.toNatClampNeg (defaultValue ty) (a := q) (by rw [hTh]; exact hq) n.toNatClampNeg
    rw [hTh] at this
    exact this) f2 (fun j hj => by
    obtain ⟨g1, g2⟩ := x_f3_mid (T.setVm vm₁) cA c2 cd' n.toNatClampNeg k.toNatClampNeg r.toNatClampNeg (defaultValue ty) n.toNatClampNeg j hj
    rw [hTh] at g1 g2
    rw [x_out] at g1
    exact ⟨g1, g2⟩) _ rfl XF
  refine ⟨t, ?_, b1⟩
  have hl1 : ¬ n.toNatClampNeg > e.platform.arrayLengthLimit := by rw [Launch.admits_arrayLengthLimit X.admits]; omega
  have hh1 : ¬ n.toNatClampNeg * componentBytes (.array (.array ty)) > e.platform.maxHeapBytes := by
    rw [Launch.admits_maxHeapBytes X.admits]; show ¬ n.toNatClampNeg * 4 > 536870912; omega
  have hl2 : ¬ k.toNatClampNeg > e.platform.arrayLengthLimit := by rw [Launch.admits_arrayLengthLimit X.admits]; omega
  have hh2 : ¬ k.toNatClampNeg * componentBytes (.array ty) > e.platform.maxHeapBytes := by
    rw [Launch.admits_maxHeapBytes X.admits]; show ¬ k.toNatClampNeg * 4 > 536870912; omega
  have hl3 : ¬ r.toNatClampNeg > e.platform.arrayLengthLimit := by rw [Launch.admits_arrayLengthLimit X.admits]; omega
  have hh3 : ¬ r.toNatClampNeg * componentBytes ty > e.platform.maxHeapBytes := by rw [Launch.admits_maxHeapBytes X.admits]; omega
  have hdg' : decode c.code pc = .ok (.multianewarray index 3, 4) := by rw [hb]; exact hdg
  jvm_step X.here [hexec, hdg']
  simp only [multianewarray.sem, wp_bind', W.resolveClassAt_links (State.method?_setTop (F0 m pc ls (.int r :: .int k :: .int n :: rest)) X.here.top) hg₁]
  rw [W.popN, if_neg (by decide)]
  refine ⟨F0 m pc ls (.int r :: .int k :: .int n :: rest), State.topJava?_setTop' (s := T.setVm vm₁) _ X.here.top, [.int n, .int k, .int r], rest, rfl, rfl, ?_⟩
  simp only [List.mapM_cons, List.mapM_nil, wp_bind', wp_pure']
  refine x_make3 (k := kA₁) (kc := kB₁) (kd := kC₁) (comp := c2) (cc := cd') (cd := ce) (t0 := .array (.array ty)) (t1 := .array ty) (type := ty) hkA₁ hkindA₁ rfl hkB₁ hkindB₁ rfl hkC₁ hkindC₁ hn hk hr hl1 hh1 hl2 hh2 hl3 hh3 hdf hdd (by show T.heap.size + 1 + _ ≤ _; omega) (by show T.slotsUsed + _ + _ ≤ _; omega) (fun d' acts' => ?_)
  have eS : ((T.setTop (F0 m pc ls (.int r :: .int k :: .int n :: rest))).setVm vm₁).setTop { F0 m pc ls (.int r :: .int k :: .int n :: rest) with stack := rest } = (T.setVm vm₁).setTop { F0 m pc ls (.int r :: .int k :: .int n :: rest) with stack := rest } := by
    show ((T.setVm vm₁).setTop _).setTop _ = _
    rw [State.setTop_setTop]
  rw [eS, x_f3_setTop]
  simp only [wp_bind', W.mark, W.pushRef, State.topJava?_setTop' _ XF.here.top, Option.some.injEq, exists_eq_left', State.setTop_setTop, State.heap_setTop]
  intro acts
  simp [jvm, XF.here.top]
  have e9 : T.heap.size = H.size := by rw [hT]
  rw [e9]
  exact a1
end XMB
