/-! one instruction: what the lists say, the machine does -/
section XQ
def xcell (D : va_G) (tA : Nat → ClassId) (ad : Nat → Nat) (a : Nat) (e : xE) (H : Heap) : Prop := if e.1 < 100 then va_at D xcl (a, .inr (e.1, e.2.map (xv ad))) H else H[a]? = some { cls := tA (e.1 - 100), slots := (e.2.map (xv ad)).toArray, vm := .none }
def xP (D : va_G) (tA : Nat → ClassId) (ad : Nat → Nat) (h : xH) (H : Heap) : Prop := ∀ (k : Nat) (e : xE), h[k]? = some e → xcell D tA ad (ad (k + 4)) e H
def xcomp : Nat → Nat
  | 3 => 0
  | 4 => 3
  | 5 => 2
  | _ => 0
def xK (D : va_G) (tA : Nat → ClassId) (U : State) : Prop := va_K D xcl [] U ∧ ∀ t, t < 6 → U.vm.findClass ("[" ++ (xtT t).toString) = some (tA t) ∧ ∃ (k : Class) (comp : ClassId), U.vm.classes[tA t]? = some k ∧ k.kind = .array comp (xtT t) ∧ (3 ≤ t → comp = tA (xcomp t))
def xX (sc : Option (List Int32)) (old : Nat → Nat) (n0 : Nat) (U : State) : Prop := match sc with
  | none => True
  | some l => va_X (old 0) l.length (fun j => l.getD j 0) U U.heap ∧ old 0 < n0
theorem xad_new (old : Nat → Nat) (n0 k : Nat) : xad old n0 (k + 4) = n0 + k := by
  unfold xad
  rw [if_neg (by omega), Nat.add_sub_cancel]
theorem xget_ok {h : xH} {a : Nat} {e : xE} (hg : xget h a = some e) : ∃ k, a = k + 4 ∧ h[k]? = some e := by
  unfold xget at hg
  cases hb : Nat.ble 4 a with
  | true =>
    rw [hb] at hg
    have := Nat.le_of_ble_eq_true hb
    exact ⟨a - 4, by omega, hg⟩
  | false =>
    rw [hb] at hg
    cases hg
theorem xcell_kept {D : va_G} {tA : Nat → ClassId} {ad : Nat → Nat} {a : Nat} {e : xE} {H H1 : Heap} (h : xcell D tA ad a e H) (hq : H1[a]? = H[a]?) : xcell D tA ad a e H1 := by
  unfold xcell at h ⊢
  split
  · rename_i hlt
    rw [if_pos hlt] at h
    exact va_at.kept h hq
  · rename_i hlt
    rw [if_neg hlt] at h
    rw [hq]
    exact h
theorem xP_arr {D : va_G} {tA : Nat → ClassId} {ad : Nat → Nat} {h : xH} {H : Heap} {a t : Nat} {vs : List Value} (hP : xP D tA ad h H) (hg : xget h a = some (t, vs)) (ht : 100 ≤ t) : H[ad a]? = some { cls := tA (t - 100), slots := (vs.map (xv ad)).toArray, vm := .none } := by
  obtain ⟨k, rfl, hk⟩ := xget_ok hg
  have := hP k _ hk
  unfold xcell at this
  rw [if_neg (by show ¬ t < 100; omega)] at this
  exact this
theorem xP_obj {D : va_G} {tA : Nat → ClassId} {ad : Nat → Nat} {h : xH} {H : Heap} {a t : Nat} {vs : List Value} (hP : xP D tA ad h H) (hg : xget h a = some (t, vs)) (ht : t < 100) : va_at D xcl (ad a, .inr (t, vs.map (xv ad))) H := by
  obtain ⟨k, rfl, hk⟩ := xget_ok hg
  have := hP k _ hk
  unfold xcell at this
  rw [if_pos (show t < 100 from ht)] at this
  exact this
theorem xP_set {D : va_G} {tA : Nat → ClassId} {old : Nat → Nat} {n0 a : Nat} {h : xH} {H H1 : Heap} {e e0 : xE} (hP : xP D tA (xad old n0) h H) (hg : xget h a = some e0) (h1 : xcell D tA (xad old n0) (xad old n0 a) e H1) (hq : ∀ q, q ≠ xad old n0 a → H1[q]? = H[q]?) : xP D tA (xad old n0) (xset h a e) H1 := by
  obtain ⟨k, rfl, hk⟩ := xget_ok hg
  intro j e9 hj
  unfold xset at hj
  rw [Nat.add_sub_cancel, List.getElem?_set] at hj
  by_cases hkj : k = j
  · subst hkj
    rw [if_pos rfl] at hj
    split at hj
    · cases hj
      exact h1
    · cases hj
  · rw [if_neg hkj] at hj
    exact xcell_kept (hP j e9 hj) (hq _ (by rw [xad_new, xad_new]; omega))
theorem xP_push {D : va_G} {tA : Nat → ClassId} {old : Nat → Nat} {n0 : Nat} {h : xH} {H H1 : Heap} {e : xE} (hP : xP D tA (xad old n0) h H) (hz : H.size = n0 + h.length) (h1 : xcell D tA (xad old n0) H.size e H1) (hq : ∀ q, q < H.size → H1[q]? = H[q]?) : xP D tA (xad old n0) (h ++ [e]) H1 := by
  intro j e9 hj
  by_cases hlt : j < h.length
  · rw [List.getElem?_append_left hlt] at hj
    exact xcell_kept (hP j e9 hj) (hq _ (by rw [xad_new]; omega))
  · rw [List.getElem?_append_right (by omega)] at hj
    have h0 : j - h.length < 1 := (List.getElem?_eq_some_iff.mp hj).1
    rw [show j - h.length = 0 by omega] at hj
    cases hj
    rw [xad_new, show n0 + j = H.size by omega]
    exact h1
theorem xfit (ty : FieldType) (ad : Nat → Nat) (v : Value) : fits ty (xv ad v) = fits ty v := by cases v <;> cases ty <;> rfl
theorem xnar {ty : FieldType} {ad : Nat → Nat} {v : Value} (h : narrow ty v = v) : narrow ty (xv ad v) = xv ad v := by
  cases v with
  | ref k => cases ty <;> rfl
  | _ => exact h
theorem xdl {cc : ByteArray} {pc n : Nat} {i : Instr} (h : ∃ len, decode cc pc = .ok (i, len) ∧ (xlen i = 0 ∨ len = xlen i)) (hn : xlen i = n + 1) : decode cc pc = .ok (i, n + 1) := by
  obtain ⟨len, h1, h2⟩ := h
  rcases h2 with h2 | h2
  · omega
  · rw [h1, h2, hn]
section
variable {p : Program} {l : Launch} {e : Env} {R : Room} {s : State} {m : MethodId} {args : Array Value} {below : List Frame} {meth : Method} {c : Code} {H : Heap} {locs : List Loc} {cells slots : Nat} {Q : State → Prop}
theorem xIsA {D : va_G} {tA : Nat → ClassId} {t : Nat} {sl : Array Value} (hK : xK D tA s) (ht : t < 6) : s.isArrayOf { cls := tA t, slots := sl, vm := .none } (xtT t) := by
  obtain ⟨-, k, comp, h1, h2, -⟩ := hK.2 t ht
  exact ⟨fun q h => by (cases h), k, h1, comp, h2⟩
/-- a field is written: plain, final in a constructor, or a nest mate's -/
theorem x_put {cc : ByteArray} {pc : Nat} {ls : Array Slot} {rest : List Value} {D : va_G} {tA : Nat → ClassId} {a o x ci k kd pp : Nat} {fs : List Value} {v : Value} {C : String} {T : u_T} {N : Nat}
    (hx : p.tables.exec = Jvm.exec) (hb : c.code = cc) (hown : s.vm.findClass (xown o) = some m.cls) (hts : ∀ w ∈ xgw, w.before args s = true) (hnw : ∀ w ∈ xnw, w.before args s = true) (hK : xK D tA s)
    (hc : xcl[ci]? = some (C, T, N)) (hl : xfnd (xfldT o) x = some (ci, k, kd, pp)) (hat : va_at D xcl (a, .inr (ci, fs)) H) (hkl : k < fs.length) (hn : narrow (xtyf ci k) v = v) (hfit : fits (xtyf ci k) v = true)
    (hfin : (T k).2.2.2 = false ∨ (meth.name = "<init>" ∧ kd = 0 ∧ (T k).1 = xown o)) (hdg : decode cc pc = .ok (.putfield x, 3))
    (kk : ∀ (H1 : Heap) (i : Nat), va_at D xcl (a, .inr (ci, fs.set k v)) H1 → H1.size = H.size → (∀ q, q ≠ a → H1[q]? = H[q]?) → W p l e R s m args below meth c H1 (locs ++ [⟨a, i⟩]) cells slots Q (F0 m (pc + 3) ls rest)) : W p l e R s m args below meth c H locs cells slots Q (F0 m pc ls (v :: .ref a :: rest)) := by
  obtain ⟨hin, hty, hnm, -, -⟩ := xcls_ok hc
  obtain ⟨C', T', N', hc', hk, hlink⟩ := xfld_ok hl
  cases hc.symm.trans hc'
  have hap := va_apart (own := xown o) hts hin (xtyf ci) hty hnm hK.1 hc
  obtain ⟨r, h1, cell, q1, q2, q3, q4⟩ := hat
  have hr : r = (C, T, N) := Option.some.inj (h1.symm.trans hc)
  subst hr
  obtain ⟨hS, hfc, kC, hkC, hkind⟩ := hK.1.1 ci _ hc
  obtain ⟨cf, kf, fi, f, hi, hsl⟩ := hS k hk
  have hlay := hts _ (hin _ (u_in_lay hk))
  unfold u_lay at hlay
  have hst := (u_facts hfc hkC (u_lays hts hin hk) hi).1
  have fin : ∀ H' : Heap, H'[a]? = some (cell.setSlot f.slot v) → H'.size = H.size → (∀ q, q ≠ a → H'[q]? = H[q]?) → W p l e R s m args below meth c H' (locs ++ [⟨a, f.slot⟩]) cells slots Q (F0 m (pc + 3) ls rest) := fun H' e1 e2 e3 => by
    rw [hsl] at e1 ⊢
    exact kk H' _ ⟨_, hc, t_OB.to (V := updV (vp_V fs) k v) ⟨_, e1, q2, q3, t_set q4 hap hk v⟩ (fun j _ => vp_updV_set hkl v j)⟩ e2 e3
  rcases hfin with hfin | ⟨hin2, hkd, hdecl⟩
  · rw [if_neg (by rw [hfin]; decide)] at hlay
    have h6 := u_store hfc hkC hkind hlay hi (hty k hk) hn hfit
    by_cases hkd : kd = 0
    · rw [if_pos hkd] at hlink
      exact W.putK hx hb (f := f) ⟨hown, hts _ hlink, ⟨_, _, _, hi⟩, hst⟩ (by rw [q2]; exact h6) q1 q3 (by rw [hsl]; exact k2_hasslot (q4 k hk)) rfl rfl hdg fin
    · rw [if_neg hkd] at hlink
      exact va_WputK hx hb (f := f) hown (hnw _ hlink) hi hst (by rw [q2]; exact h6) q1 q3 (by rw [hsl]; exact k2_hasslot (q4 k hk)) rfl rfl hdg fin
  · rw [if_pos hkd] at hlink
    by_cases hf : (T k).2.2.2 = true
    · rw [if_pos hf] at hlay
      have hcf : m.cls = cf := by
        obtain ⟨_, _, c', _, _, _, -, -, hf', -, -, -, hown2, -⟩ := Cond.laysFinal_spec hlay
        have e1 : c' = cf := by have := hi.symm.trans hf'; simp at this; exact this.1.symm
        rw [hdecl] at hown2
        rw [← e1]; exact Option.some.inj (hown.symm.trans hown2)
      have h6 := u_fits hfc hkC hkind (Or.inr hlay) hi (hty k hk) hn hfit
      exact W.putFinK hx hb hown (hts _ hlink) hi hst hcf hin2 (by rw [q2]; exact h6) q1 q3 (by rw [hsl]; exact k2_hasslot (q4 k hk)) rfl rfl hdg fin
    · rw [if_neg hf] at hlay
      have h6 := u_store hfc hkC hkind hlay hi (hty k hk) hn hfit
      exact W.putK hx hb (f := f) ⟨hown, hts _ hlink, ⟨_, _, _, hi⟩, hst⟩ (by rw [q2]; exact h6) q1 q3 (by rw [hsl]; exact k2_hasslot (q4 k hk)) rfl rfl hdg fin
/-- a field is read -/
theorem x_gf {cc : ByteArray} {pc : Nat} {ls : Array Slot} {rest : List Value} {D : va_G} {tA : Nat → ClassId} {a o x ci k kd pp : Nat} {fs : List Value} {v : Value}
    (hx : p.tables.exec = Jvm.exec) (hb : c.code = cc) (hown : s.vm.findClass (xown o) = some m.cls) (hts : ∀ w ∈ xgw, w.before args s = true) (hnw : ∀ w ∈ xnw, w.before args s = true) (hK : xK D tA s)
    (hl : xfnd (xfldT o) x = some (ci, k, kd, pp)) (hat : va_at D xcl (a, .inr (ci, fs)) H) (hv : fs[k]? = some v) (hdg : decode cc pc = .ok (.getfield x, 3))
    (kk : W p l e R s m args below meth c H locs cells slots Q (F0 m (pc + 3) ls (v :: rest))) : W p l e R s m args below meth c H locs cells slots Q (F0 m pc ls (.ref a :: rest)) := by
  obtain ⟨C, T, N, hc, hk, hlink⟩ := xfld_ok hl
  obtain ⟨hin, -⟩ := xcls_ok hc
  have hP : va_P D xcl [(a, .inr (ci, fs))] H := fun j q hj => by
    have h0 : j < 1 := (List.getElem?_eq_some_iff.mp hj).1
    rw [show j = 0 by omega] at hj
    cases hj
    exact hat
  by_cases hkd : kd = 0
  · rw [if_pos hkd] at hlink
    exact va_get (D := D) (ci := ci) (v := v) (C := C) (T := T) (N := N) hx hb hts hin hown hK.1 hP 0 rfl hc k hk (hts _ hlink) (fun _ h9 => h9) hv hdg kk
  · rw [if_neg hkd] at hlink
    exact va_getN (D := D) (ci := ci) (v := v) (C := C) (T := T) (N := N) hx hb hts hin hown hK.1 hP 0 rfl hc k hk (hnw _ hlink) (fun _ h9 => h9) hv hdg kk
end
/-- at this point of the lists' run the machine goes to Q -/
def xG (p : Program) (l : Launch) (e : Env) (R : Room) (s : State) (m : MethodId) (args : Array Value) (below : List Frame) (meth : Method) (c : Code) (Q : State → Prop) (D : va_G) (tA : Nat → ClassId) (old : Nat → Nat) (n0 hb kb nL : Nat) (pc : Nat) (lv : xL) (st : List Value) (h : xH) (ks : Nat) : Prop :=
  ∀ (H : Heap) (locs : List Loc) (ls : Array Slot), H.size = n0 + h.length → xP D tA (xad old n0) h H → va_S (fun q => n0 ≤ q) s.heap H locs → lv_has ls nL (xm (xad old n0) lv) →
    W p l e R s m args below meth c H locs (h.length - hb) (ks - kb) Q (F0 m pc ls (st.map (xv (xad old n0))))
end XQ
