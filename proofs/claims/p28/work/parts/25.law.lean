section XLW
set_option maxRecDepth 100000 in
theorem xstr_own : xstrT.all (fun q => match xcl[q.1]? with | some (C, _, _) => decide (C = xown q.1) | none => false) = true := by decide +kernel
theorem xcb {l : Launch} (hflags : l.flags = flags0) : l.stackTraces = false := by
  unfold Launch.stackTraces
  rw [hflags]
  decide
theorem xlaw_mh : xmh xlaw = [] := by decide
set_option maxHeartbeats 4000000 in
/-- the law's body, out of its run on lists -/
theorem x_law {p : Program} {e : Env} {s : State} {m : MethodId} {below : List Frame} {meth : Method} {c : Code} (l : Launch) (hflags : l.flags = flags0) {b L : Nat} {xs : Nat → Int32} (C0 : lw_At p s m meth c b L xs) {scl : List Int32} (hlen : scl.length = L) (hxs : ∀ j, j < L → xs j = scl.getD j 0) {F d n : Nat} {h' : xH} {ks' : Nat}
    (he : xloop (xcall F (some scl) d) (some scl) xlaw (xmo xlaw) (xml xlaw) (xini xlaw) (xmc xlaw) n 0 [(0, .ref 0)] [] [] 0 = some (none, some (.int 1), h', ks')) (hc : h'.length ≤ room_1.cells) (hs : ks' ≤ room_1.slots) :
    W p l e room_1 s m #[Value.ref b] below meth c s.heap [] 0 0 (lw_Z below #[Value.ref b] s) (entryFrame m ([Value.ref b] : List Value).toArray 20) := by
  obtain ⟨hx, hb, hr, hml, hown, hts, hX, hbl, hlocks, hgv⟩ := C0
  have hg : ∀ w ∈ xgw, w.before #[Value.ref b] s = true := fun w hw => hts w (List.mem_filter.mp hw).1
  have hn : ∀ w ∈ xnw, w.before #[Value.ref b] s = true := fun w hw => hts w (List.mem_filter.mp hw).1
  obtain ⟨D, hD⟩ := xD_ok hg
  obtain ⟨tA, htA⟩ := xtA_ok hg hn
  have hK : xK D tA s := ⟨hD, htA⟩
  obtain ⟨a1, hZ⟩ := xZ_ok hts hgv (fun q hq => by
    have h1 := List.all_eq_true.mp xstr_own q hq
    split at h1
    · rename_i C T N hc9
      obtain ⟨-, hfc, -⟩ := hD.1 _ _ hc9
      rw [← of_decide_eq_true h1]
      exact ⟨_, hfc⟩
    · cases h1)
  have hXX : xX (some scl) (fun k => if k = 0 then b else a1) s.heap.size s := by
    refine ⟨?_, hbl⟩
    obtain ⟨scr, g1, g2, g3, g4, g5⟩ := hX
    exact ⟨scr, g1, g2, g3, by rw [hlen]; exact g4, fun j hj => by rw [g5 j (by rw [← hlen]; exact hj), hxs j (by rw [← hlen]; exact hj)]⟩
  have hl := lv_entry ([.ref b]) (n := 20) (Nat.le_of_ble_eq_true rfl)
  rw [lg_entry_eq]
  generalize (lg_sl ([.ref b]) ++ List.replicate (20 - (lg_sl ([.ref b])).length) Slot.unset).toArray = ls at hl ⊢
  have hst := xcb hflags
  have hG := x_loop (p := p) (l := l) (e := e) (R := room_1) (s := s) (m := m) (args := #[Value.ref b]) (below := below) (meth := meth) (c := c) (D := D) (tA := tA) (old := fun k => if k = 0 then b else a1) (n0 := s.heap.size) (hb := 0) (kb := 0) (μ := xlaw) (sc := some scl) (sc' := some scl) (out := (none, some (.int 1), h', ks')) (Q := lw_Z below #[Value.ref b] s) (call := xcall F (some scl) d)
    (fun i r pc st h ks H locs ls hr9 ho hd9 _ _ hz hP hS => by
      cases ho
      have hi : i = .ireturn ∧ st = [.int 1] := by
        cases i <;> first | (simp [xexit] at hr9; done) | skip
        case ireturn =>
          obtain ⟨v, t, rfl, ht, hn9, hv⟩ := xexit_i hr9
          cases hv
          exact ⟨rfl, rfl⟩
        case lreturn => obtain ⟨v, rfl, ht, hv⟩ := xexit_l hr9; cases hv
        case dreturn => obtain ⟨v, rfl, ht, hv⟩ := xexit_d hr9; cases hv
        case areturn => obtain ⟨v, t, rfl, ht, hrt, hv⟩ := xexit_a hr9; cases hv
        case return_ => obtain ⟨rfl, ht, hv⟩ := xexit_v hr9; cases hv
      obtain ⟨rfl, rfl⟩ := hi
      refine va_forget (fun q hq => hS.2.2 q hq) ?_
      refine W.widen (k := room_1.cells) (n := room_1.slots) (by rw [Nat.sub_zero]; exact hc) (by rw [Nat.sub_zero]; exact hs) ?_
      exact lw_ret hx hb hr hlocks hd9)
    (Or.inl rfl) (fun hne => absurd xlaw_mh hne) (fun μ' as h ks out q => x_meth hst d μ' as h ks out q) (fun μ' as h ks out q => xcall_mono d μ' as h ks out q) hx hb hml hown hg hn hK hXX hXX (fun q => by cases q) (Nat.le_refl _) hlocks hr (hZ _ rfl) (by decide) (by decide) (by show h'.length - 0 ≤ _; rw [Nat.sub_zero]; exact hc) (by show ks' - 0 ≤ _; rw [Nat.sub_zero]; exact hs) hst
    n 0 [(0, .ref 0)] [] [] 0 he (Nat.le_refl _) (Nat.le_refl _) s.heap [] ls rfl (fun k e9 h9 => by simp at h9) va_S.rf hl
  exact hG
end XLW
