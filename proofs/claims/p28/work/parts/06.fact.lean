/-! what the tables say, checked by program -/
section XF
def xnwB : Jvm.Cond → Bool
  | .fieldLinkNest _ _ _ _ _ _ => true
  | .methodLinkNest _ _ _ _ => true
  | .castable _ _ => true
  | .declares _ => true
  | .arrayOver _ => true
  | _ => false
def xgw : List Jvm.Cond := lw_tbl.filter goodWord
def xnw : List Jvm.Cond := lw_tbl.filter xnwB
def xin (w : Jvm.Cond) (p : Nat) : Bool := decide (lw_tbl[p]? = some w)
def xig (w : Jvm.Cond) (p : Nat) : Bool := xin w p && goodWord w
def xinw (w : Jvm.Cond) (p : Nat) : Bool := xin w p && xnwB w
theorem xig_mem {w : Jvm.Cond} {p : Nat} (h : xig w p = true) : w ∈ xgw := by
  unfold xig xin at h
  simp only [Bool.and_eq_true, decide_eq_true_eq] at h
  exact List.mem_filter.mpr ⟨List.mem_of_getElem? h.1, h.2⟩
theorem xinw_mem {w : Jvm.Cond} {p : Nat} (h : xinw w p = true) : w ∈ xnw := by
  unfold xinw xin at h
  simp only [Bool.and_eq_true, decide_eq_true_eq] at h
  exact List.mem_filter.mpr ⟨List.mem_of_getElem? h.1, h.2⟩
theorem xgood {w : Jvm.Cond} (h : w ∈ xgw) : goodWord w = true := (List.mem_filter.mp h).2
-- fields
def xfldC (o : Nat) (q : Nat × Nat × Nat × Nat × Nat) : Bool := match xcl[q.2.1]? with
  | none => false
  | some (_, T, N) => decide (q.2.2.1 < N) && (if q.2.2.2.1 = 0 then xig (.fieldLink (xown o) q.1 (T q.2.2.1).1 (T q.2.2.1).2.1 (T q.2.2.1).2.2.1) q.2.2.2.2 else xinw (.fieldLinkNest (xown o) q.1 (T q.2.2.1).1 (T q.2.2.1).2.1 (T q.2.2.1).2.2.1 (xhost o)) q.2.2.2.2)
set_option maxRecDepth 100000 in
theorem xfld_all : ∀ o, o < xNO → (xfldT o).all (xfldC o) = true := by decide +kernel
theorem xfld_out {o : Nat} (h : ¬ o < xNO) : xfldT o = [] := by
  unfold xNO at h
  unfold xfldT
  split <;> first | omega | rfl
theorem xfld_ok {o x ci k kd p : Nat} (h : xfnd (xfldT o) x = some (ci, k, kd, p)) : ∃ (C : String) (T : u_T) (N : Nat), xcl[ci]? = some (C, T, N) ∧ k < N ∧
    (if kd = 0 then Jvm.Cond.fieldLink (xown o) x (T k).1 (T k).2.1 (T k).2.2.1 ∈ xgw else Jvm.Cond.fieldLinkNest (xown o) x (T k).1 (T k).2.1 (T k).2.2.1 (xhost o) ∈ xnw) := by
  have hm := xfnd_mem h
  by_cases ho : o < xNO
  · have h1 := List.all_eq_true.mp (xfld_all o ho) _ hm
    unfold xfldC at h1
    dsimp only at h1
    split at h1
    · cases h1
    · rename_i C T N hc
      simp only [Bool.and_eq_true, decide_eq_true_eq] at h1
      refine ⟨C, T, N, hc, h1.1, ?_⟩
      split
      · rename_i hk
        rw [if_pos hk] at h1
        exact xig_mem h1.2
      · rename_i hk
        rw [if_neg hk] at h1
        exact xinw_mem h1.2
  · rw [xfld_out ho] at hm
    cases hm
-- the classes' layouts
def xclsC (ci : Nat) : Bool := match xcl[ci]? with
  | none => true
  | some (C, T, N) => (List.range N).all (fun k => xlayT.any (fun q => q.1 == ci && q.2.1 == k && xig (u_lay C T k) q.2.2)) && (List.range N).all (fun k => decide (parseFieldDescriptor (T k).2.2.1 = some (xtyf ci k))) && (List.range N).all (fun a => (List.range N).all (fun b => decide (a = b) || decide ((T a).2.1 ≠ (T b).2.1))) && (List.range N).all (fun j => decide (defaultValue (xtyf ci j) = vp_V (xdef ci) j)) && decide ((xdef ci).length = N)
set_option maxRecDepth 100000 in
theorem xcls_all : (List.range xcl.length).all xclsC = true := by decide +kernel
theorem xcls_ok {ci : Nat} {C : String} {T : u_T} {N : Nat} (hc : xcl[ci]? = some (C, T, N)) : (∀ w ∈ u_ws C T N, w ∈ xgw) ∧ (∀ k, k < N → parseFieldDescriptor (T k).2.2.1 = some (xtyf ci k)) ∧ (∀ a, a < N → ∀ b, b < N → a ≠ b → (T a).2.1 ≠ (T b).2.1) ∧ (∀ j, j < N → defaultValue (xtyf ci j) = vp_V (xdef ci) j) ∧ (xdef ci).length = N := by
  have hlt : ci < xcl.length := (List.getElem?_eq_some_iff.mp hc).1
  have h := List.all_eq_true.mp xcls_all ci (List.mem_range.mpr hlt)
  unfold xclsC at h
  rw [hc] at h
  simp only [Bool.and_eq_true, decide_eq_true_eq, List.all_eq_true, List.mem_range, Bool.or_eq_true] at h
  obtain ⟨⟨⟨⟨h1, h2⟩, h3⟩, h4⟩, h5⟩ := h
  refine ⟨fun w hw => ?_, h2, fun a ha b hb hab => ?_, h4, h5⟩
  · obtain ⟨k, hk, rfl⟩ := List.mem_map.mp hw
    obtain ⟨q, -, hq⟩ := List.any_eq_true.mp (h1 k (List.mem_range.mp hk))
    simp only [Bool.and_eq_true] at hq
    exact xig_mem hq.2
  · rcases h3 a ha b hb with e | e
    · exact absurd e hab
    · exact e
-- new
def xnewC (o : Nat) (q : Nat × Nat × Nat × Nat × Nat) : Bool := match xcl[q.2.1]? with
  | none => false
  | some (C, _, N) => decide (N = 0) || (xig (.classLink (xown o) q.1 C) q.2.2.1 && xig (.instantiable C N) q.2.2.2.1 && xig (.initialized C) q.2.2.2.2)
set_option maxRecDepth 100000 in
theorem xnew_all : ∀ o, o < xNO → (xnewT o).all (xnewC o) = true := by decide +kernel
theorem xnew_out {o : Nat} (h : ¬ o < xNO) : xnewT o = [] := by
  unfold xNO at h
  unfold xnewT
  split <;> first | omega | rfl
theorem xnew_ok {o x ci : Nat} {r : Nat × Nat × Nat} {C : String} {T : u_T} {N : Nat} (h : xfnd (xnewT o) x = some (ci, r)) (hc : xcl[ci]? = some (C, T, N)) (hN : 0 < N) :
    Jvm.Cond.classLink (xown o) x C ∈ xgw ∧ Jvm.Cond.instantiable C N ∈ xgw ∧ Jvm.Cond.initialized C ∈ xgw := by
  have hm := xfnd_mem h
  by_cases ho : o < xNO
  · have h1 := List.all_eq_true.mp (xnew_all o ho) _ hm
    unfold xnewC at h1
    dsimp only at h1
    rw [hc] at h1
    simp only [Bool.and_eq_true, Bool.or_eq_true, decide_eq_true_eq] at h1
    rcases h1 with h1 | h1
    · omega
    · exact ⟨xig_mem h1.1.1, xig_mem h1.1.2, xig_mem h1.2⟩
  · rw [xnew_out ho] at hm
    cases hm
-- constants
set_option maxRecDepth 100000 in
theorem xcon_all : ∀ o, o < xNO → (xconT o).all (fun q => xig (.constant (xown o) q.1 q.2.1) q.2.2) = true := by decide +kernel
set_option maxRecDepth 100000 in
theorem xcol_all : ∀ o, o < xNO → (xcolT o).all (fun q => xig (.constantLong (xown o) q.1 q.2.1) q.2.2) = true := by decide +kernel
theorem xcon_ok {o x p : Nat} {v : Int32} (h : xfnd (xconT o) x = some (v, p)) : Jvm.Cond.constant (xown o) x v ∈ xgw := by
  have hm := xfnd_mem h
  by_cases ho : o < xNO
  · exact xig_mem (List.all_eq_true.mp (xcon_all o ho) _ hm)
  · have : xconT o = [] := by
      unfold xNO at ho
      unfold xconT
      split <;> first | omega | rfl
    rw [this] at hm
    cases hm
theorem xcol_ok {o x p : Nat} {v : Int64} (h : xfnd (xcolT o) x = some (v, p)) : Jvm.Cond.constantLong (xown o) x v ∈ xgw := by
  have hm := xfnd_mem h
  by_cases ho : o < xNO
  · exact xig_mem (List.all_eq_true.mp (xcol_all o ho) _ hm)
  · have : xcolT o = [] := by
      unfold xNO at ho
      unfold xcolT
      split <;> first | omega | rfl
    rw [this] at hm
    cases hm
end XF
