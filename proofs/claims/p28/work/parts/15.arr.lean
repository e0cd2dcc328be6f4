section XLA
set_option maxRecDepth 100000 in
theorem xarr_all : (List.range 3).all (fun t => lw_tbl.any (fun w => decide (w = Jvm.Cond.arrayClass (xtT t)))) = true := by decide +kernel
theorem xarr_ok {t : Nat} (ht : t < 3) : Jvm.Cond.arrayClass (xtT t) ∈ xgw := by
  obtain ⟨w, hw, he⟩ := List.any_eq_true.mp (List.all_eq_true.mp xarr_all t (List.mem_range.mpr ht))
  have := of_decide_eq_true he
  subst this
  exact List.mem_filter.mpr ⟨hw, rfl⟩
end XLA
