section XTC
abbrev xsup : List String := ["java/lang/RuntimeException", "java/lang/Exception"]
def xthrK : List (Nat × Nat × Nat) := ((List.range xNM).flatMap (fun μ => (xthrT μ).map (fun q => (xmo μ, q.2.2.2.2.1, q.2.1)))).eraseDups
def xthkC (q : Nat × Nat × Nat) : Bool := match xcl[q.2.2]? with
  | some (C, _, N) => decide (N = 0) && decide (q.2.2 < 100) && Bundle.fit C && xsup.all (fun n => Bundle.fit n) && (vx_atS (xown q.1) q.2.1 C xsup).all (fun w => vx_ot w && (goodWord w || xnwB w) && decide (w ∈ lw_tbl))
  | none => false
set_option maxRecDepth 100000 in
theorem xthk_all : xthrK.all xthkC = true := by decide +kernel
def xthrC (μ : Nat) (q : Nat × Nat × Nat × Nat × Nat × Nat × Nat × Nat) : Bool := match xcl[q.2.1]? with
  | some (C, _, _) => decide ((xmo μ, q.2.2.2.2.1, q.2.1) ∈ xthrK) && xig (.classLink (xown (xmo μ)) q.2.2.1 C) q.2.2.2.2.2.2.1 && xig (.initialized C) q.2.2.2.2.2.2.2 && vx_ot (.classLink (xown (xmo μ)) q.2.2.1 C) && vx_ot (.initialized C) &&
      xstrT.any (fun z => decide (z.1 = xmo μ) && decide (z.2.1 = q.2.2.2.1)) && decide ((xmc μ)[q.1]? = some (some (.new q.2.2.1))) && decide ((xmc μ)[q.1 + 3]? = some (some .dup)) &&
      (if q.2.2.2.2.2.1 = 0 then decide ((xmc μ)[q.1 + 4]? = some (some (.ldc q.2.2.2.1))) && decide ((xmc μ)[q.1 + 6]? = some (some (.invokespecial q.2.2.2.2.1))) && decide ((xmc μ)[q.1 + 9]? = some (some .athrow))
       else decide ((xmc μ)[q.1 + 4]? = some (some (.ldc_w q.2.2.2.1))) && decide ((xmc μ)[q.1 + 7]? = some (some (.invokespecial q.2.2.2.2.1))) && decide ((xmc μ)[q.1 + 10]? = some (some .athrow))) && decide (5 < xmf μ) && decide (82 ≤ xmlo μ)
  | none => false
set_option maxRecDepth 100000 in
theorem xthr_all : (List.range xNM).all (fun μ => (xthrT μ).all (xthrC μ)) = true := by decide +kernel
theorem xthr_out {μ : Nat} (h : ¬ μ < xNM) : xthrT μ = [] := by
  unfold xNM at h
  unfold xthrT
  split <;> first | omega | rfl
end XTC
