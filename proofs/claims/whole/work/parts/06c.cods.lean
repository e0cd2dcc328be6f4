section XCW
theorem xcod_ok {μ : Nat} (h : xcod μ = true) : Jvm.Cond.code (xmy μ) (xmb μ) (xml μ) (xmr μ) ∈ xgw := sorry
theorem xcod_lt {μ : Nat} (h : xcod μ = true) : μ < xNM := sorry
end XCW
