/-! reasons in a dance -/
section YR2
variable {sd : Option (List Int32)} {μ pc : Nat} {lv : xL} {st : List Value} {s : yS} {Φ : Option Value → yS → Prop}
def ras (TR : Nat → Nat) (NB : Nat → Nat → Int32) (WG : Nat → Nat → Int32) (pos : Nat) (tp : Nat) (i : Nat) (a : Int32) : Int32 := (bif xcmp .eq (Int32.ofNat i) (Int32.ofNat pos) then a else (bif xcmp .eq (Int32.ofNat (TR i)) (Int32.ofNat tp) then (bif xcmp .ne (WG i tp) (WG pos tp) then (bif xcmp .ne (NB i tp) (NB pos tp) then (if a < 1 then 1 else a) else (if a < 2 then 2 else a)) else 3) else a))
theorem ras_eq (TR : Nat → Nat) (NB : Nat → Nat → Int32) (WG : Nat → Nat → Int32) (pos : Nat) (tp : Nat) (i : Nat) (a : Int32) : ras TR NB WG pos tp i a = (bif xcmp .eq (Int32.ofNat i) (Int32.ofNat pos) then a else (bif xcmp .eq (Int32.ofNat (TR i)) (Int32.ofNat tp) then (bif xcmp .ne (WG i tp) (WG pos tp) then (bif xcmp .ne (NB i tp) (NB pos tp) then (if a < 1 then 1 else a) else (if a < 2 then 2 else a)) else 3) else a)) := rfl
theorem lz_ra {S : Nat} {n : Nat} {TR : Nat → Nat} {NB : Nat → Nat → Int32} {WG : Nat → Nat → Int32} {pos : Nat} {tp : Nat} {a0 : Int32} {d : Nat} (hS : yss S) (hn : n ≤ 7) (hd5 : d < 5) (hpn : pos < n) (h1 : 1 ≤ tp) (h2 : tp ≤ n + 1) (hz : s S 0 = Int32.ofNat n) (hTR : ∀ p, p < n → s (S + 19) p = Int32.ofNat (TR p)) (hWG : ∀ p q, p < n → 1 ≤ q → q ≤ n + 1 → s (S + 15) ((d * 8 + p) * 9 + q) = WG p q) (hNB : ∀ p q, p < n → 1 ≤ q → q ≤ n + 1 → s (S + 13) ((d * 8 + p) * 9 + q) = NB p q) (kk : Yp sd 28 138 [(0, .ref S), (1, .int (Int32.ofNat d)), (2, .int (Int32.ofNat pos)), (3, .int (Int32.ofNat tp)), (4, .int (Int32.ofNat d * 8 + Int32.ofNat pos)), (5, .int (itf (ras TR NB WG pos tp) n a0)), (6, .int (Int32.ofNat n))] [] s Φ) : ∀ m i : Nat, i + m = n → Yp sd 28 22 [(0, .ref S), (1, .int (Int32.ofNat d)), (2, .int (Int32.ofNat pos)), (3, .int (Int32.ofNat tp)), (4, .int (Int32.ofNat d * 8 + Int32.ofNat pos)), (5, .int (itf (ras TR NB WG pos tp) i a0)), (6, .int (Int32.ofNat i))] [] s Φ := by
  intro m
  rcases hS with rfl | rfl
  · have hz : s 30 0 = Int32.ofNat n := hz
    induction m with
    | zero =>
      intro i hi
      refine yp_run 3 (pc' := 28) (lv' := [(0, .ref 30), (1, .int (Int32.ofNat d)), (2, .int (Int32.ofNat pos)), (3, .int (Int32.ofNat tp)), (4, .int (Int32.ofNat d * 8 + Int32.ofNat pos)), (5, .int (itf (ras TR NB WG pos tp) i a0)), (6, .int (Int32.ofNat i))]) (st' := [.int (s 30 0), .int (Int32.ofNat i)]) (s' := s) rfl ?_
      refine yp_icmp rfl rfl (fun h => ?_) (fun h => ?_)
      · rw [show i = n by omega]
        exact kk
      · have h := xN (xc_ge _ _) h
        rw [hz, i32_to (by omega), i32_to (by omega)] at h
        omega
    | succ m ih =>
      intro i hi
      refine yp_run 3 (pc' := 28) (lv' := [(0, .ref 30), (1, .int (Int32.ofNat d)), (2, .int (Int32.ofNat pos)), (3, .int (Int32.ofNat tp)), (4, .int (Int32.ofNat d * 8 + Int32.ofNat pos)), (5, .int (itf (ras TR NB WG pos tp) i a0)), (6, .int (Int32.ofNat i))]) (st' := [.int (s 30 0), .int (Int32.ofNat i)]) (s' := s) rfl ?_
      refine yp_icmp rfl rfl (fun h => ?_) (fun h => ?_)
      · have h := xT (xc_ge _ _) h
        rw [hz, i32_to (by omega), i32_to (by omega)] at h
        omega
      · refine yp_run 2 (pc' := 34) (lv' := [(0, .ref 30), (1, .int (Int32.ofNat d)), (2, .int (Int32.ofNat pos)), (3, .int (Int32.ofNat tp)), (4, .int (Int32.ofNat d * 8 + Int32.ofNat pos)), (5, .int (itf (ras TR NB WG pos tp) i a0)), (6, .int (Int32.ofNat i))]) (st' := [.int (Int32.ofNat i), .int (Int32.ofNat d)]) (s' := s) rfl ?_
        refine yp_st rfl rfl (c_rowOf ?_)
        refine yp_run 3 (pc' := 42) (lv' := [(0, .ref 30), (1, .int (Int32.ofNat d)), (2, .int (Int32.ofNat pos)), (3, .int (Int32.ofNat tp)), (4, .int (Int32.ofNat d * 8 + Int32.ofNat pos)), (5, .int (itf (ras TR NB WG pos tp) i a0)), (6, .int (Int32.ofNat i)), (7, .int ((Int32.ofNat d) * 8 + (Int32.ofNat i)))]) (st' := [.int (Int32.ofNat pos), .int (Int32.ofNat i)]) (s' := s) rfl ?_
        refine yp_icmp rfl rfl (fun h42 => ?_) (fun h42 => ?_)
        · refine yp_run 2 (pc' := 22) (lv' := [(0, .ref 30), (1, .int (Int32.ofNat d)), (2, .int (Int32.ofNat pos)), (3, .int (Int32.ofNat tp)), (4, .int (Int32.ofNat d * 8 + Int32.ofNat pos)), (5, .int (itf (ras TR NB WG pos tp) i a0)), (6, .int ((Int32.ofNat i) + 1)), (7, .int ((Int32.ofNat d) * 8 + (Int32.ofNat i)))]) (st' := []) (s' := s) rfl ?_
          have e9 : (itf (ras TR NB WG pos tp) (i + 1) a0) = (itf (ras TR NB WG pos tp) i a0) := by
            refine (ras_eq TR NB WG pos tp i (itf (ras TR NB WG pos tp) i a0)).trans ?_
            simp only [h42, cond_true, cond_false]
          have e8 := ih (i + 1) (by omega)
          rw [e9] at e8
          rw [i32_s]
          refine yp_sel [0, 1, 2, 3, 4, 5, 6] ?_
          exact e8
        · refine yp_run 3 (pc' := 51) (lv' := [(0, .ref 30), (1, .int (Int32.ofNat d)), (2, .int (Int32.ofNat pos)), (3, .int (Int32.ofNat tp)), (4, .int (Int32.ofNat d * 8 + Int32.ofNat pos)), (5, .int (itf (ras TR NB WG pos tp) i a0)), (6, .int (Int32.ofNat i)), (7, .int ((Int32.ofNat d) * 8 + (Int32.ofNat i)))]) (st' := [.int (Int32.ofNat i), .ref 48]) (s' := s) rfl ?_
          have ti : rget s 48 (Int32.ofNat i) = Int32.ofNat (TR i) := (rget_i (by show i < 8; omega)).trans (hTR i (by omega))
          refine yp_vi rfl rfl rfl rfl (c_rgetv rfl ti ?_)
          refine yp_run 1 (pc' := 55) (lv' := [(0, .ref 30), (1, .int (Int32.ofNat d)), (2, .int (Int32.ofNat pos)), (3, .int (Int32.ofNat tp)), (4, .int (Int32.ofNat d * 8 + Int32.ofNat pos)), (5, .int (itf (ras TR NB WG pos tp) i a0)), (6, .int (Int32.ofNat i)), (7, .int ((Int32.ofNat d) * 8 + (Int32.ofNat i)))]) (st' := [.int (Int32.ofNat tp), .int (Int32.ofNat (TR i))]) (s' := s) rfl ?_
          refine yp_icmp rfl rfl (fun h55 => ?_) (fun h55 => ?_)
          · refine yp_run 4 (pc' := 68) (lv' := [(0, .ref 30), (1, .int (Int32.ofNat d)), (2, .int (Int32.ofNat pos)), (3, .int (Int32.ofNat tp)), (4, .int (Int32.ofNat d * 8 + Int32.ofNat pos)), (5, .int (itf (ras TR NB WG pos tp) i a0)), (6, .int (Int32.ofNat i)), (7, .int ((Int32.ofNat d) * 8 + (Int32.ofNat i)))]) (st' := [.int (Int32.ofNat tp), .int ((Int32.ofNat d) * 8 + (Int32.ofNat i)), .ref 41]) (s' := s) rfl ?_
            have gWi : gget s 44 (Int32.ofNat d * 8 + Int32.ofNat i) (Int32.ofNat tp) = WG i tp := by rw [row_i]; exact (gget_i (k := 44) (by show tp < 9; omega) (by decide) (by show (d * 8 + i) * 9 + tp < 360; omega)).trans (hWG i tp (by omega) h1 h2)
            refine yp_vi rfl rfl rfl rfl (c_wgtv (by decide) gWi ?_)
            refine yp_run 4 (pc' := 78) (lv' := [(0, .ref 30), (1, .int (Int32.ofNat d)), (2, .int (Int32.ofNat pos)), (3, .int (Int32.ofNat tp)), (4, .int (Int32.ofNat d * 8 + Int32.ofNat pos)), (5, .int (itf (ras TR NB WG pos tp) i a0)), (6, .int (Int32.ofNat i)), (7, .int ((Int32.ofNat d) * 8 + (Int32.ofNat i)))]) (st' := [.int (Int32.ofNat tp), .int (Int32.ofNat d * 8 + Int32.ofNat pos), .ref 41, .int (WG i tp)]) (s' := s) rfl ?_
            have gWpos : gget s 44 (Int32.ofNat d * 8 + Int32.ofNat pos) (Int32.ofNat tp) = WG pos tp := by rw [row_i]; exact (gget_i (k := 44) (by show tp < 9; omega) (by decide) (by show (d * 8 + pos) * 9 + tp < 360; omega)).trans (hWG pos tp (by omega) h1 h2)
            refine yp_vi rfl rfl rfl rfl (c_wgtv (by decide) gWpos ?_)
            refine yp_icmp rfl rfl (fun h81 => ?_) (fun h81 => ?_)
            · refine yp_run 4 (pc' := 97) (lv' := [(0, .ref 30), (1, .int (Int32.ofNat d)), (2, .int (Int32.ofNat pos)), (3, .int (Int32.ofNat tp)), (4, .int (Int32.ofNat d * 8 + Int32.ofNat pos)), (5, .int (itf (ras TR NB WG pos tp) i a0)), (6, .int (Int32.ofNat i)), (7, .int ((Int32.ofNat d) * 8 + (Int32.ofNat i)))]) (st' := [.int (Int32.ofNat tp), .int ((Int32.ofNat d) * 8 + (Int32.ofNat i)), .ref 41]) (s' := s) rfl ?_
              have gNi : gget s 42 (Int32.ofNat d * 8 + Int32.ofNat i) (Int32.ofNat tp) = NB i tp := by rw [row_i]; exact (gget_i (k := 42) (by show tp < 9; omega) (by decide) (by show (d * 8 + i) * 9 + tp < 360; omega)).trans (hNB i tp (by omega) h1 h2)
              refine yp_vi rfl rfl rfl rfl (c_numv (by decide) gNi ?_)
              refine yp_run 4 (pc' := 107) (lv' := [(0, .ref 30), (1, .int (Int32.ofNat d)), (2, .int (Int32.ofNat pos)), (3, .int (Int32.ofNat tp)), (4, .int (Int32.ofNat d * 8 + Int32.ofNat pos)), (5, .int (itf (ras TR NB WG pos tp) i a0)), (6, .int (Int32.ofNat i)), (7, .int ((Int32.ofNat d) * 8 + (Int32.ofNat i)))]) (st' := [.int (Int32.ofNat tp), .int (Int32.ofNat d * 8 + Int32.ofNat pos), .ref 41, .int (NB i tp)]) (s' := s) rfl ?_
              have gNpos : gget s 42 (Int32.ofNat d * 8 + Int32.ofNat pos) (Int32.ofNat tp) = NB pos tp := by rw [row_i]; exact (gget_i (k := 42) (by show tp < 9; omega) (by decide) (by show (d * 8 + pos) * 9 + tp < 360; omega)).trans (hNB pos tp (by omega) h1 h2)
              refine yp_vi rfl rfl rfl rfl (c_numv (by decide) gNpos ?_)
              refine yp_icmp rfl rfl (fun h110 => ?_) (fun h110 => ?_)
              · refine yp_run 2 (pc' := 127) (lv' := [(0, .ref 30), (1, .int (Int32.ofNat d)), (2, .int (Int32.ofNat pos)), (3, .int (Int32.ofNat tp)), (4, .int (Int32.ofNat d * 8 + Int32.ofNat pos)), (5, .int (itf (ras TR NB WG pos tp) i a0)), (6, .int (Int32.ofNat i)), (7, .int ((Int32.ofNat d) * 8 + (Int32.ofNat i)))]) (st' := [.int 1, .int (itf (ras TR NB WG pos tp) i a0)]) (s' := s) rfl ?_
                refine yp_math (v := (if (itf (ras TR NB WG pos tp) i a0) < 1 then 1 else (itf (ras TR NB WG pos tp) i a0))) (rest := []) rfl rfl ?_
                refine yp_run 3 (pc' := 22) (lv' := [(0, .ref 30), (1, .int (Int32.ofNat d)), (2, .int (Int32.ofNat pos)), (3, .int (Int32.ofNat tp)), (4, .int (Int32.ofNat d * 8 + Int32.ofNat pos)), (5, .int (if (itf (ras TR NB WG pos tp) i a0) < 1 then 1 else (itf (ras TR NB WG pos tp) i a0))), (6, .int ((Int32.ofNat i) + 1)), (7, .int ((Int32.ofNat d) * 8 + (Int32.ofNat i)))]) (st' := []) (s' := s) rfl ?_
                have e9 : (itf (ras TR NB WG pos tp) (i + 1) a0) = (if (itf (ras TR NB WG pos tp) i a0) < 1 then 1 else (itf (ras TR NB WG pos tp) i a0)) := by
                  refine (ras_eq TR NB WG pos tp i (itf (ras TR NB WG pos tp) i a0)).trans ?_
                  simp only [h42, h55, h81, h110, cond_true, cond_false]
                have e8 := ih (i + 1) (by omega)
                rw [e9] at e8
                rw [i32_s]
                refine yp_sel [0, 1, 2, 3, 4, 5, 6] ?_
                exact e8
              · refine yp_run 2 (pc' := 116) (lv' := [(0, .ref 30), (1, .int (Int32.ofNat d)), (2, .int (Int32.ofNat pos)), (3, .int (Int32.ofNat tp)), (4, .int (Int32.ofNat d * 8 + Int32.ofNat pos)), (5, .int (itf (ras TR NB WG pos tp) i a0)), (6, .int (Int32.ofNat i)), (7, .int ((Int32.ofNat d) * 8 + (Int32.ofNat i)))]) (st' := [.int 2, .int (itf (ras TR NB WG pos tp) i a0)]) (s' := s) rfl ?_
                refine yp_math (v := (if (itf (ras TR NB WG pos tp) i a0) < 2 then 2 else (itf (ras TR NB WG pos tp) i a0))) (rest := []) rfl rfl ?_
                refine yp_run 4 (pc' := 22) (lv' := [(0, .ref 30), (1, .int (Int32.ofNat d)), (2, .int (Int32.ofNat pos)), (3, .int (Int32.ofNat tp)), (4, .int (Int32.ofNat d * 8 + Int32.ofNat pos)), (5, .int (if (itf (ras TR NB WG pos tp) i a0) < 2 then 2 else (itf (ras TR NB WG pos tp) i a0))), (6, .int ((Int32.ofNat i) + 1)), (7, .int ((Int32.ofNat d) * 8 + (Int32.ofNat i)))]) (st' := []) (s' := s) rfl ?_
                have e9 : (itf (ras TR NB WG pos tp) (i + 1) a0) = (if (itf (ras TR NB WG pos tp) i a0) < 2 then 2 else (itf (ras TR NB WG pos tp) i a0)) := by
                  refine (ras_eq TR NB WG pos tp i (itf (ras TR NB WG pos tp) i a0)).trans ?_
                  simp only [h42, h55, h81, h110, cond_true, cond_false]
                have e8 := ih (i + 1) (by omega)
                rw [e9] at e8
                rw [i32_s]
                refine yp_sel [0, 1, 2, 3, 4, 5, 6] ?_
                exact e8
            · refine yp_run 5 (pc' := 22) (lv' := [(0, .ref 30), (1, .int (Int32.ofNat d)), (2, .int (Int32.ofNat pos)), (3, .int (Int32.ofNat tp)), (4, .int (Int32.ofNat d * 8 + Int32.ofNat pos)), (5, .int 3), (6, .int ((Int32.ofNat i) + 1)), (7, .int ((Int32.ofNat d) * 8 + (Int32.ofNat i)))]) (st' := []) (s' := s) rfl ?_
              have e9 : (itf (ras TR NB WG pos tp) (i + 1) a0) = 3 := by
                refine (ras_eq TR NB WG pos tp i (itf (ras TR NB WG pos tp) i a0)).trans ?_
                simp only [h42, h55, h81, cond_true, cond_false]
              have e8 := ih (i + 1) (by omega)
              rw [e9] at e8
              rw [i32_s]
              refine yp_sel [0, 1, 2, 3, 4, 5, 6] ?_
              exact e8
          · refine yp_run 3 (pc' := 22) (lv' := [(0, .ref 30), (1, .int (Int32.ofNat d)), (2, .int (Int32.ofNat pos)), (3, .int (Int32.ofNat tp)), (4, .int (Int32.ofNat d * 8 + Int32.ofNat pos)), (5, .int (itf (ras TR NB WG pos tp) i a0)), (6, .int ((Int32.ofNat i) + 1)), (7, .int ((Int32.ofNat d) * 8 + (Int32.ofNat i)))]) (st' := []) (s' := s) rfl ?_
            have e9 : (itf (ras TR NB WG pos tp) (i + 1) a0) = (itf (ras TR NB WG pos tp) i a0) := by
              refine (ras_eq TR NB WG pos tp i (itf (ras TR NB WG pos tp) i a0)).trans ?_
              simp only [h42, h55, cond_true, cond_false]
            have e8 := ih (i + 1) (by omega)
            rw [e9] at e8
            rw [i32_s]
            refine yp_sel [0, 1, 2, 3, 4, 5, 6] ?_
            exact e8
  · have hz : s 52 0 = Int32.ofNat n := hz
    induction m with
    | zero =>
      intro i hi
      refine yp_run 3 (pc' := 28) (lv' := [(0, .ref 52), (1, .int (Int32.ofNat d)), (2, .int (Int32.ofNat pos)), (3, .int (Int32.ofNat tp)), (4, .int (Int32.ofNat d * 8 + Int32.ofNat pos)), (5, .int (itf (ras TR NB WG pos tp) i a0)), (6, .int (Int32.ofNat i))]) (st' := [.int (s 52 0), .int (Int32.ofNat i)]) (s' := s) rfl ?_
      refine yp_icmp rfl rfl (fun h => ?_) (fun h => ?_)
      · rw [show i = n by omega]
        exact kk
      · have h := xN (xc_ge _ _) h
        rw [hz, i32_to (by omega), i32_to (by omega)] at h
        omega
    | succ m ih =>
      intro i hi
      refine yp_run 3 (pc' := 28) (lv' := [(0, .ref 52), (1, .int (Int32.ofNat d)), (2, .int (Int32.ofNat pos)), (3, .int (Int32.ofNat tp)), (4, .int (Int32.ofNat d * 8 + Int32.ofNat pos)), (5, .int (itf (ras TR NB WG pos tp) i a0)), (6, .int (Int32.ofNat i))]) (st' := [.int (s 52 0), .int (Int32.ofNat i)]) (s' := s) rfl ?_
      refine yp_icmp rfl rfl (fun h => ?_) (fun h => ?_)
      · have h := xT (xc_ge _ _) h
        rw [hz, i32_to (by omega), i32_to (by omega)] at h
        omega
      · refine yp_run 2 (pc' := 34) (lv' := [(0, .ref 52), (1, .int (Int32.ofNat d)), (2, .int (Int32.ofNat pos)), (3, .int (Int32.ofNat tp)), (4, .int (Int32.ofNat d * 8 + Int32.ofNat pos)), (5, .int (itf (ras TR NB WG pos tp) i a0)), (6, .int (Int32.ofNat i))]) (st' := [.int (Int32.ofNat i), .int (Int32.ofNat d)]) (s' := s) rfl ?_
        refine yp_st rfl rfl (c_rowOf ?_)
        refine yp_run 3 (pc' := 42) (lv' := [(0, .ref 52), (1, .int (Int32.ofNat d)), (2, .int (Int32.ofNat pos)), (3, .int (Int32.ofNat tp)), (4, .int (Int32.ofNat d * 8 + Int32.ofNat pos)), (5, .int (itf (ras TR NB WG pos tp) i a0)), (6, .int (Int32.ofNat i)), (7, .int ((Int32.ofNat d) * 8 + (Int32.ofNat i)))]) (st' := [.int (Int32.ofNat pos), .int (Int32.ofNat i)]) (s' := s) rfl ?_
        refine yp_icmp rfl rfl (fun h42 => ?_) (fun h42 => ?_)
        · refine yp_run 2 (pc' := 22) (lv' := [(0, .ref 52), (1, .int (Int32.ofNat d)), (2, .int (Int32.ofNat pos)), (3, .int (Int32.ofNat tp)), (4, .int (Int32.ofNat d * 8 + Int32.ofNat pos)), (5, .int (itf (ras TR NB WG pos tp) i a0)), (6, .int ((Int32.ofNat i) + 1)), (7, .int ((Int32.ofNat d) * 8 + (Int32.ofNat i)))]) (st' := []) (s' := s) rfl ?_
          have e9 : (itf (ras TR NB WG pos tp) (i + 1) a0) = (itf (ras TR NB WG pos tp) i a0) := by
            refine (ras_eq TR NB WG pos tp i (itf (ras TR NB WG pos tp) i a0)).trans ?_
            simp only [h42, cond_true, cond_false]
          have e8 := ih (i + 1) (by omega)
          rw [e9] at e8
          rw [i32_s]
          refine yp_sel [0, 1, 2, 3, 4, 5, 6] ?_
          exact e8
        · refine yp_run 3 (pc' := 51) (lv' := [(0, .ref 52), (1, .int (Int32.ofNat d)), (2, .int (Int32.ofNat pos)), (3, .int (Int32.ofNat tp)), (4, .int (Int32.ofNat d * 8 + Int32.ofNat pos)), (5, .int (itf (ras TR NB WG pos tp) i a0)), (6, .int (Int32.ofNat i)), (7, .int ((Int32.ofNat d) * 8 + (Int32.ofNat i)))]) (st' := [.int (Int32.ofNat i), .ref 70]) (s' := s) rfl ?_
          have ti : rget s 70 (Int32.ofNat i) = Int32.ofNat (TR i) := (rget_i (by show i < 8; omega)).trans (hTR i (by omega))
          refine yp_vi rfl rfl rfl rfl (c_rgetv rfl ti ?_)
          refine yp_run 1 (pc' := 55) (lv' := [(0, .ref 52), (1, .int (Int32.ofNat d)), (2, .int (Int32.ofNat pos)), (3, .int (Int32.ofNat tp)), (4, .int (Int32.ofNat d * 8 + Int32.ofNat pos)), (5, .int (itf (ras TR NB WG pos tp) i a0)), (6, .int (Int32.ofNat i)), (7, .int ((Int32.ofNat d) * 8 + (Int32.ofNat i)))]) (st' := [.int (Int32.ofNat tp), .int (Int32.ofNat (TR i))]) (s' := s) rfl ?_
          refine yp_icmp rfl rfl (fun h55 => ?_) (fun h55 => ?_)
          · refine yp_run 4 (pc' := 68) (lv' := [(0, .ref 52), (1, .int (Int32.ofNat d)), (2, .int (Int32.ofNat pos)), (3, .int (Int32.ofNat tp)), (4, .int (Int32.ofNat d * 8 + Int32.ofNat pos)), (5, .int (itf (ras TR NB WG pos tp) i a0)), (6, .int (Int32.ofNat i)), (7, .int ((Int32.ofNat d) * 8 + (Int32.ofNat i)))]) (st' := [.int (Int32.ofNat tp), .int ((Int32.ofNat d) * 8 + (Int32.ofNat i)), .ref 63]) (s' := s) rfl ?_
            have gWi : gget s 66 (Int32.ofNat d * 8 + Int32.ofNat i) (Int32.ofNat tp) = WG i tp := by rw [row_i]; exact (gget_i (k := 66) (by show tp < 9; omega) (by decide) (by show (d * 8 + i) * 9 + tp < 360; omega)).trans (hWG i tp (by omega) h1 h2)
            refine yp_vi rfl rfl rfl rfl (c_wgtv (by decide) gWi ?_)
            refine yp_run 4 (pc' := 78) (lv' := [(0, .ref 52), (1, .int (Int32.ofNat d)), (2, .int (Int32.ofNat pos)), (3, .int (Int32.ofNat tp)), (4, .int (Int32.ofNat d * 8 + Int32.ofNat pos)), (5, .int (itf (ras TR NB WG pos tp) i a0)), (6, .int (Int32.ofNat i)), (7, .int ((Int32.ofNat d) * 8 + (Int32.ofNat i)))]) (st' := [.int (Int32.ofNat tp), .int (Int32.ofNat d * 8 + Int32.ofNat pos), .ref 63, .int (WG i tp)]) (s' := s) rfl ?_
            have gWpos : gget s 66 (Int32.ofNat d * 8 + Int32.ofNat pos) (Int32.ofNat tp) = WG pos tp := by rw [row_i]; exact (gget_i (k := 66) (by show tp < 9; omega) (by decide) (by show (d * 8 + pos) * 9 + tp < 360; omega)).trans (hWG pos tp (by omega) h1 h2)
            refine yp_vi rfl rfl rfl rfl (c_wgtv (by decide) gWpos ?_)
            refine yp_icmp rfl rfl (fun h81 => ?_) (fun h81 => ?_)
            · refine yp_run 4 (pc' := 97) (lv' := [(0, .ref 52), (1, .int (Int32.ofNat d)), (2, .int (Int32.ofNat pos)), (3, .int (Int32.ofNat tp)), (4, .int (Int32.ofNat d * 8 + Int32.ofNat pos)), (5, .int (itf (ras TR NB WG pos tp) i a0)), (6, .int (Int32.ofNat i)), (7, .int ((Int32.ofNat d) * 8 + (Int32.ofNat i)))]) (st' := [.int (Int32.ofNat tp), .int ((Int32.ofNat d) * 8 + (Int32.ofNat i)), .ref 63]) (s' := s) rfl ?_
              have gNi : gget s 64 (Int32.ofNat d * 8 + Int32.ofNat i) (Int32.ofNat tp) = NB i tp := by rw [row_i]; exact (gget_i (k := 64) (by show tp < 9; omega) (by decide) (by show (d * 8 + i) * 9 + tp < 360; omega)).trans (hNB i tp (by omega) h1 h2)
              refine yp_vi rfl rfl rfl rfl (c_numv (by decide) gNi ?_)
              refine yp_run 4 (pc' := 107) (lv' := [(0, .ref 52), (1, .int (Int32.ofNat d)), (2, .int (Int32.ofNat pos)), (3, .int (Int32.ofNat tp)), (4, .int (Int32.ofNat d * 8 + Int32.ofNat pos)), (5, .int (itf (ras TR NB WG pos tp) i a0)), (6, .int (Int32.ofNat i)), (7, .int ((Int32.ofNat d) * 8 + (Int32.ofNat i)))]) (st' := [.int (Int32.ofNat tp), .int (Int32.ofNat d * 8 + Int32.ofNat pos), .ref 63, .int (NB i tp)]) (s' := s) rfl ?_
              have gNpos : gget s 64 (Int32.ofNat d * 8 + Int32.ofNat pos) (Int32.ofNat tp) = NB pos tp := by rw [row_i]; exact (gget_i (k := 64) (by show tp < 9; omega) (by decide) (by show (d * 8 + pos) * 9 + tp < 360; omega)).trans (hNB pos tp (by omega) h1 h2)
              refine yp_vi rfl rfl rfl rfl (c_numv (by decide) gNpos ?_)
              refine yp_icmp rfl rfl (fun h110 => ?_) (fun h110 => ?_)
              · refine yp_run 2 (pc' := 127) (lv' := [(0, .ref 52), (1, .int (Int32.ofNat d)), (2, .int (Int32.ofNat pos)), (3, .int (Int32.ofNat tp)), (4, .int (Int32.ofNat d * 8 + Int32.ofNat pos)), (5, .int (itf (ras TR NB WG pos tp) i a0)), (6, .int (Int32.ofNat i)), (7, .int ((Int32.ofNat d) * 8 + (Int32.ofNat i)))]) (st' := [.int 1, .int (itf (ras TR NB WG pos tp) i a0)]) (s' := s) rfl ?_
                refine yp_math (v := (if (itf (ras TR NB WG pos tp) i a0) < 1 then 1 else (itf (ras TR NB WG pos tp) i a0))) (rest := []) rfl rfl ?_
                refine yp_run 3 (pc' := 22) (lv' := [(0, .ref 52), (1, .int (Int32.ofNat d)), (2, .int (Int32.ofNat pos)), (3, .int (Int32.ofNat tp)), (4, .int (Int32.ofNat d * 8 + Int32.ofNat pos)), (5, .int (if (itf (ras TR NB WG pos tp) i a0) < 1 then 1 else (itf (ras TR NB WG pos tp) i a0))), (6, .int ((Int32.ofNat i) + 1)), (7, .int ((Int32.ofNat d) * 8 + (Int32.ofNat i)))]) (st' := []) (s' := s) rfl ?_
                have e9 : (itf (ras TR NB WG pos tp) (i + 1) a0) = (if (itf (ras TR NB WG pos tp) i a0) < 1 then 1 else (itf (ras TR NB WG pos tp) i a0)) := by
                  refine (ras_eq TR NB WG pos tp i (itf (ras TR NB WG pos tp) i a0)).trans ?_
                  simp only [h42, h55, h81, h110, cond_true, cond_false]
                have e8 := ih (i + 1) (by omega)
                rw [e9] at e8
                rw [i32_s]
                refine yp_sel [0, 1, 2, 3, 4, 5, 6] ?_
                exact e8
              · refine yp_run 2 (pc' := 116) (lv' := [(0, .ref 52), (1, .int (Int32.ofNat d)), (2, .int (Int32.ofNat pos)), (3, .int (Int32.ofNat tp)), (4, .int (Int32.ofNat d * 8 + Int32.ofNat pos)), (5, .int (itf (ras TR NB WG pos tp) i a0)), (6, .int (Int32.ofNat i)), (7, .int ((Int32.ofNat d) * 8 + (Int32.ofNat i)))]) (st' := [.int 2, .int (itf (ras TR NB WG pos tp) i a0)]) (s' := s) rfl ?_
                refine yp_math (v := (if (itf (ras TR NB WG pos tp) i a0) < 2 then 2 else (itf (ras TR NB WG pos tp) i a0))) (rest := []) rfl rfl ?_
                refine yp_run 4 (pc' := 22) (lv' := [(0, .ref 52), (1, .int (Int32.ofNat d)), (2, .int (Int32.ofNat pos)), (3, .int (Int32.ofNat tp)), (4, .int (Int32.ofNat d * 8 + Int32.ofNat pos)), (5, .int (if (itf (ras TR NB WG pos tp) i a0) < 2 then 2 else (itf (ras TR NB WG pos tp) i a0))), (6, .int ((Int32.ofNat i) + 1)), (7, .int ((Int32.ofNat d) * 8 + (Int32.ofNat i)))]) (st' := []) (s' := s) rfl ?_
                have e9 : (itf (ras TR NB WG pos tp) (i + 1) a0) = (if (itf (ras TR NB WG pos tp) i a0) < 2 then 2 else (itf (ras TR NB WG pos tp) i a0)) := by
                  refine (ras_eq TR NB WG pos tp i (itf (ras TR NB WG pos tp) i a0)).trans ?_
                  simp only [h42, h55, h81, h110, cond_true, cond_false]
                have e8 := ih (i + 1) (by omega)
                rw [e9] at e8
                rw [i32_s]
                refine yp_sel [0, 1, 2, 3, 4, 5, 6] ?_
                exact e8
            · refine yp_run 5 (pc' := 22) (lv' := [(0, .ref 52), (1, .int (Int32.ofNat d)), (2, .int (Int32.ofNat pos)), (3, .int (Int32.ofNat tp)), (4, .int (Int32.ofNat d * 8 + Int32.ofNat pos)), (5, .int 3), (6, .int ((Int32.ofNat i) + 1)), (7, .int ((Int32.ofNat d) * 8 + (Int32.ofNat i)))]) (st' := []) (s' := s) rfl ?_
              have e9 : (itf (ras TR NB WG pos tp) (i + 1) a0) = 3 := by
                refine (ras_eq TR NB WG pos tp i (itf (ras TR NB WG pos tp) i a0)).trans ?_
                simp only [h42, h55, h81, cond_true, cond_false]
              have e8 := ih (i + 1) (by omega)
              rw [e9] at e8
              rw [i32_s]
              refine yp_sel [0, 1, 2, 3, 4, 5, 6] ?_
              exact e8
          · refine yp_run 3 (pc' := 22) (lv' := [(0, .ref 52), (1, .int (Int32.ofNat d)), (2, .int (Int32.ofNat pos)), (3, .int (Int32.ofNat tp)), (4, .int (Int32.ofNat d * 8 + Int32.ofNat pos)), (5, .int (itf (ras TR NB WG pos tp) i a0)), (6, .int ((Int32.ofNat i) + 1)), (7, .int ((Int32.ofNat d) * 8 + (Int32.ofNat i)))]) (st' := []) (s' := s) rfl ?_
            have e9 : (itf (ras TR NB WG pos tp) (i + 1) a0) = (itf (ras TR NB WG pos tp) i a0) := by
              refine (ras_eq TR NB WG pos tp i (itf (ras TR NB WG pos tp) i a0)).trans ?_
              simp only [h42, h55, cond_true, cond_false]
            have e8 := ih (i + 1) (by omega)
            rw [e9] at e8
            rw [i32_s]
            refine yp_sel [0, 1, 2, 3, 4, 5, 6] ?_
            exact e8
def rea (n : Nat) (TR : Nat → Nat) (NB WG : Nat → Nat → Int32) (pos : Nat) : Int32 := itf (ras TR NB WG pos (TR pos)) n 0
theorem c_reas {S n d pos : Nat} {TR : Nat → Nat} {NB WG : Nat → Nat → Int32} (hS : yss S) (hn : n ≤ 7) (hd5 : d < 5) (hpn : pos < n) (h1 : 1 ≤ TR pos) (h2 : TR pos ≤ n + 1) (hz : s S 0 = Int32.ofNat n) (hTR : ∀ p, p < n → s (S + 19) p = Int32.ofNat (TR p)) (hWG : ∀ p q, p < n → 1 ≤ q → q ≤ n + 1 → s (S + 15) ((d * 8 + p) * 9 + q) = WG p q) (hNB : ∀ p q, p < n → 1 ≤ q → q ≤ n + 1 → s (S + 13) ((d * 8 + p) * 9 + q) = NB p q) (kk : Φ (some (.int (rea n TR NB WG pos))) s) : Yq sd 28 [.ref S, .int (Int32.ofNat d), .int (Int32.ofNat pos)] s Φ := by
  refine Yq.of rfl (Nat.le_of_ble_eq_true rfl) ?_
  rcases hS with rfl | rfl
  · refine yp_run 3 (pc' := 5) (lv' := [(0, .ref 30), (1, .int (Int32.ofNat d)), (2, .int (Int32.ofNat pos))]) (st' := [.int (Int32.ofNat pos), .ref 48]) (s' := s) rfl ?_
    have t0 : rget s 48 (Int32.ofNat pos) = Int32.ofNat (TR pos) := (rget_i (by show pos < 8; omega)).trans (hTR pos hpn)
    refine yp_vi rfl rfl rfl rfl (c_rgetv rfl t0 ?_)
    refine yp_run 3 (pc' := 11) (lv' := [(0, .ref 30), (1, .int (Int32.ofNat d)), (2, .int (Int32.ofNat pos)), (3, .int (Int32.ofNat (TR pos)))]) (st' := [.int (Int32.ofNat pos), .int (Int32.ofNat d)]) (s' := s) rfl ?_
    refine yp_st rfl rfl (c_rowOf ?_)
    refine yp_run 5 (pc' := 22) (lv' := [(0, .ref 30), (1, .int (Int32.ofNat d)), (2, .int (Int32.ofNat pos)), (3, .int (Int32.ofNat (TR pos))), (4, .int ((Int32.ofNat d) * 8 + (Int32.ofNat pos))), (5, .int 0), (6, .int 0)]) (st' := []) (s' := s) rfl ?_
    refine lz_ra (a0 := 0) (TR := TR) (NB := NB) (WG := WG) (pos := pos) (tp := (TR pos)) (by decide) hn hd5 hpn h1 h2 hz hTR hWG hNB ?_ n 0 (Nat.zero_add _)
    refine yp_run 1 (pc' := 140) (lv' := [(0, .ref 30), (1, .int (Int32.ofNat d)), (2, .int (Int32.ofNat pos)), (3, .int (Int32.ofNat (TR pos))), (4, .int ((Int32.ofNat d) * 8 + (Int32.ofNat pos))), (5, .int (itf (ras TR NB WG pos (TR pos)) n 0)), (6, .int (Int32.ofNat n))]) (st' := [.int (itf (ras TR NB WG pos (TR pos)) n 0)]) (s' := s) rfl ?_
    refine yp_ri rfl rfl ?_
    exact kk
  · refine yp_run 3 (pc' := 5) (lv' := [(0, .ref 52), (1, .int (Int32.ofNat d)), (2, .int (Int32.ofNat pos))]) (st' := [.int (Int32.ofNat pos), .ref 70]) (s' := s) rfl ?_
    have t0 : rget s 70 (Int32.ofNat pos) = Int32.ofNat (TR pos) := (rget_i (by show pos < 8; omega)).trans (hTR pos hpn)
    refine yp_vi rfl rfl rfl rfl (c_rgetv rfl t0 ?_)
    refine yp_run 3 (pc' := 11) (lv' := [(0, .ref 52), (1, .int (Int32.ofNat d)), (2, .int (Int32.ofNat pos)), (3, .int (Int32.ofNat (TR pos)))]) (st' := [.int (Int32.ofNat pos), .int (Int32.ofNat d)]) (s' := s) rfl ?_
    refine yp_st rfl rfl (c_rowOf ?_)
    refine yp_run 5 (pc' := 22) (lv' := [(0, .ref 52), (1, .int (Int32.ofNat d)), (2, .int (Int32.ofNat pos)), (3, .int (Int32.ofNat (TR pos))), (4, .int ((Int32.ofNat d) * 8 + (Int32.ofNat pos))), (5, .int 0), (6, .int 0)]) (st' := []) (s' := s) rfl ?_
    refine lz_ra (a0 := 0) (TR := TR) (NB := NB) (WG := WG) (pos := pos) (tp := (TR pos)) (by decide) hn hd5 hpn h1 h2 hz hTR hWG hNB ?_ n 0 (Nat.zero_add _)
    refine yp_run 1 (pc' := 140) (lv' := [(0, .ref 52), (1, .int (Int32.ofNat d)), (2, .int (Int32.ofNat pos)), (3, .int (Int32.ofNat (TR pos))), (4, .int ((Int32.ofNat d) * 8 + (Int32.ofNat pos))), (5, .int (itf (ras TR NB WG pos (TR pos)) n 0)), (6, .int (Int32.ofNat n))]) (st' := [.int (itf (ras TR NB WG pos (TR pos)) n 0)]) (s' := s) rfl ?_
    refine yp_ri rfl rfl ?_
    exact kk
theorem hd_0 (b : Int32) : hd 0 b = 0 := by
  refine hd_f (fun q => ?_)
  have h := q.2
  have e : ((0 : Int32) >>> (b &&& 31)) = 0 := by
    apply Int32.toBitVec_inj.mp
    simp
  rw [e] at h
  revert h
  decide
theorem c_pen0 {p d : Int32} (h9 : rget s 28 d = 0) (kk : Φ (some (.int 0)) s) : Yq sd 20 [.ref 25, .int p, .int d] s Φ := by
  refine c_isPen ?_
  rw [h9, hd_0]
  exact kk
end YR2
