/-! who is the heaviest of some; loops that carry numbers along
-/
section YK
variable {sd : Option (List Int32)} {μ pc : Nat} {lv : xL} {st : List Value} {s : yS} {Φ : Option Value → yS → Prop}
def itf {α : Type} (f : Nat → α → α) : Nat → α → α
  | 0, a => a
  | i + 1, a => f i (itf f i a)
theorem c_rgetv {k : Nat} {i v : Int32} (hk : yrw k = true) (hv : rget s k i = v) (kk : Φ (some (.int v)) s) : Yq sd 21 [.ref k, .int i] s Φ := by
  subst hv
  exact c_rget hk kk
theorem c_ggetv {k : Nat} {r c v : Int32} (hk : ygd k = true) (hv : gget s k r c = v) (kk : Φ (some (.int v)) s) : Yq sd 4 [.ref k, .int r, .int c] s Φ := by
  subst hv
  exact c_gget hk kk
theorem c_numv {t : Nat} {r p v : Int32} (ht : yt t) (hv : gget s (t + 1) r p = v) (kk : Φ (some (.int v)) s) : Yq sd 23 [.ref t, .int r, .int p] s Φ := by
  subst hv
  exact c_num ht kk
theorem c_wgtv {t : Nat} {r p v : Int32} (ht : yt t) (hv : gget s (t + 3) r p = v) (kk : Φ (some (.int v)) s) : Yq sd 29 [.ref t, .int r, .int p] s Φ := by
  subst hv
  exact c_wgt ht kk
def hvs (g : Int32) (W : Nat → Int32) (i : Nat) (a : Int32 × Int32) : Int32 × Int32 := (bif xcmp .eq (hd g (Int32.ofNat i)) 0 then (a.1, a.2) else (bif xcmp .eq a.1 0 then ((1 <<< ((Int32.ofNat i) &&& 31)), (W i)) else (bif xcmp .lt (W i) a.2 then (a.1, a.2) else (bif xcmp .ne (W i) a.2 then ((1 <<< ((Int32.ofNat i) &&& 31)), (W i)) else ((a.1 ||| (1 <<< ((Int32.ofNat i) &&& 31))), (W i))))))
theorem hvs_eq (g : Int32) (W : Nat → Int32) (i : Nat) (a : Int32 × Int32) : hvs g W i a = (bif xcmp .eq (hd g (Int32.ofNat i)) 0 then (a.1, a.2) else (bif xcmp .eq a.1 0 then ((1 <<< ((Int32.ofNat i) &&& 31)), (W i)) else (bif xcmp .lt (W i) a.2 then (a.1, a.2) else (bif xcmp .ne (W i) a.2 then ((1 <<< ((Int32.ofNat i) &&& 31)), (W i)) else ((a.1 ||| (1 <<< ((Int32.ofNat i) &&& 31))), (W i)))))) := rfl
theorem lz_hv {S : Nat} {n : Nat} {g : Int32} {W : Nat → Int32} {a0 : Int32 × Int32} (hS : yss S) (hn : n ≤ 8) (hz : s S 0 = Int32.ofNat n) (hW : ∀ p, p < n → s (S + 21) p = W p) (kk : Yp sd 33 79 [(0, .ref S), (1, .int g), (2, .int ((itf (hvs g W) n a0).1)), (3, .int ((itf (hvs g W) n a0).2)), (4, .int (Int32.ofNat n))] [] s Φ) : ∀ m i : Nat, i + m = n → Yp sd 33 7 [(0, .ref S), (1, .int g), (2, .int ((itf (hvs g W) i a0).1)), (3, .int ((itf (hvs g W) i a0).2)), (4, .int (Int32.ofNat i))] [] s Φ := by
  intro m
  rcases hS with rfl | rfl
  · have hz : s 30 0 = Int32.ofNat n := hz
    induction m with
    | zero =>
      intro i hi
      refine yp_run 3 (pc' := 13) (lv' := [(0, .ref 30), (1, .int g), (2, .int ((itf (hvs g W) i a0).1)), (3, .int ((itf (hvs g W) i a0).2)), (4, .int (Int32.ofNat i))]) (st' := [.int (s 30 0), .int (Int32.ofNat i)]) (s' := s) rfl ?_
      refine yp_icmp rfl rfl (fun h => ?_) (fun h => ?_)
      · rw [show i = n by omega]
        exact kk
      · have h := xN (xc_ge _ _) h
        rw [hz, i32_to (by omega), i32_to (by omega)] at h
        omega
    | succ m ih =>
      intro i hi
      refine yp_run 3 (pc' := 13) (lv' := [(0, .ref 30), (1, .int g), (2, .int ((itf (hvs g W) i a0).1)), (3, .int ((itf (hvs g W) i a0).2)), (4, .int (Int32.ofNat i))]) (st' := [.int (s 30 0), .int (Int32.ofNat i)]) (s' := s) rfl ?_
      refine yp_icmp rfl rfl (fun h => ?_) (fun h => ?_)
      · have h := xT (xc_ge _ _) h
        rw [hz, i32_to (by omega), i32_to (by omega)] at h
        omega
      · have gW : rget s 50 (Int32.ofNat i) = W i := (rget_i (by show i < 8; omega)).trans (hW i (by omega))
        refine yp_run 3 (pc' := 22) (lv' := [(0, .ref 30), (1, .int g), (2, .int ((itf (hvs g W) i a0).1)), (3, .int ((itf (hvs g W) i a0).2)), (4, .int (Int32.ofNat i))]) (st' := [.int (Int32.ofNat i), .ref 50]) (s' := s) rfl ?_
        refine yp_vi rfl rfl rfl rfl (c_rgetv rfl gW ?_)
        refine yp_run 3 (pc' := 30) (lv' := [(0, .ref 30), (1, .int g), (2, .int ((itf (hvs g W) i a0).1)), (3, .int ((itf (hvs g W) i a0).2)), (4, .int (Int32.ofNat i)), (5, .int (W i))]) (st' := [.int (Int32.ofNat i), .int g]) (s' := s) rfl ?_
        refine yp_sn rfl rfl rfl (c_hold ?_)
        refine yp_if rfl rfl (fun h33 => ?_) (fun h33 => ?_)
        · refine yp_run 2 (pc' := 7) (lv' := [(0, .ref 30), (1, .int g), (2, .int ((itf (hvs g W) i a0).1)), (3, .int ((itf (hvs g W) i a0).2)), (4, .int ((Int32.ofNat i) + 1)), (5, .int (W i))]) (st' := []) (s' := s) rfl ?_
          have e9 : (itf (hvs g W) (i + 1) a0) = (((itf (hvs g W) i a0).1), ((itf (hvs g W) i a0).2)) := by
            refine (hvs_eq g W i (itf (hvs g W) i a0)).trans ?_
            simp only [h33, cond_true, cond_false]
          have e8 := ih (i + 1) (by omega)
          rw [e9] at e8
          rw [i32_s]
          refine yp_sel [0, 1, 2, 3, 4] ?_
          exact e8
        · refine yp_run 1 (pc' := 37) (lv' := [(0, .ref 30), (1, .int g), (2, .int ((itf (hvs g W) i a0).1)), (3, .int ((itf (hvs g W) i a0).2)), (4, .int (Int32.ofNat i)), (5, .int (W i))]) (st' := [.int ((itf (hvs g W) i a0).1)]) (s' := s) rfl ?_
          refine yp_if rfl rfl (fun h37 => ?_) (fun h37 => ?_)
          · refine yp_run 1 (pc' := 47) (lv' := [(0, .ref 30), (1, .int g), (2, .int ((itf (hvs g W) i a0).1)), (3, .int ((itf (hvs g W) i a0).2)), (4, .int (Int32.ofNat i)), (5, .int (W i))]) (st' := [.int ((itf (hvs g W) i a0).1)]) (s' := s) rfl ?_
            refine yp_if rfl rfl (fun h47 => ?_) (fun h47 => ?_)
            · refine yp_run 8 (pc' := 7) (lv' := [(0, .ref 30), (1, .int g), (2, .int (1 <<< ((Int32.ofNat i) &&& 31))), (3, .int (W i)), (4, .int ((Int32.ofNat i) + 1)), (5, .int (W i))]) (st' := []) (s' := s) rfl ?_
              have e9 : (itf (hvs g W) (i + 1) a0) = ((1 <<< ((Int32.ofNat i) &&& 31)), (W i)) := by
                refine (hvs_eq g W i (itf (hvs g W) i a0)).trans ?_
                simp only [h33, h37, cond_true, cond_false]
              have e8 := ih (i + 1) (by omega)
              rw [e9] at e8
              rw [i32_s]
              refine yp_sel [0, 1, 2, 3, 4] ?_
              exact e8
            · rw [h37] at h47
              cases h47
          · refine yp_run 2 (pc' := 43) (lv' := [(0, .ref 30), (1, .int g), (2, .int ((itf (hvs g W) i a0).1)), (3, .int ((itf (hvs g W) i a0).2)), (4, .int (Int32.ofNat i)), (5, .int (W i))]) (st' := [.int ((itf (hvs g W) i a0).2), .int (W i)]) (s' := s) rfl ?_
            refine yp_icmp rfl rfl (fun h43 => ?_) (fun h43 => ?_)
            · refine yp_run 2 (pc' := 7) (lv' := [(0, .ref 30), (1, .int g), (2, .int ((itf (hvs g W) i a0).1)), (3, .int ((itf (hvs g W) i a0).2)), (4, .int ((Int32.ofNat i) + 1)), (5, .int (W i))]) (st' := []) (s' := s) rfl ?_
              have e9 : (itf (hvs g W) (i + 1) a0) = (((itf (hvs g W) i a0).1), ((itf (hvs g W) i a0).2)) := by
                refine (hvs_eq g W i (itf (hvs g W) i a0)).trans ?_
                simp only [h33, h37, h43, cond_true, cond_false]
              have e8 := ih (i + 1) (by omega)
              rw [e9] at e8
              rw [i32_s]
              refine yp_sel [0, 1, 2, 3, 4] ?_
              exact e8
            · refine yp_run 1 (pc' := 47) (lv' := [(0, .ref 30), (1, .int g), (2, .int ((itf (hvs g W) i a0).1)), (3, .int ((itf (hvs g W) i a0).2)), (4, .int (Int32.ofNat i)), (5, .int (W i))]) (st' := [.int ((itf (hvs g W) i a0).1)]) (s' := s) rfl ?_
              refine yp_if rfl rfl (fun h47 => ?_) (fun h47 => ?_)
              · rw [h37] at h47
                cases h47
              · refine yp_run 2 (pc' := 53) (lv' := [(0, .ref 30), (1, .int g), (2, .int ((itf (hvs g W) i a0).1)), (3, .int ((itf (hvs g W) i a0).2)), (4, .int (Int32.ofNat i)), (5, .int (W i))]) (st' := [.int ((itf (hvs g W) i a0).2), .int (W i)]) (s' := s) rfl ?_
                refine yp_icmp rfl rfl (fun h53 => ?_) (fun h53 => ?_)
                · refine yp_run 8 (pc' := 7) (lv' := [(0, .ref 30), (1, .int g), (2, .int (1 <<< ((Int32.ofNat i) &&& 31))), (3, .int (W i)), (4, .int ((Int32.ofNat i) + 1)), (5, .int (W i))]) (st' := []) (s' := s) rfl ?_
                  have e9 : (itf (hvs g W) (i + 1) a0) = ((1 <<< ((Int32.ofNat i) &&& 31)), (W i)) := by
                    refine (hvs_eq g W i (itf (hvs g W) i a0)).trans ?_
                    simp only [h33, h37, h43, h53, cond_true, cond_false]
                  have e8 := ih (i + 1) (by omega)
                  rw [e9] at e8
                  rw [i32_s]
                  refine yp_sel [0, 1, 2, 3, 4] ?_
                  exact e8
                · refine yp_run 11 (pc' := 7) (lv' := [(0, .ref 30), (1, .int g), (2, .int (((itf (hvs g W) i a0).1) ||| (1 <<< ((Int32.ofNat i) &&& 31)))), (3, .int (W i)), (4, .int ((Int32.ofNat i) + 1)), (5, .int (W i))]) (st' := []) (s' := s) rfl ?_
                  have e9 : (itf (hvs g W) (i + 1) a0) = ((((itf (hvs g W) i a0).1) ||| (1 <<< ((Int32.ofNat i) &&& 31))), (W i)) := by
                    refine (hvs_eq g W i (itf (hvs g W) i a0)).trans ?_
                    simp only [h33, h37, h43, h53, cond_true, cond_false]
                  have e8 := ih (i + 1) (by omega)
                  rw [e9] at e8
                  rw [i32_s]
                  refine yp_sel [0, 1, 2, 3, 4] ?_
                  exact e8
  · have hz : s 52 0 = Int32.ofNat n := hz
    induction m with
    | zero =>
      intro i hi
      refine yp_run 3 (pc' := 13) (lv' := [(0, .ref 52), (1, .int g), (2, .int ((itf (hvs g W) i a0).1)), (3, .int ((itf (hvs g W) i a0).2)), (4, .int (Int32.ofNat i))]) (st' := [.int (s 52 0), .int (Int32.ofNat i)]) (s' := s) rfl ?_
      refine yp_icmp rfl rfl (fun h => ?_) (fun h => ?_)
      · rw [show i = n by omega]
        exact kk
      · have h := xN (xc_ge _ _) h
        rw [hz, i32_to (by omega), i32_to (by omega)] at h
        omega
    | succ m ih =>
      intro i hi
      refine yp_run 3 (pc' := 13) (lv' := [(0, .ref 52), (1, .int g), (2, .int ((itf (hvs g W) i a0).1)), (3, .int ((itf (hvs g W) i a0).2)), (4, .int (Int32.ofNat i))]) (st' := [.int (s 52 0), .int (Int32.ofNat i)]) (s' := s) rfl ?_
      refine yp_icmp rfl rfl (fun h => ?_) (fun h => ?_)
      · have h := xT (xc_ge _ _) h
        rw [hz, i32_to (by omega), i32_to (by omega)] at h
        omega
      · have gW : rget s 72 (Int32.ofNat i) = W i := (rget_i (by show i < 8; omega)).trans (hW i (by omega))
        refine yp_run 3 (pc' := 22) (lv' := [(0, .ref 52), (1, .int g), (2, .int ((itf (hvs g W) i a0).1)), (3, .int ((itf (hvs g W) i a0).2)), (4, .int (Int32.ofNat i))]) (st' := [.int (Int32.ofNat i), .ref 72]) (s' := s) rfl ?_
        refine yp_vi rfl rfl rfl rfl (c_rgetv rfl gW ?_)
        refine yp_run 3 (pc' := 30) (lv' := [(0, .ref 52), (1, .int g), (2, .int ((itf (hvs g W) i a0).1)), (3, .int ((itf (hvs g W) i a0).2)), (4, .int (Int32.ofNat i)), (5, .int (W i))]) (st' := [.int (Int32.ofNat i), .int g]) (s' := s) rfl ?_
        refine yp_sn rfl rfl rfl (c_hold ?_)
        refine yp_if rfl rfl (fun h33 => ?_) (fun h33 => ?_)
        · refine yp_run 2 (pc' := 7) (lv' := [(0, .ref 52), (1, .int g), (2, .int ((itf (hvs g W) i a0).1)), (3, .int ((itf (hvs g W) i a0).2)), (4, .int ((Int32.ofNat i) + 1)), (5, .int (W i))]) (st' := []) (s' := s) rfl ?_
          have e9 : (itf (hvs g W) (i + 1) a0) = (((itf (hvs g W) i a0).1), ((itf (hvs g W) i a0).2)) := by
            refine (hvs_eq g W i (itf (hvs g W) i a0)).trans ?_
            simp only [h33, cond_true, cond_false]
          have e8 := ih (i + 1) (by omega)
          rw [e9] at e8
          rw [i32_s]
          refine yp_sel [0, 1, 2, 3, 4] ?_
          exact e8
        · refine yp_run 1 (pc' := 37) (lv' := [(0, .ref 52), (1, .int g), (2, .int ((itf (hvs g W) i a0).1)), (3, .int ((itf (hvs g W) i a0).2)), (4, .int (Int32.ofNat i)), (5, .int (W i))]) (st' := [.int ((itf (hvs g W) i a0).1)]) (s' := s) rfl ?_
          refine yp_if rfl rfl (fun h37 => ?_) (fun h37 => ?_)
          · refine yp_run 1 (pc' := 47) (lv' := [(0, .ref 52), (1, .int g), (2, .int ((itf (hvs g W) i a0).1)), (3, .int ((itf (hvs g W) i a0).2)), (4, .int (Int32.ofNat i)), (5, .int (W i))]) (st' := [.int ((itf (hvs g W) i a0).1)]) (s' := s) rfl ?_
            refine yp_if rfl rfl (fun h47 => ?_) (fun h47 => ?_)
            · refine yp_run 8 (pc' := 7) (lv' := [(0, .ref 52), (1, .int g), (2, .int (1 <<< ((Int32.ofNat i) &&& 31))), (3, .int (W i)), (4, .int ((Int32.ofNat i) + 1)), (5, .int (W i))]) (st' := []) (s' := s) rfl ?_
              have e9 : (itf (hvs g W) (i + 1) a0) = ((1 <<< ((Int32.ofNat i) &&& 31)), (W i)) := by
                refine (hvs_eq g W i (itf (hvs g W) i a0)).trans ?_
                simp only [h33, h37, cond_true, cond_false]
              have e8 := ih (i + 1) (by omega)
              rw [e9] at e8
              rw [i32_s]
              refine yp_sel [0, 1, 2, 3, 4] ?_
              exact e8
            · rw [h37] at h47
              cases h47
          · refine yp_run 2 (pc' := 43) (lv' := [(0, .ref 52), (1, .int g), (2, .int ((itf (hvs g W) i a0).1)), (3, .int ((itf (hvs g W) i a0).2)), (4, .int (Int32.ofNat i)), (5, .int (W i))]) (st' := [.int ((itf (hvs g W) i a0).2), .int (W i)]) (s' := s) rfl ?_
            refine yp_icmp rfl rfl (fun h43 => ?_) (fun h43 => ?_)
            · refine yp_run 2 (pc' := 7) (lv' := [(0, .ref 52), (1, .int g), (2, .int ((itf (hvs g W) i a0).1)), (3, .int ((itf (hvs g W) i a0).2)), (4, .int ((Int32.ofNat i) + 1)), (5, .int (W i))]) (st' := []) (s' := s) rfl ?_
              have e9 : (itf (hvs g W) (i + 1) a0) = (((itf (hvs g W) i a0).1), ((itf (hvs g W) i a0).2)) := by
                refine (hvs_eq g W i (itf (hvs g W) i a0)).trans ?_
                simp only [h33, h37, h43, cond_true, cond_false]
              have e8 := ih (i + 1) (by omega)
              rw [e9] at e8
              rw [i32_s]
              refine yp_sel [0, 1, 2, 3, 4] ?_
              exact e8
            · refine yp_run 1 (pc' := 47) (lv' := [(0, .ref 52), (1, .int g), (2, .int ((itf (hvs g W) i a0).1)), (3, .int ((itf (hvs g W) i a0).2)), (4, .int (Int32.ofNat i)), (5, .int (W i))]) (st' := [.int ((itf (hvs g W) i a0).1)]) (s' := s) rfl ?_
              refine yp_if rfl rfl (fun h47 => ?_) (fun h47 => ?_)
              · rw [h37] at h47
                cases h47
              · refine yp_run 2 (pc' := 53) (lv' := [(0, .ref 52), (1, .int g), (2, .int ((itf (hvs g W) i a0).1)), (3, .int ((itf (hvs g W) i a0).2)), (4, .int (Int32.ofNat i)), (5, .int (W i))]) (st' := [.int ((itf (hvs g W) i a0).2), .int (W i)]) (s' := s) rfl ?_
                refine yp_icmp rfl rfl (fun h53 => ?_) (fun h53 => ?_)
                · refine yp_run 8 (pc' := 7) (lv' := [(0, .ref 52), (1, .int g), (2, .int (1 <<< ((Int32.ofNat i) &&& 31))), (3, .int (W i)), (4, .int ((Int32.ofNat i) + 1)), (5, .int (W i))]) (st' := []) (s' := s) rfl ?_
                  have e9 : (itf (hvs g W) (i + 1) a0) = ((1 <<< ((Int32.ofNat i) &&& 31)), (W i)) := by
                    refine (hvs_eq g W i (itf (hvs g W) i a0)).trans ?_
                    simp only [h33, h37, h43, h53, cond_true, cond_false]
                  have e8 := ih (i + 1) (by omega)
                  rw [e9] at e8
                  rw [i32_s]
                  refine yp_sel [0, 1, 2, 3, 4] ?_
                  exact e8
                · refine yp_run 11 (pc' := 7) (lv' := [(0, .ref 52), (1, .int g), (2, .int (((itf (hvs g W) i a0).1) ||| (1 <<< ((Int32.ofNat i) &&& 31)))), (3, .int (W i)), (4, .int ((Int32.ofNat i) + 1)), (5, .int (W i))]) (st' := []) (s' := s) rfl ?_
                  have e9 : (itf (hvs g W) (i + 1) a0) = ((((itf (hvs g W) i a0).1) ||| (1 <<< ((Int32.ofNat i) &&& 31))), (W i)) := by
                    refine (hvs_eq g W i (itf (hvs g W) i a0)).trans ?_
                    simp only [h33, h37, h43, h53, cond_true, cond_false]
                  have e8 := ih (i + 1) (by omega)
                  rw [e9] at e8
                  rw [i32_s]
                  refine yp_sel [0, 1, 2, 3, 4] ?_
                  exact e8
def hv (g : Int32) (W : Nat → Int32) (n : Nat) : Int32 := (itf (hvs g W) n (0, 0)).1
theorem c_heav {S n : Nat} {g : Int32} {W : Nat → Int32} (hS : yss S) (hn : n ≤ 8) (hz : s S 0 = Int32.ofNat n) (hW : ∀ p, p < n → s (S + 21) p = W p) (kk : Φ (some (.int (hv g W n))) s) : Yq sd 33 [.ref S, .int g] s Φ := by
  refine Yq.of rfl (Nat.le_of_ble_eq_true rfl) ?_
  rcases hS with rfl | rfl
  · refine yp_run 6 (pc' := 7) (lv' := [(0, .ref 30), (1, .int g), (2, .int 0), (3, .int 0), (4, .int 0)]) (st' := []) (s' := s) rfl ?_
    refine lz_hv (a0 := (0, 0))  (by decide) hn hz hW ?_ n 0 (Nat.zero_add _)
    refine yp_run 1 (pc' := 80) (lv' := [(0, .ref 30), (1, .int g), (2, .int ((itf (hvs g W) n (0, 0)).1)), (3, .int ((itf (hvs g W) n (0, 0)).2)), (4, .int (Int32.ofNat n))]) (st' := [.int ((itf (hvs g W) n (0, 0)).1)]) (s' := s) rfl ?_
    refine yp_ri rfl rfl ?_
    exact kk
  · refine yp_run 6 (pc' := 7) (lv' := [(0, .ref 52), (1, .int g), (2, .int 0), (3, .int 0), (4, .int 0)]) (st' := []) (s' := s) rfl ?_
    refine lz_hv (a0 := (0, 0))  (by decide) hn hz hW ?_ n 0 (Nat.zero_add _)
    refine yp_run 1 (pc' := 80) (lv' := [(0, .ref 52), (1, .int g), (2, .int ((itf (hvs g W) n (0, 0)).1)), (3, .int ((itf (hvs g W) n (0, 0)).2)), (4, .int (Int32.ofNat n))]) (st' := [.int ((itf (hvs g W) n (0, 0)).1)]) (s' := s) rfl ?_
    refine yp_ri rfl rfl ?_
    exact kk
end YK
