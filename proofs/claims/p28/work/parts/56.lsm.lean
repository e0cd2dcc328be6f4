/-! the law's small methods -/
section YAI
variable {sd : Option (List Int32)} {scl : List Int32} {μ pc : Nat} {lv : xL} {st : List Value} {h : xH} {ks : Nat} {Φ : xO → Prop}
theorem divN {a b : Nat} (ha : a < 2147483648) (hb : 0 < b) (hb2 : b < 2147483648) : Int32.ofNat a / Int32.ofNat b = Int32.ofNat (a / b) := by
  have hle : a / b ≤ a := Nat.div_le_self a b
  apply Int32.toInt_inj.mp
  rw [Int32.toInt_div, i32_to ha, i32_to hb2, i32_to (by omega), ← Int.ofNat_tdiv]
  generalize a / b = q at hle ⊢
  rw [Int.bmod_eq_of_le (by omega) (by omega)]
theorem subN {a b : Nat} (h : b ≤ a) : Int32.ofNat a - Int32.ofNat b = Int32.ofNat (a - b) := by
  have e : Int32.ofNat a = Int32.ofNat (a - b) + Int32.ofNat b := by
    rw [← Int32.ofNat_add]
    congr 1
    omega
  rw [e, Int32.add_sub_cancel]
theorem remN {a b : Nat} (ha : a < 2147483648) (hb : 0 < b) (hb2 : b < 2147483648) : Int32.ofNat a - Int32.ofNat a / Int32.ofNat b * Int32.ofNat b = Int32.ofNat (a % b) := by
  rw [divN ha hb hb2, ← Int32.ofNat_mul, subN (Nat.div_mul_le_self a b)]
  congr 1
  have := Nat.div_add_mod a b
  have h2 : b * (a / b) = a / b * b := Nat.mul_comm _ _
  omega
def psN (v : Int32) : Nat := (v &&& 2147483647).toBitVec.toNat
theorem ps_ok (v : Int32) : v &&& 2147483647 = Int32.ofNat (psN v) ∧ psN v < 2147483648 := by
  have h1 : psN v ≤ 2147483647 := by
    unfold psN
    rw [Int32.toBitVec_and, BitVec.toNat_and]
    exact Nat.and_le_right
  refine ⟨?_, by omega⟩
  apply Int32.toBitVec_inj.mp
  rw [Int32.toBitVec_ofNat']
  unfold psN
  rw [BitVec.ofNat_toNat, BitVec.setWidth_eq]
theorem cx_below {v : Int32} {N : Nat} (hN : 0 < N) (hN2 : N < 1000) (kk : Φ (none, some (.int (Int32.ofNat (psN v % N))), h, ks)) : Qx sd 81 [.int v, .int (Int32.ofNat N)] h ks Φ := by
  refine Qx.of (Or.inl rfl) (Nat.le_of_ble_eq_true rfl) ?_
  refine px_step (pc' := 1) (lv' := [(0, .int v), (1, .int (Int32.ofNat N))]) (st' := [.int v]) rfl rfl rfl ?_
  refine px_step (pc' := 3) (st' := [.int 2147483647, .int v]) rfl rfl rfl ?_
  refine px_step (pc' := 4) (st' := [.int (Int32.ofNat (psN v))]) rfl rfl (by rw [← (ps_ok v).1]; rfl) ?_
  refine px_step (pc' := 5) (st' := [.int (Int32.ofNat N), .int (Int32.ofNat (psN v))]) rfl rfl rfl ?_
  refine px_step (pc' := 6) (lv' := [(0, .int v), (1, .int (Int32.ofNat N))]) (st' := [.int (Int32.ofNat (psN v % N))]) (h' := h) (ks' := ks) rfl rfl ?_ ?_
  · show (if Int32.ofNat N = 0 then none else _) = _
    rw [if_neg (fun e => by
      have := congrArg Int32.toInt e
      rw [i32_to (by omega), Int32.toInt_zero] at this
      omega), remN (ps_ok v).2 hN (by omega)]
  · exact px_ret rfl rfl (xex_int rfl) kk
def cel (scl : List Int32) (K : Nat) : Int32 := if K < scl.length then scl.getD K 0 else 790386105 * (Int32.ofNat K + 3)
theorem cx_cell {K : Nat} (hK : K < 100000) (hs : scl.length < 100000) (kk : Φ (none, some (.int (cel scl K)), h, ks)) : Qx (some scl) 80 [.ref 0, .int (Int32.ofNat K)] h ks Φ := by
  refine Qx.of (Or.inl rfl) (Nat.le_of_ble_eq_true rfl) ?_
  refine px_step (pc' := 1) (lv' := [(0, .ref 0), (1, .int (Int32.ofNat K))]) (st' := [.int (Int32.ofNat K)]) rfl rfl rfl ?_
  refine px_step (pc' := 2) (st' := [.ref 0, .int (Int32.ofNat K)]) rfl rfl rfl ?_
  refine px_step (pc' := 3) (st' := [.int (Int32.ofNat scl.length), .int (Int32.ofNat K)]) rfl rfl rfl ?_
  refine px_icmp rfl rfl (fun hb => ?_) (fun hb => ?_)
  · have hb := xT (xc_ge _ _) hb
    rw [i32_to (by omega), i32_to (by omega)] at hb
    refine px_step (pc' := 14) (st' := [.int 790386105]) rfl rfl rfl ?_
    refine px_step (pc' := 15) (st' := [.int (Int32.ofNat K), .int 790386105]) rfl rfl rfl ?_
    refine px_step (pc' := 16) (st' := [.int 3, .int (Int32.ofNat K), .int 790386105]) rfl rfl rfl ?_
    refine px_step (pc' := 17) (st' := [.int (Int32.ofNat K + 3), .int 790386105]) rfl rfl rfl ?_
    refine px_step (pc' := 18) (st' := [.int (790386105 * (Int32.ofNat K + 3))]) rfl rfl rfl ?_
    unfold cel at kk
    rw [if_neg (by omega)] at kk
    exact px_ret rfl rfl (xex_int rfl) kk
  · have hb := xN (xc_ge _ _) hb
    rw [i32_to (by omega), i32_to (by omega)] at hb
    refine px_step (pc' := 7) (st' := [.ref 0]) rfl rfl rfl ?_
    refine px_step (pc' := 8) (st' := [.int (Int32.ofNat K), .ref 0]) rfl rfl rfl ?_
    refine px_step (pc' := 9) (lv' := [(0, .ref 0), (1, .int (Int32.ofNat K))]) (st' := [.int (scl.getD K 0)]) (h' := h) (ks' := ks) rfl rfl ?_ ?_
    · show (match xix (Int32.ofNat K) scl.length with | some k => some (8 + 1, [(0, Value.ref 0), (1, .int (Int32.ofNat K))], [Value.int (scl.getD k 0)], h, ks) | none => none) = _
      rw [xix_ok (by rw [i32_to (by omega)]; omega) (by rw [i32_to (by omega)]; omega), i32_to (by omega)]
      dsimp only
      rw [Int.toNat_natCast]
    · refine px_step (pc' := 18) (st' := [.int (scl.getD K 0)]) rfl rfl rfl ?_
      unfold cel at kk
      rw [if_pos (by omega)] at kk
      exact px_ret rfl rfl (xex_int rfl) kk
/-- a draw: number D, below N -/
def drw (scl : List Int32) (D N : Nat) : Nat := psN ((cel scl (D % 24) >>> (Int32.ofNat (D / 24 % 8) &&& 31)) + 353 * Int32.ofNat D) % N
theorem drw_lt {scl : List Int32} {D N : Nat} (hN : 0 < N) : drw scl D N < N := Nat.mod_lt _ hN
set_option maxHeartbeats 1000000 in
theorem cx_draw {a D N : Nat} {F : List Value} (hD : D < 10000) (hN : 0 < N) (hN2 : N < 1000) (hs : scl.length < 100000) (hg : xget h a = some (10, F)) (hF1 : F[1]? = some (.ref 0)) (hF2 : F[2]? = some (.int (Int32.ofNat D))) (kk : Φ (none, some (.int (Int32.ofNat (drw scl D N))), xset h a (10, F.set 2 (.int (Int32.ofNat (D + 1)))), ks)) : Qx (some scl) 79 [.ref a, .int (Int32.ofNat N)] h ks Φ := by
  have hlt : 2 < F.length := (List.getElem?_eq_some_iff.mp hF2).1
  refine Qx.of (Or.inl rfl) (Nat.le_of_ble_eq_true rfl) ?_
  refine px_step (pc' := 1) (lv' := [(0, .ref a), (1, .int (Int32.ofNat N))]) (st' := [.ref a]) rfl rfl rfl ?_
  refine px_gf rfl rfl hg hF1 ?_
  refine px_step (pc' := 5) (st' := [.ref a, .ref 0]) rfl rfl rfl ?_
  refine px_gf rfl rfl hg hF2 ?_
  refine px_step (pc' := 10) (st' := [.int (Int32.ofNat 24), .int (Int32.ofNat D), .ref 0]) rfl rfl rfl ?_
  refine px_step (pc' := 11) (st' := [.int (Int32.ofNat (D % 24)), .ref 0]) rfl rfl (by rw [← remN (a := D) (b := 24) (by omega) (by decide) (by decide)]; rfl) ?_
  refine px_sn rfl rfl rfl rfl (cx_cell (by omega) hs ?_)
  show Px (some scl) (some scl) 79 14 _ [.int (cel scl (D % 24))] h ks Φ
  refine px_step (pc' := 15) (st' := [.ref a, .int (cel scl (D % 24))]) rfl rfl rfl ?_
  refine px_gf rfl rfl hg hF2 ?_
  refine px_step (pc' := 20) (st' := [.int (Int32.ofNat 24), .int (Int32.ofNat D), .int (cel scl (D % 24))]) rfl rfl rfl ?_
  refine px_step (pc' := 21) (st' := [.int (Int32.ofNat (D / 24)), .int (cel scl (D % 24))]) rfl rfl (by rw [← divN (a := D) (b := 24) (by omega) (by decide) (by decide)]; rfl) ?_
  refine px_step (pc' := 23) (st' := [.int (Int32.ofNat 8), .int (Int32.ofNat (D / 24)), .int (cel scl (D % 24))]) rfl rfl rfl ?_
  refine px_step (pc' := 24) (st' := [.int (Int32.ofNat (D / 24 % 8)), .int (cel scl (D % 24))]) rfl rfl (by rw [← remN (a := D / 24) (b := 8) (by omega) (by decide) (by decide)]; rfl) ?_
  refine px_step (pc' := 25) (st' := [.int (cel scl (D % 24) >>> (Int32.ofNat (D / 24 % 8) &&& 31))]) rfl rfl rfl ?_
  refine px_step (pc' := 28) (st' := [.int 353, .int (cel scl (D % 24) >>> (Int32.ofNat (D / 24 % 8) &&& 31))]) rfl rfl rfl ?_
  refine px_step (pc' := 29) (st' := [.ref a, .int 353, .int (cel scl (D % 24) >>> (Int32.ofNat (D / 24 % 8) &&& 31))]) rfl rfl rfl ?_
  refine px_gf rfl rfl hg hF2 ?_
  refine px_step (pc' := 33) (st' := [.int (353 * Int32.ofNat D), .int (cel scl (D % 24) >>> (Int32.ofNat (D / 24 % 8) &&& 31))]) rfl rfl rfl ?_
  refine px_step (pc' := 34) (st' := [.int ((cel scl (D % 24) >>> (Int32.ofNat (D / 24 % 8) &&& 31)) + 353 * Int32.ofNat D)]) rfl rfl rfl ?_
  refine px_step (pc' := 35) (st' := [.int (Int32.ofNat N), .int ((cel scl (D % 24) >>> (Int32.ofNat (D / 24 % 8) &&& 31)) + 353 * Int32.ofNat D)]) rfl rfl rfl ?_
  refine px_sn rfl rfl rfl rfl (cx_below hN hN2 ?_)
  show Px (some scl) (some scl) 79 38 _ [.int (Int32.ofNat (drw scl D N))] h ks Φ
  refine px_step (pc' := 39) (lv' := [(2, .int (Int32.ofNat (drw scl D N))), (0, .ref a), (1, .int (Int32.ofNat N))]) (st' := []) rfl rfl rfl ?_
  refine px_step (pc' := 40) (st' := [.ref a]) rfl rfl rfl ?_
  refine px_step (pc' := 41) (st' := [.ref a, .ref a]) rfl rfl rfl ?_
  refine px_gf rfl rfl hg hF2 ?_
  refine px_step (pc' := 45) (st' := [.int 1, .int (Int32.ofNat D), .ref a]) rfl rfl rfl ?_
  refine px_step (pc' := 46) (st' := [.int (Int32.ofNat (D + 1)), .ref a]) rfl rfl (by rw [← i32_s]; rfl) ?_
  refine px_pf rfl rfl hg rfl hlt rfl rfl (Or.inl rfl) ?_
  refine px_step (pc' := 50) (st' := [.int (Int32.ofNat (drw scl D N))]) rfl rfl rfl ?_
  exact px_ret rfl rfl (xex_int rfl) kk
theorem has_tab : ∀ p, p < 128 → ∀ k, k < 10 → (bif xcmp .ne ((Int32.ofNat p >>> (Int32.ofNat k &&& 31)) - (Int32.ofNat p >>> (Int32.ofNat k &&& 31)) / 2 * 2) 1 then (0 : Int32) else 1) = hd (Int32.ofNat p) (Int32.ofNat k) := by decide +kernel
theorem cx_has {p k : Nat} (hp : p < 128) (hk : k < 10) (kk : Φ (none, some (.int (hd (Int32.ofNat p) (Int32.ofNat k))), h, ks)) : Qx sd 83 [.int (Int32.ofNat p), .int (Int32.ofNat k)] h ks Φ := by
  have ht := has_tab p hp k hk
  refine Qx.of (Or.inl rfl) (Nat.le_of_ble_eq_true rfl) ?_
  refine px_step (pc' := 1) (lv' := [(0, .int (Int32.ofNat p)), (1, .int (Int32.ofNat k))]) (st' := [.int (Int32.ofNat p)]) rfl rfl rfl ?_
  refine px_step (pc' := 2) (st' := [.int (Int32.ofNat k), .int (Int32.ofNat p)]) rfl rfl rfl ?_
  refine px_step (pc' := 3) (st' := [.int (Int32.ofNat p >>> (Int32.ofNat k &&& 31))]) rfl rfl rfl ?_
  refine px_step (pc' := 4) (st' := [.int 2, .int (Int32.ofNat p >>> (Int32.ofNat k &&& 31))]) rfl rfl rfl ?_
  refine px_step (pc' := 5) (st' := [.int ((Int32.ofNat p >>> (Int32.ofNat k &&& 31)) - (Int32.ofNat p >>> (Int32.ofNat k &&& 31)) / 2 * 2)]) rfl rfl rfl ?_
  refine px_step (pc' := 6) (st' := [.int 1, .int ((Int32.ofNat p >>> (Int32.ofNat k &&& 31)) - (Int32.ofNat p >>> (Int32.ofNat k &&& 31)) / 2 * 2)]) rfl rfl rfl ?_
  refine px_icmp rfl rfl (fun hb => ?_) (fun hb => ?_)
  · rw [hb] at ht
    refine px_step (pc' := 14) (st' := [.int 0]) rfl rfl rfl ?_
    refine px_ret rfl rfl (xex_bool rfl (Or.inl rfl)) ?_
    rw [show hd (Int32.ofNat p) (Int32.ofNat k) = 0 from ht.symm] at kk
    exact kk
  · rw [hb] at ht
    refine px_step (pc' := 10) (st' := [.int 1]) rfl rfl rfl ?_
    refine px_step (pc' := 14) (st' := [.int 1]) rfl rfl rfl ?_
    refine px_ret rfl rfl (xex_bool rfl (Or.inr rfl)) ?_
    rw [show hd (Int32.ofNat p) (Int32.ofNat k) = 1 from ht.symm] at kk
    exact kk
def pcn : Nat → Nat → Nat
  | 0, _ => 0
  | f + 1, p => p % 2 + pcn f (p / 2)
theorem pcn_tab : ∀ p, p < 128 → Int32.ofNat (pcn 7 p) = bc6 (Int32.ofNat p) := by decide +kernel
theorem half_tab : ∀ p, p < 128 → (Int32.ofNat p &&& 1) = Int32.ofNat (p % 2) ∧ (Int32.ofNat p >>> (1 &&& 31)) = Int32.ofNat (p / 2) := by decide +kernel
theorem lz_many {p0 : Int32} : ∀ (f p a : Nat), p < 2 ^ f → f ≤ 7 → Φ (none, some (.int (Int32.ofNat (a + pcn f p))), h, ks) → Px sd sd 105 4 [(2, .int (Int32.ofNat p)), (1, .int (Int32.ofNat a)), (0, .int p0)] [] h ks Φ := by
  intro f
  induction f with
  | zero =>
    intro p a hp hf kk
    have hp0 : p = 0 := by simpa using hp
    subst hp0
    refine px_step (pc' := 5) (st' := [.int (Int32.ofNat 0)]) rfl rfl rfl ?_
    refine px_if rfl rfl (fun hb => ?_) (fun hb => by cases hb)
    refine px_step (pc' := 22) (st' := [.int (Int32.ofNat a)]) rfl rfl rfl ?_
    exact px_ret rfl rfl (xex_int rfl) kk
  | succ f ih =>
    intro p a hp hf kk
    have hpow : 2 ^ f ≤ 64 := by
      have : 2 ^ f ≤ 2 ^ 6 := Nat.pow_le_pow_right (by decide) (by omega)
      simpa using this
    have hp2 : p < 2 * 2 ^ f := by
      rw [Nat.pow_succ] at hp
      omega
    obtain ⟨t1, t2⟩ := half_tab p (by omega)
    refine px_step (pc' := 5) (st' := [.int (Int32.ofNat p)]) rfl rfl rfl ?_
    refine px_if rfl rfl (fun hb => ?_) (fun hb => ?_)
    · have hb := xT (xc_le _ _) hb
      rw [i32_to (by omega), Int32.toInt_zero] at hb
      have hp0 : p = 0 := by omega
      subst hp0
      refine px_step (pc' := 22) (st' := [.int (Int32.ofNat a)]) rfl rfl rfl ?_
      have e : ∀ g, pcn g 0 = 0 := by
        intro g
        induction g with
        | zero => rfl
        | succ g ihg =>
          show 0 % 2 + pcn g (0 / 2) = 0
          rw [show 0 / 2 = 0 from rfl, ihg]
      rw [e] at kk
      exact px_ret rfl rfl (xex_int rfl) kk
    · refine px_step (pc' := 9) (st' := [.int (Int32.ofNat a)]) rfl rfl rfl ?_
      refine px_step (pc' := 10) (st' := [.int (Int32.ofNat p), .int (Int32.ofNat a)]) rfl rfl rfl ?_
      refine px_step (pc' := 11) (st' := [.int 1, .int (Int32.ofNat p), .int (Int32.ofNat a)]) rfl rfl rfl ?_
      refine px_step (pc' := 12) (st' := [.int (Int32.ofNat (p % 2)), .int (Int32.ofNat a)]) rfl rfl (by rw [← t1]; rfl) ?_
      refine px_step (pc' := 13) (st' := [.int (Int32.ofNat (a + p % 2))]) rfl rfl (by rw [Int32.ofNat_add]; rfl) ?_
      refine px_step (pc' := 14) (lv' := [(1, .int (Int32.ofNat (a + p % 2))), (2, .int (Int32.ofNat p)), (0, .int p0)]) (st' := []) rfl rfl rfl ?_
      refine px_step (pc' := 15) (st' := [.int (Int32.ofNat p)]) rfl rfl rfl ?_
      refine px_step (pc' := 16) (st' := [.int 1, .int (Int32.ofNat p)]) rfl rfl rfl ?_
      refine px_step (pc' := 17) (st' := [.int (Int32.ofNat (p / 2))]) rfl rfl (by rw [← t2]; rfl) ?_
      refine px_step (pc' := 18) (lv' := [(2, .int (Int32.ofNat (p / 2))), (1, .int (Int32.ofNat (a + p % 2))), (0, .int p0)]) (st' := []) rfl rfl rfl ?_
      refine px_step (pc' := 4) (st' := []) rfl rfl rfl ?_
      refine ih (p / 2) (a + p % 2) (by omega) (by omega) ?_
      rw [Nat.add_assoc]
      exact kk
theorem cx_many {p : Nat} (hp : p < 128) (kk : Φ (none, some (.int (bc6 (Int32.ofNat p))), h, ks)) : Qx sd 105 [.int (Int32.ofNat p)] h ks Φ := by
  refine Qx.of (Or.inl rfl) (Nat.le_of_ble_eq_true rfl) ?_
  refine px_step (pc' := 1) (lv' := [(0, .int (Int32.ofNat p))]) (st' := [.int (Int32.ofNat 0)]) rfl rfl rfl ?_
  refine px_step (pc' := 2) (lv' := [(1, .int (Int32.ofNat 0)), (0, .int (Int32.ofNat p))]) (st' := []) rfl rfl rfl ?_
  refine px_step (pc' := 3) (st' := [.int (Int32.ofNat p)]) rfl rfl rfl ?_
  refine px_step (pc' := 4) (lv' := [(2, .int (Int32.ofNat p)), (1, .int (Int32.ofNat 0)), (0, .int (Int32.ofNat p))]) (st' := []) rfl rfl rfl ?_
  refine lz_many 7 p 0 hp (Nat.le_refl _) ?_
  rw [Nat.zero_add, pcn_tab p hp]
  exact kk
/-- numbers as values -/
abbrev ivs (l : List Int32) : List Value := l.map Value.int
theorem ivs_all (l : List Int32) : (ivs l).all xisI = true := by
  induction l with
  | nil => rfl
  | cons a r ih =>
    show (xisI (.int a) && (ivs r).all xisI) = true
    rw [ih]
    rfl
theorem cx_plus {q : Nat} {l : List Int32} {v : Int32} (hq : xget h q = some (100, ivs l)) (hl : l.length < 1000) (kk : Φ (none, some (.ref (h.length + 4)), h ++ [(100, ivs (l ++ [v]))], ks + (l.length + 1))) : Qx sd 91 [.ref q, .int v] h ks Φ := by
  have hql := (xget_lt hq).2
  have hlen : (ivs l).length = l.length := by simp
  refine Qx.of (Or.inl rfl) (Nat.le_of_ble_eq_true rfl) ?_
  refine px_step (pc' := 1) (lv' := [(0, .ref q), (1, .int v)]) (st' := [.ref q]) rfl rfl rfl ?_
  refine px_al rfl hq (by decide) ?_
  rw [hlen]
  refine px_step (pc' := 3) (st' := [.int 1, .int (Int32.ofNat l.length)]) rfl rfl rfl ?_
  refine px_step (pc' := 4) (st' := [.int (Int32.ofNat (l.length + 1))]) rfl rfl (by rw [← i32_s]; rfl) ?_
  refine px_nai rfl (by omega) ?_
  refine px_step (pc' := 7) (lv' := [(2, .ref (h.length + 4)), (0, .ref q), (1, .int v)]) (st' := []) rfl rfl rfl ?_
  refine px_step (pc' := 8) (st' := [.ref q]) rfl rfl rfl ?_
  refine px_step (pc' := 9) (st' := [.int 0, .ref q]) rfl rfl rfl ?_
  refine px_step (pc' := 10) (st' := [.ref (h.length + 4), .int 0, .ref q]) rfl rfl rfl ?_
  refine px_step (pc' := 11) (st' := [.int 0, .ref (h.length + 4), .int 0, .ref q]) rfl rfl rfl ?_
  refine px_step (pc' := 12) (st' := [.ref q, .int 0, .ref (h.length + 4), .int 0, .ref q]) rfl rfl rfl ?_
  have hq2 : xget (h ++ [(100, List.replicate (l.length + 1) (Value.int 0))]) q = some (100, ivs l) := (xapp_old hql).trans hq
  refine px_al rfl hq2 (by decide) ?_
  rw [hlen]
  have hn2 : xget (h ++ [(100, List.replicate (l.length + 1) (Value.int 0))]) (h.length + 4) = some (100, List.replicate (l.length + 1) (Value.int 0)) := xapp_new h _ 0
  refine px_cpy (rest := []) (h' := h ++ [(100, ivs l ++ [.int 0])]) rfl rfl rfl ?_ ?_
  · show (match xget (h ++ [(100, List.replicate (l.length + 1) (Value.int 0))]) q, xget (h ++ [(100, List.replicate (l.length + 1) (Value.int 0))]) (h.length + 4) with
      | some (t0, us), some (t1, vs) => _
      | _, _ => none) = _
    rw [hq2, hn2]
    have e1 : (Int32.ofNat l.length).toNatClampNeg = l.length := by
      show (Int32.ofNat l.length).toInt.toNat = _
      rw [i32_to (by omega)]
      omega
    dsimp only
    rw [e1, if_pos ⟨rfl, rfl, rfl, rfl, by rw [Int32.lt_iff_toInt_lt, i32_to (by omega)]; show ¬ ((l.length : Int) < 0); omega, by rw [hlen]; exact Nat.le_refl _, by simp, ivs_all l, by decide, by decide⟩]
    congr 2
    have := ha_set h [(100, List.replicate (l.length + 1) (Value.int 0))] 0 (100, (ivs l).take l.length ++ (List.replicate (l.length + 1) (Value.int 0)).drop l.length)
    rw [show h.length + 4 + 0 = h.length + 4 from rfl] at this
    rw [this]
    congr 1
    rw [List.set_cons_zero]
    congr 2
    rw [List.take_of_length_le (by rw [hlen]; exact Nat.le_refl _), List.drop_replicate, show l.length + 1 - l.length = 1 by omega]
    rfl
  · have hq3 : xget (h ++ [(100, ivs l ++ [Value.int 0])]) q = some (100, ivs l) := (xapp_old hql).trans hq
    have hn3 : xget (h ++ [(100, ivs l ++ [Value.int 0])]) (h.length + 4) = some (100, ivs l ++ [Value.int 0]) := xapp_new h _ 0
    refine px_step (pc' := 17) (st' := [.ref (h.length + 4)]) rfl rfl rfl ?_
    refine px_step (pc' := 18) (st' := [.ref q, .ref (h.length + 4)]) rfl rfl rfl ?_
    refine px_al rfl hq3 (by decide) ?_
    rw [hlen]
    refine px_step (pc' := 20) (st' := [.int v, .int (Int32.ofNat l.length), .ref (h.length + 4)]) rfl rfl rfl ?_
    refine px_ias rfl hn3 (by simp; omega) (by simp) ?_
    refine px_step (pc' := 22) (st' := [.ref (h.length + 4)]) rfl rfl rfl ?_
    refine px_ret (r := some (.ref (h.length + 4))) rfl rfl rfl ?_
    have e9 : xset (h ++ [(100, ivs l ++ [Value.int 0])]) (h.length + 4) (100, (ivs l ++ [Value.int 0]).set l.length (.int v)) = h ++ [(100, ivs (l ++ [v]))] := by
      have := ha_set h [(100, ivs l ++ [Value.int 0])] 0 (100, (ivs l ++ [Value.int 0]).set l.length (.int v))
      rw [show h.length + 4 + 0 = h.length + 4 from rfl] at this
      rw [this, List.set_cons_zero, List.set_append, if_neg (by rw [hlen]; omega), hlen, Nat.sub_self]
      simp [ivs]
    rw [e9]
    exact kk
end YAI
