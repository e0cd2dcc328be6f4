/-! p1: the law's head; closed calls -/
section XP2
def xfin (o : xO) : Prop := ∃ h' ks', o = (none, some (.int 1), h', ks') ∧ h'.length ≤ 1000 ∧ ks' ≤ 100000
set_option maxRecDepth 100000 in
theorem p1_head {x0 x1 x2 x3 x4 x5 v : Int32} {pc : Nat} (hx : x0 &&& 31 = v) (ht : xstep (xmo xlaw) (xml xlaw) (xini xlaw) (some [x0, x1, x2, x3, x4, x5]) (.tableswitch 1679 0 24 #[116, 172, 228, 296, 364, 408, 488, 532, 576, 656, 724, 827, 871, 939, 1007, 1075, 1155, 1235, 1303, 1359, 1400, 1504, 1584, 1652, 1665]) 40 [(4, .int 0), (3, .ref 158), (2, .ref 78), (1, .ref 4), (0, .ref 0)] [.int v] xf3 (xf2k + 1) = some (pc, [(4, .int 0), (3, .ref 158), (2, .ref 78), (1, .ref 4), (0, .ref 0)], [], xf3, xf2k + 1))
    (k : Px none (some [x0, x1, x2, x3, x4, x5]) xlaw pc [(4, .int 0), (3, .ref 158), (2, .ref 78), (1, .ref 4), (0, .ref 0)] [] xf3 (xf2k + 1) xfin) : Px none (some [x0, x1, x2, x3, x4, x5]) xlaw 23 [(4, .int 0), (3, .ref 158), (2, .ref 78), (1, .ref 4), (0, .ref 0)] [] xf3 (xf2k + 1) xfin := by
  refine px_step (pc' := 25) (st' := [.int 0]) rfl rfl rfl ?_
  refine px_step (pc' := 26) (st' := [.ref 0, .int 0]) rfl rfl rfl ?_
  refine px_step (pc' := 27) (st' := [.int 6, .int 0]) rfl rfl rfl ?_
  refine px_step (pc' := 29) (st' := [.int 6, .int 6, .int 0]) rfl rfl rfl ?_
  refine px_step (pc' := 30) (st' := [.int 0, .int 0]) rfl rfl rfl ?_
  refine px_step (pc' := 33) (st' := []) rfl rfl rfl ?_
  refine px_step (pc' := 34) (st' := [.ref 0]) rfl rfl rfl ?_
  refine px_step (pc' := 36) (st' := [.int 0, .ref 0]) rfl rfl rfl ?_
  refine px_step (pc' := 37) (st' := [.int x0]) rfl rfl rfl ?_
  refine px_step (pc' := 39) (st' := [.int 31, .int x0]) rfl rfl rfl ?_
  refine px_step (pc' := 40) (st' := [.int v]) rfl rfl (by rw [← hx]; rfl) ?_
  exact px_step rfl rfl ht k
end XP2
section XCI
def xoi (o : Option xO) (v : Int32) (h : xH) (ks : Nat) : Bool := match o with
  | some (none, some (.int w), h', ks') => decide (w = v) && (xheq h' h && Nat.beq ks' ks)
  | _ => false
theorem xoi_ok {o : Option xO} {v : Int32} {h : xH} {ks : Nat} (e : xoi o v h ks = true) : o = some (none, some (.int v), h, ks) := by
  unfold xoi at e
  split at e
  · rw [Bool.and_eq_true, Bool.and_eq_true] at e
    rw [of_decide_eq_true e.1, xheq_ok e.2.1, Nat.eq_of_beq_eq_true e.2.2]
  · cases e
theorem cl_i {sd : Option (List Int32)} {F d μ : Nat} {as : List Value} {h : xH} {ks : Nat} {v : Int32} {h2 : xH} {ks2 : Nat} (e : xoi (xcall F sd d μ as h ks) v h2 ks2 = true) : Cx sd μ as h ks (none, some (.int v), h2, ks2) := ⟨F, d, xoi_ok e⟩
end XCI
section XBC
theorem xex_int {μ : Nat} {v : Int32} (h : xmr μ = some .int) : xexit μ .ireturn [.int v] = some (some (.int v)) := by
  unfold xexit
  dsimp only
  rw [h]
  dsimp only
  rw [if_pos (show narrow FieldType.int (.int v) = .int v from rfl)]
variable {sd sc : Option (List Int32)} {μ pc : Nat} {lv : xL} {st : List Value} {h : xH} {ks : Nat} {Φ : xO → Prop} {out : xO}
theorem lx_ri {v : Int32} (hi : (xmc μ)[pc]? = some (some .ireturn)) (hm : xmr μ = some .int) : Lx sd sc μ pc lv [.int v] h ks (none, some (.int v), h, ks) := lx_ret hi rfl (xex_int hm)
theorem px_ri {v : Int32} (hi : (xmc μ)[pc]? = some (some .ireturn)) (hm : xmr μ = some .int) (k : Φ (none, some (.int v), h, ks)) : Px sd sc μ pc lv [.int v] h ks Φ := px_ret hi rfl (xex_int hm) k
theorem px_tsd {d lo hi : Int} {offs : Array Int} {x : Int32} {t : Nat} (hi9 : (xmc μ)[pc]? = some (some (.tableswitch d lo hi offs))) (ht : xj pc d = some t) (hx : x.toInt < lo ∨ hi < x.toInt) (k : Px sd sc μ t lv st h ks Φ) : Px sd sc μ pc lv (.int x :: st) h ks Φ := by
  refine px_step hi9 rfl ?_ k
  unfold xstep
  dsimp only
  rw [ht]
  by_cases h1 : x.toInt < lo
  · rw [if_pos h1]
  · rw [if_neg h1, if_pos (hx.resolve_left h1)]
def bcS (v : Int32) (k : Int32) : Int32 := (v.toUInt32 >>> (k.toUInt32 &&& Int32.toUInt32 31)).toInt32
def bc1 (v : Int32) : Int32 := v - (bcS v (Int32.ofInt 1) &&& 1431655765)
def bc2 (v : Int32) : Int32 := (bc1 v &&& 858993459) + (bcS (bc1 v) (Int32.ofInt 2) &&& 858993459)
def bc3 (v : Int32) : Int32 := (bc2 v + bcS (bc2 v) (Int32.ofInt 4)) &&& 252645135
def bc4 (v : Int32) : Int32 := bc3 v + bcS (bc3 v) (Int8.ofInt 8).toInt32
def bc5 (v : Int32) : Int32 := bc4 v + bcS (bc4 v) (Int8.ofInt 16).toInt32
def bc6 (v : Int32) : Int32 := bc5 v &&& (Int8.ofInt 63).toInt32
set_option maxRecDepth 100000 in
theorem bc_ok (sc : Option (List Int32)) (v : Int32) (h : xH) (ks : Nat) : Cx sc 17 [.int v] h ks (none, some (.int (bc6 v)), h, ks) := by
  refine Cx.of (Or.inl rfl) (Nat.le_of_ble_eq_true rfl) ?_
  refine lx_step (pc' := 1) rfl rfl rfl ?_
  refine lx_step (pc' := 2) rfl rfl rfl ?_
  refine lx_step (pc' := 3) rfl rfl rfl ?_
  refine lx_step (pc' := 4) rfl rfl rfl ?_
  refine lx_step (pc' := 7) rfl rfl rfl ?_
  refine lx_step (pc' := 8) rfl rfl rfl ?_
  refine lx_step (pc' := 9) rfl rfl rfl ?_
  refine lx_step (pc' := 10) (lv' := [(0, .int (bc1 v))]) (st' := []) rfl rfl rfl ?_
  refine lx_step (pc' := 11) rfl rfl rfl ?_
  refine lx_step (pc' := 14) rfl rfl rfl ?_
  refine lx_step (pc' := 15) rfl rfl rfl ?_
  refine lx_step (pc' := 16) rfl rfl rfl ?_
  refine lx_step (pc' := 17) rfl rfl rfl ?_
  refine lx_step (pc' := 18) rfl rfl rfl ?_
  refine lx_step (pc' := 21) rfl rfl rfl ?_
  refine lx_step (pc' := 22) rfl rfl rfl ?_
  refine lx_step (pc' := 23) rfl rfl rfl ?_
  refine lx_step (pc' := 24) (lv' := [(0, .int (bc2 v))]) (st' := []) rfl rfl rfl ?_
  refine lx_step (pc' := 25) rfl rfl rfl ?_
  refine lx_step (pc' := 26) rfl rfl rfl ?_
  refine lx_step (pc' := 27) rfl rfl rfl ?_
  refine lx_step (pc' := 28) rfl rfl rfl ?_
  refine lx_step (pc' := 29) rfl rfl rfl ?_
  refine lx_step (pc' := 32) rfl rfl rfl ?_
  refine lx_step (pc' := 33) rfl rfl rfl ?_
  refine lx_step (pc' := 34) (lv' := [(0, .int (bc3 v))]) (st' := []) rfl rfl rfl ?_
  refine lx_step (pc' := 35) rfl rfl rfl ?_
  refine lx_step (pc' := 36) rfl rfl rfl ?_
  refine lx_step (pc' := 38) rfl rfl rfl ?_
  refine lx_step (pc' := 39) rfl rfl rfl ?_
  refine lx_step (pc' := 40) rfl rfl rfl ?_
  refine lx_step (pc' := 41) (lv' := [(0, .int (bc4 v))]) (st' := []) rfl rfl rfl ?_
  refine lx_step (pc' := 42) rfl rfl rfl ?_
  refine lx_step (pc' := 43) rfl rfl rfl ?_
  refine lx_step (pc' := 45) rfl rfl rfl ?_
  refine lx_step (pc' := 46) rfl rfl rfl ?_
  refine lx_step (pc' := 47) rfl rfl rfl ?_
  refine lx_step (pc' := 48) (lv' := [(0, .int (bc5 v))]) (st' := []) rfl rfl rfl ?_
  refine lx_step (pc' := 49) rfl rfl rfl ?_
  refine lx_step (pc' := 51) rfl rfl rfl ?_
  refine lx_step (pc' := 52) rfl rfl rfl ?_
  exact lx_ri rfl rfl
end XBC
