/-! the code lists are the bytes -/
section XDC
def xchk (b : ByteArray) : Nat → List (Option Instr) → Bool
  | _, [] => true
  | pc, none :: r => xchk b (pc + 1) r
  | pc, some i :: r => (match decode b pc with
    | .ok (j, n) => decide (j = i) && (decide (xlen i = 0) || decide (n = xlen i))
    | .error _ => false) && xchk b (pc + 1) r
theorem xchk_ok {b : ByteArray} : ∀ {l : List (Option Instr)} {pc k : Nat} {i : Instr}, xchk b pc l = true → l[k]? = some (some i) → ∃ len, decode b (pc + k) = .ok (i, len) ∧ (xlen i = 0 ∨ len = xlen i)
  | [], _, _, _, _, h => by simp at h
  | none :: r, pc, 0, i, _, h => by simp at h
  | none :: r, pc, k + 1, i, hc, h => by
    have := xchk_ok (l := r) (pc := pc + 1) (k := k) hc (by simpa using h)
    rw [show pc + (k + 1) = pc + 1 + k by omega]
    exact this
  | some j :: r, pc, 0, i, hc, h => by
    simp only [List.getElem?_cons_zero, Option.some.injEq] at h
    subst h
    unfold xchk at hc
    rw [Bool.and_eq_true] at hc
    have hc := hc.1
    split at hc
    · rename_i j2 n hd
      simp only [Bool.and_eq_true, Bool.or_eq_true, decide_eq_true_eq] at hc
      obtain ⟨rfl, h2⟩ := hc
      exact ⟨n, hd, h2⟩
    · cases hc
  | some j :: r, pc, k + 1, i, hc, h => by
    unfold xchk at hc
    rw [Bool.and_eq_true] at hc
    have := xchk_ok (l := r) (pc := pc + 1) (k := k) hc.2 (by simpa using h)
    rw [show pc + (k + 1) = pc + 1 + k by omega]
    exact this
theorem xchk_app {b : ByteArray} : ∀ {l1 l2 : List (Option Instr)} {pc : Nat}, xchk b pc l1 = true → xchk b (pc + l1.length) l2 = true → xchk b pc (l1 ++ l2) = true
  | [], _, pc, _, h => h
  | none :: r, l2, pc, h1, h2 => xchk_app (l1 := r) (pc := pc + 1) h1 (by rw [List.length_cons] at h2; rw [show pc + 1 + r.length = pc + (r.length + 1) by omega]; exact h2)
  | some i :: r, l2, pc, h1, h2 => by
    rw [List.cons_append]
    unfold xchk at h1 ⊢
    rw [Bool.and_eq_true] at h1 ⊢
    exact ⟨h1.1, xchk_app (l1 := r) (pc := pc + 1) h1.2 (by rw [List.length_cons] at h2; rw [show pc + 1 + r.length = pc + (r.length + 1) by omega]; exact h2)⟩
set_option maxRecDepth 100000 in
theorem xdc0 : xchk (xmb 0) 0 (xmc 0) = true := by decide +kernel
set_option maxRecDepth 100000 in
theorem xdc1 : xchk (xmb 1) 0 (xmc 1) = true := by decide +kernel
set_option maxRecDepth 100000 in
theorem xdc2 : xchk (xmb 2) 0 (xmc 2) = true := by decide +kernel
set_option maxRecDepth 100000 in
theorem xdc3 : xchk (xmb 3) 0 (xmc 3) = true := by decide +kernel
set_option maxRecDepth 100000 in
theorem xdc4 : xchk (xmb 4) 0 (xmc 4) = true := by decide +kernel
set_option maxRecDepth 100000 in
theorem xdc5 : xchk (xmb 5) 0 (xmc 5) = true := by decide +kernel
set_option maxRecDepth 100000 in
theorem xdc6 : xchk (xmb 6) 0 (xmc 6) = true := by decide +kernel
set_option maxRecDepth 100000 in
theorem xdc7 : xchk (xmb 7) 0 (xmc 7) = true := by decide +kernel
set_option maxRecDepth 100000 in
theorem xdc8 : xchk (xmb 8) 0 (xmc 8) = true := by decide +kernel
set_option maxRecDepth 100000 in
theorem xdc9 : xchk (xmb 9) 0 (xmc 9) = true := by decide +kernel
set_option maxRecDepth 100000 in
theorem xdc10 : xchk (xmb 10) 0 (xmc 10) = true := by decide +kernel
set_option maxRecDepth 100000 in
theorem xdc11 : xchk (xmb 11) 0 (xmc 11) = true := by decide +kernel
set_option maxRecDepth 100000 in
theorem xdc12 : xchk (xmb 12) 0 (xmc 12) = true := by decide +kernel
set_option maxRecDepth 100000 in
theorem xdc13 : xchk (xmb 13) 0 (xmc 13) = true := by decide +kernel
set_option maxRecDepth 100000 in
theorem xdc14 : xchk (xmb 14) 0 (xmc 14) = true := by decide +kernel
set_option maxRecDepth 100000 in
theorem xdc15 : xchk (xmb 15) 0 (xmc 15) = true := by decide +kernel
set_option maxRecDepth 100000 in
theorem xdc16 : xchk (xmb 16) 0 (xmc 16) = true := by decide +kernel
set_option maxRecDepth 100000 in
theorem xdc17 : xchk (xmb 17) 0 (xmc 17) = true := by decide +kernel
set_option maxRecDepth 100000 in
theorem xdc18 : xchk (xmb 18) 0 (xmc 18) = true := by decide +kernel
set_option maxRecDepth 100000 in
theorem xdc19 : xchk (xmb 19) 0 (xmc 19) = true := by decide +kernel
set_option maxRecDepth 100000 in
theorem xdc20 : xchk (xmb 20) 0 (xmc 20) = true := by decide +kernel
set_option maxRecDepth 100000 in
theorem xdc21 : xchk (xmb 21) 0 (xmc 21) = true := by decide +kernel
set_option maxRecDepth 100000 in
theorem xdc22 : xchk (xmb 22) 0 (xmc 22) = true := by decide +kernel
set_option maxRecDepth 100000 in
theorem xdc23 : xchk (xmb 23) 0 (xmc 23) = true := by decide +kernel
set_option maxRecDepth 100000 in
theorem xdc24 : xchk (xmb 24) 0 (xmc 24) = true := by decide +kernel
set_option maxRecDepth 100000 in
theorem xdc25 : xchk (xmb 25) 0 (xmc 25) = true := by decide +kernel
set_option maxRecDepth 100000 in
theorem xdc26 : xchk (xmb 26) 0 (xmc 26) = true := by decide +kernel
set_option maxRecDepth 100000 in
theorem xdc27 : xchk (xmb 27) 0 (xmc 27) = true := by decide +kernel
set_option maxRecDepth 100000 in
theorem xdc28 : xchk (xmb 28) 0 (xmc 28) = true := by decide +kernel
set_option maxRecDepth 100000 in
theorem xdc29 : xchk (xmb 29) 0 (xmc 29) = true := by decide +kernel
set_option maxRecDepth 100000 in
theorem xdc30 : xchk (xmb 30) 0 (xmc 30) = true := by decide +kernel
set_option maxRecDepth 100000 in
theorem xdc31 : xchk (xmb 31) 0 (xmc 31) = true := by decide +kernel
set_option maxRecDepth 100000 in
theorem xdc32 : xchk (xmb 32) 0 (xmc 32) = true := by decide +kernel
set_option maxRecDepth 100000 in
theorem xdc33 : xchk (xmb 33) 0 (xmc 33) = true := by decide +kernel
set_option maxRecDepth 100000 in
theorem xdc34 : xchk (xmb 34) 0 (xmc 34) = true := by decide +kernel
set_option maxRecDepth 100000 in
theorem xdc35 : xchk (xmb 35) 0 (xmc 35) = true := by decide +kernel
set_option maxRecDepth 100000 in
theorem xdc36 : xchk (xmb 36) 0 (xmc 36) = true := by decide +kernel
set_option maxRecDepth 100000 in
theorem xdc37 : xchk (xmb 37) 0 (xmc 37) = true := by decide +kernel
set_option maxRecDepth 100000 in
theorem xdc38 : xchk (xmb 38) 0 (xmc 38) = true := by decide +kernel
set_option maxRecDepth 100000 in
theorem xdc39 : xchk (xmb 39) 0 (xmc 39) = true := by decide +kernel
set_option maxRecDepth 100000 in
theorem xdc40 : xchk (xmb 40) 0 (xmc 40) = true := by decide +kernel
set_option maxRecDepth 100000 in
theorem xdc41 : xchk (xmb 41) 0 (xmc 41) = true := by decide +kernel
set_option maxRecDepth 100000 in
theorem xdc42 : xchk (xmb 42) 0 (xmc 42) = true := by decide +kernel
set_option maxRecDepth 100000 in
theorem xdc43 : xchk (xmb 43) 0 (xmc 43) = true := by decide +kernel
set_option maxRecDepth 100000 in
theorem xdc44 : xchk (xmb 44) 0 (xmc 44) = true := by decide +kernel
set_option maxRecDepth 100000 in
theorem xdc45 : xchk (xmb 45) 0 (xmc 45) = true := by decide +kernel
set_option maxRecDepth 100000 in
theorem xdc46 : xchk (xmb 46) 0 (xmc 46) = true := by decide +kernel
set_option maxRecDepth 100000 in
theorem xdc47 : xchk (xmb 47) 0 (xmc 47) = true := by decide +kernel
set_option maxRecDepth 100000 in
theorem xdc48 : xchk (xmb 48) 0 (xmc 48) = true := by decide +kernel
set_option maxRecDepth 100000 in
theorem xdc49 : xchk (xmb 49) 0 (xmc 49) = true := by decide +kernel
set_option maxRecDepth 100000 in
theorem xdc50 : xchk (xmb 50) 0 (xmc 50) = true := by decide +kernel
set_option maxRecDepth 100000 in
theorem xdc51 : xchk (xmb 51) 0 (xmc 51) = true := by decide +kernel
set_option maxRecDepth 100000 in
theorem xdc52 : xchk (xmb 52) 0 (xmc 52) = true := by decide +kernel
set_option maxRecDepth 100000 in
theorem xdc53 : xchk (xmb 53) 0 (xmc 53) = true := by decide +kernel
set_option maxRecDepth 100000 in
theorem xdc54 : xchk (xmb 54) 0 (xmc 54) = true := by decide +kernel
set_option maxRecDepth 100000 in
theorem xdc55 : xchk (xmb 55) 0 (xmc 55) = true := by decide +kernel
set_option maxRecDepth 100000 in
theorem xdc56 : xchk (xmb 56) 0 (xmc 56) = true := by decide +kernel
set_option maxRecDepth 100000 in
theorem xdc57 : xchk (xmb 57) 0 (xmc 57) = true := by decide +kernel
set_option maxRecDepth 100000 in
theorem xdc58 : xchk (xmb 58) 0 (xmc 58) = true := by decide +kernel
set_option maxRecDepth 100000 in
theorem xdc59 : xchk (xmb 59) 0 (xmc 59) = true := by decide +kernel
set_option maxRecDepth 100000 in
theorem xdc60 : xchk (xmb 60) 0 (xmc 60) = true := by decide +kernel
set_option maxRecDepth 100000 in
theorem xdc61 : xchk (xmb 61) 0 (xmc 61) = true := by decide +kernel
set_option maxRecDepth 100000 in
theorem xdc62 : xchk (xmb 62) 0 (xmc 62) = true := by decide +kernel
set_option maxRecDepth 100000 in
theorem xdc63 : xchk (xmb 63) 0 (xmc 63) = true := by decide +kernel
set_option maxRecDepth 100000 in
theorem xdc64 : xchk (xmb 64) 0 (xmc 64) = true := by decide +kernel
set_option maxRecDepth 100000 in
theorem xdc65 : xchk (xmb 65) 0 (xmc 65) = true := by decide +kernel
set_option maxRecDepth 100000 in
theorem xdc66 : xchk (xmb 66) 0 (xmc 66) = true := by decide +kernel
set_option maxRecDepth 100000 in
theorem xdc67 : xchk (xmb 67) 0 (xmc 67) = true := by decide +kernel
set_option maxRecDepth 100000 in
theorem xdc68 : xchk (xmb 68) 0 (xmc 68) = true := by decide +kernel
set_option maxRecDepth 100000 in
theorem xdc69 : xchk (xmb 69) 0 (xmc 69) = true := by decide +kernel
set_option maxRecDepth 100000 in
theorem xdc70 : xchk (xmb 70) 0 (xmc 70) = true := by decide +kernel
set_option maxRecDepth 100000 in
theorem xdc71 : xchk (xmb 71) 0 (xmc 71) = true := by decide +kernel
set_option maxRecDepth 100000 in
theorem xdc72 : xchk (xmb 72) 0 (xmc 72) = true := by decide +kernel
set_option maxRecDepth 100000 in
theorem xdc73 : xchk (xmb 73) 0 (xmc 73) = true := by decide +kernel
set_option maxRecDepth 100000 in
theorem xdc74 : xchk (xmb 74) 0 (xmc 74) = true := by decide +kernel
set_option maxRecDepth 100000 in
theorem xdc75 : xchk (xmb 75) 0 (xmc 75) = true := by decide +kernel
set_option maxRecDepth 100000 in
theorem xdc76 : xchk (xmb 76) 0 (xmc 76) = true := by decide +kernel
set_option maxRecDepth 100000 in
theorem xdc77 : xchk (xmb 77) 0 (xmc 77) = true := by decide +kernel
set_option maxRecDepth 100000 in
theorem xdc78 : xchk (xmb 78) 0 (xmc 78) = true := by decide +kernel
set_option maxRecDepth 100000 in
theorem xdc79 : xchk (xmb 79) 0 (xmc 79) = true := by decide +kernel
set_option maxRecDepth 100000 in
theorem xdc80 : xchk (xmb 80) 0 (xmc 80) = true := by decide +kernel
set_option maxRecDepth 100000 in
theorem xdc81 : xchk (xmb 81) 0 (xmc 81) = true := by decide +kernel
set_option maxRecDepth 100000 in
theorem xdc82 : xchk (xmb 82) 0 (xmc 82) = true := by decide +kernel
set_option maxRecDepth 100000 in
theorem xdc83 : xchk (xmb 83) 0 (xmc 83) = true := by decide +kernel
set_option maxRecDepth 100000 in
theorem xdc84 : xchk (xmb 84) 0 (xmc 84) = true := by decide +kernel
set_option maxRecDepth 100000 in
theorem xdc85 : xchk (xmb 85) 0 (xmc 85) = true := by decide +kernel
set_option maxRecDepth 100000 in
theorem xdc86 : xchk (xmb 86) 0 (xmc 86) = true := by decide +kernel
set_option maxRecDepth 100000 in
theorem xdc87 : xchk (xmb 87) 0 (xmc 87) = true := by decide +kernel
set_option maxRecDepth 100000 in
theorem xdc88 : xchk (xmb 88) 0 (xmc 88) = true := by decide +kernel
set_option maxRecDepth 100000 in
theorem xdc89 : xchk (xmb 89) 0 (xmc 89) = true := by decide +kernel
set_option maxRecDepth 100000 in
theorem xdc90 : xchk (xmb 90) 0 (xmc 90) = true := by decide +kernel
set_option maxRecDepth 100000 in
theorem xdc91 : xchk (xmb 91) 0 (xmc 91) = true := by decide +kernel
set_option maxRecDepth 100000 in
theorem xdc92 : xchk (xmb 92) 0 (xmc 92) = true := by decide +kernel
set_option maxRecDepth 100000 in
theorem xdc93 : xchk (xmb 93) 0 (xmc 93) = true := by decide +kernel
set_option maxRecDepth 100000 in
theorem xdc94 : xchk (xmb 94) 0 (xmc 94) = true := by decide +kernel
set_option maxRecDepth 100000 in
theorem xdc95 : xchk (xmb 95) 0 (xmc 95) = true := by decide +kernel
set_option maxRecDepth 100000 in
theorem xdc96 : xchk (xmb 96) 0 (xmc 96) = true := by decide +kernel
set_option maxRecDepth 100000 in
theorem xdc97 : xchk (xmb 97) 0 (xmc 97) = true := by decide +kernel
set_option maxRecDepth 100000 in
theorem xdc98 : xchk (xmb 98) 0 (xmc 98) = true := by decide +kernel
set_option maxRecDepth 100000 in
theorem xdc99 : xchk (xmb 99) 0 (xmc 99) = true := by decide +kernel
set_option maxRecDepth 100000 in
theorem xdc100 : xchk (xmb 100) 0 (xmc 100) = true := by decide +kernel
set_option maxRecDepth 100000 in
theorem xdc101 : xchk (xmb 101) 0 (xmc 101) = true := by decide +kernel
set_option maxRecDepth 100000 in
theorem xdc102 : xchk (xmb 102) 0 (xmc 102) = true := by decide +kernel
set_option maxRecDepth 100000 in
theorem xdc103 : xchk (xmb 103) 0 (xmc 103) = true := by decide +kernel
set_option maxRecDepth 100000 in
theorem xdc104 : xchk (xmb 104) 0 (xmc 104) = true := by decide +kernel
set_option maxRecDepth 100000 in
theorem xdc105 : xchk (xmb 105) 0 (xmc 105) = true := by decide +kernel
set_option maxRecDepth 100000 in
theorem xdc106 : xchk (xmb 106) 0 (xmc 106) = true := by decide +kernel
set_option maxRecDepth 100000 in
theorem xdc107 : xchk (xmb 107) 0 (xmc 107) = true := by decide +kernel
set_option maxRecDepth 100000 in
theorem xdc108 : xchk (xmb 108) 0 (xmc 108) = true := by decide +kernel
set_option maxRecDepth 100000 in
theorem xdc109 : xchk (xmb 109) 0 (xmc 109) = true := by decide +kernel
set_option maxRecDepth 100000 in
theorem xdc110 : xchk (xmb 110) 0 (xmc 110) = true := by decide +kernel
set_option maxRecDepth 100000 in
theorem xdc111_0 : xchk code 0 xc111_0 = true := by decide +kernel
set_option maxRecDepth 100000 in
theorem xdc111_1 : xchk code 100 xc111_1 = true := by decide +kernel
set_option maxRecDepth 100000 in
theorem xdc111_2 : xchk code 200 xc111_2 = true := by decide +kernel
set_option maxRecDepth 100000 in
theorem xdc111_3 : xchk code 300 xc111_3 = true := by decide +kernel
set_option maxRecDepth 100000 in
theorem xdc111_4 : xchk code 400 xc111_4 = true := by decide +kernel
set_option maxRecDepth 100000 in
theorem xdc111_5 : xchk code 500 xc111_5 = true := by decide +kernel
set_option maxRecDepth 100000 in
theorem xdc111_6 : xchk code 600 xc111_6 = true := by decide +kernel
set_option maxRecDepth 100000 in
theorem xdc111_7 : xchk code 700 xc111_7 = true := by decide +kernel
theorem xdc111 : xchk (xmb 111) 0 (xmc 111) = true := xchk_app xdc111_0 (xchk_app xdc111_1 (xchk_app xdc111_2 (xchk_app xdc111_3 (xchk_app xdc111_4 (xchk_app xdc111_5 (xchk_app xdc111_6 (xdc111_7)))))))
theorem xdec : ∀ μ, xchk (xmb μ) 0 (xmc μ) = true
  | 0 => xdc0
  | 1 => xdc1
  | 2 => xdc2
  | 3 => xdc3
  | 4 => xdc4
  | 5 => xdc5
  | 6 => xdc6
  | 7 => xdc7
  | 8 => xdc8
  | 9 => xdc9
  | 10 => xdc10
  | 11 => xdc11
  | 12 => xdc12
  | 13 => xdc13
  | 14 => xdc14
  | 15 => xdc15
  | 16 => xdc16
  | 17 => xdc17
  | 18 => xdc18
  | 19 => xdc19
  | 20 => xdc20
  | 21 => xdc21
  | 22 => xdc22
  | 23 => xdc23
  | 24 => xdc24
  | 25 => xdc25
  | 26 => xdc26
  | 27 => xdc27
  | 28 => xdc28
  | 29 => xdc29
  | 30 => xdc30
  | 31 => xdc31
  | 32 => xdc32
  | 33 => xdc33
  | 34 => xdc34
  | 35 => xdc35
  | 36 => xdc36
  | 37 => xdc37
  | 38 => xdc38
  | 39 => xdc39
  | 40 => xdc40
  | 41 => xdc41
  | 42 => xdc42
  | 43 => xdc43
  | 44 => xdc44
  | 45 => xdc45
  | 46 => xdc46
  | 47 => xdc47
  | 48 => xdc48
  | 49 => xdc49
  | 50 => xdc50
  | 51 => xdc51
  | 52 => xdc52
  | 53 => xdc53
  | 54 => xdc54
  | 55 => xdc55
  | 56 => xdc56
  | 57 => xdc57
  | 58 => xdc58
  | 59 => xdc59
  | 60 => xdc60
  | 61 => xdc61
  | 62 => xdc62
  | 63 => xdc63
  | 64 => xdc64
  | 65 => xdc65
  | 66 => xdc66
  | 67 => xdc67
  | 68 => xdc68
  | 69 => xdc69
  | 70 => xdc70
  | 71 => xdc71
  | 72 => xdc72
  | 73 => xdc73
  | 74 => xdc74
  | 75 => xdc75
  | 76 => xdc76
  | 77 => xdc77
  | 78 => xdc78
  | 79 => xdc79
  | 80 => xdc80
  | 81 => xdc81
  | 82 => xdc82
  | 83 => xdc83
  | 84 => xdc84
  | 85 => xdc85
  | 86 => xdc86
  | 87 => xdc87
  | 88 => xdc88
  | 89 => xdc89
  | 90 => xdc90
  | 91 => xdc91
  | 92 => xdc92
  | 93 => xdc93
  | 94 => xdc94
  | 95 => xdc95
  | 96 => xdc96
  | 97 => xdc97
  | 98 => xdc98
  | 99 => xdc99
  | 100 => xdc100
  | 101 => xdc101
  | 102 => xdc102
  | 103 => xdc103
  | 104 => xdc104
  | 105 => xdc105
  | 106 => xdc106
  | 107 => xdc107
  | 108 => xdc108
  | 109 => xdc109
  | 110 => xdc110
  | 111 => xdc111
  | (k + 112) => rfl
end XDC
