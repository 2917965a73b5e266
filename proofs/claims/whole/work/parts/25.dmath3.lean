
def TV (z : Zt) : Prop := ∀ t, t < 3 → ∃ d w q, TP z t d w q
theorem drvZ_37 {z : Zt} {P S c : Nat} (hz : z 37 = nI c) (hc : c < 86400) : ∀ k, (drvZ z P S k).1 37 = nI ((c + k) % 86400)
  | 0 => by rw [Nat.add_zero, Nat.mod_eq_of_lt hc]; exact hz
  | k + 1 => by
    have ih := drvZ_37 (P := P) (S := S) hz hc k
    show secZ (drvZ z P S k).1 (clk (drvZ z P S k).1) (tarN (drvZ z P S k).1) (nI (P * (k + 1) / S) - nI (P * k / S)) 37 = _
    rw [secZ_37, clk_of ih (Nat.mod_lt _ (by omega))]
    congr 1
    omega
theorem run_cut {z : Zt} {P S a n t c : Nat} (hd : DV z) (hz : z 37 = nI c) (hc : c < 86400) (hP : P ≤ 9999) (hS1 : 1 ≤ S) (hS2 : S ≤ 9999) (hn : a + n ≤ S) (hn2 : n ≤ 3600 - (c + a) % 86400 % 3600) (ht : t < 3) (hzt : z (12 + (c + a) % 86400 / 3600) = nI t) : CUT z P S a n t := by
  refine ⟨hn, by omega, hP, hS1, hS2, ht, fun i hi => ⟨(c + (a + i)) % 86400, ?_⟩⟩
  have h37 := drvZ_37 (P := P) (S := S) hz hc (a + i)
  have h12 : (drvZ z P S (a + i)).1 (12 + (c + (a + i)) % 86400 / 3600) = nI t := by
    rw [drvZ_n hd (by omega), show (c + (a + i)) % 86400 / 3600 = (c + a) % 86400 / 3600 by omega]
    exact hzt
  rw [drvZ_s h37 (Nat.mod_lt _ (by omega)) h12 ht, hr_I]
theorem i64_nI {n : Nat} (h : n < 2 ^ 31) : Int32.toInt64 (nI n) = lN n := nI_l h
theorem carry_I {r m m0 : Nat} (hr : r < m0) (h1 : m0 ≤ 998001) (h2 : m ≤ 998001) : Int64.toInt32 (Int32.toInt64 (nI r) * Int32.toInt64 (nI m) / Int32.toInt64 (nI m0)) = nI (r * m / m0) := by
  have hb : r * m ≤ 998001 * 998001 := Nat.mul_le_mul (by omega) h2
  rw [i64_nI (by omega), i64_nI (by omega), i64_nI (by omega), lN_mul, pk_lDiv (by omega) (by omega) (by omega), lN_i]
theorem run_carry {z : Zt} {r m m0 : Nat} {me : Int32} (h47 : z 47 = nI r) (h48 : z 48 = nI m0) (h0 : 1 ≤ m0) (h1 : m0 ≤ 998001) (hr : r < m0) (hm0 : 1 ≤ m) (hm : m ≤ 998001) (hme : me = z 48 ∨ (me = 0 ∧ z 47 = 0)) :
    ∃ r2, r2 < m ∧ carZ z (nI m) 47 = nI r2 ∧ (0 < me → Int64.toInt32 (Int32.toInt64 (nI r) * Int32.toInt64 (nI m) / Int32.toInt64 me) = nI r2) ∧ (¬ 0 < me → nI r = nI r2) := by
  have hlt : r * m / m0 < m := (Nat.div_lt_iff_lt_mul h0).mpr (by rw [Nat.mul_comm m m0]; exact Nat.mul_lt_mul_of_pos_right hr hm0)
  have hcar : carZ z (nI m) 47 = nI (r * m / m0) := by
    unfold carZ
    by_cases h : nI m = z 48
    · rw [if_pos h, h47]
      rw [h48] at h
      have hmm : m = m0 := (nI_eq (by omega) (by omega)).mp h
      rw [hmm, Nat.mul_div_cancel _ h0]
    · rw [if_neg h, upd_n (by omega), upd_s, h47, h48]
      exact carry_I hr h1 hm
  refine ⟨r * m / m0, hlt, hcar, fun h => ?_, fun h => ?_⟩
  · rcases hme with e | ⟨e, -⟩
    · rw [e, h48]; exact carry_I hr h1 hm
    · rw [e] at h; exact absurd h (by decide)
  · rcases hme with e | ⟨-, e⟩
    · rw [e, h48] at h; exact absurd (nI_lt (a := 0) h0 (by omega)) h
    · rw [e] at h47
      have : r = 0 := ((nI_eq (a := 0) (by omega) (by omega)).mp h47).symm
      rw [this, Nat.zero_mul, Nat.zero_div]
/-- the second at which the next cut ends -/
theorem run_n {c a j S : Nat} (hS : S ≤ 9999) (ha : a < S) (hpr : a = S ∨ (j = 0 ∧ a = 0) ∨ (1 ≤ j ∧ 3600 * (j - 1) < a ∧ (c + a) % 3600 = 0)) : ∃ n, 1 ≤ n ∧ a + n ≤ S ∧ n ≤ 3600 - (c + a) % 86400 % 3600 ∧ min S (a + 3600 - (c + a) % 86400 % 3600) = a + n ∧ (a + n = S ∨ (j + 1 = 0 ∧ a + n = 0) ∨ (1 ≤ j + 1 ∧ 3600 * (j + 1 - 1) < a + n ∧ (c + (a + n)) % 3600 = 0)) := by
  refine ⟨min S (a + 3600 - (c + a) % 86400 % 3600) - a, ?_, ?_, ?_, ?_, ?_⟩ <;> omega
theorem TP_N {z N : Zt} {t d w q : Nat} (h : TP z t d w q) (ht : t < 3) (hN : ∀ k, k < 12 → N k = z k) : N (t * 4 + 1) = nI d ∧ N (t * 4 + 2) = nI w ∧ N (t * 4 + 3) = nI q := by
  rw [hN _ (by omega), hN _ (by omega), hN _ (by omega), Nat.mul_comm t 4]
  exact ⟨h.1, h.2.2.1, h.2.2.2.2.2.1⟩
