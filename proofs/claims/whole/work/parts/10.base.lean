
/-! numbers: indices, ranges -/
theorem co_math_min : Cond.code Lib.Math.min.name Lib.Math.min.code 2 (some .int) ∈ tg := co_J9_min_7cf53
theorem co_math_max : Cond.code Lib.Math.max.name Lib.Math.max.code 2 (some .int) ∈ tg := co_J9_max_7cf53
theorem ix_n0 {i : Int32} {k n : Nat} (h : ix i k n) : ¬ i < 0 := fun q => h.1 (Or.inl q)
theorem ix_k {i : Int32} {k n : Nat} (h : ix i k n) : i = nI k ∧ k < n := by
  obtain ⟨h1, rfl⟩ := h
  have h0 : ¬ i < 0 := fun q => h1 (Or.inl q)
  obtain ⟨j, hj, rfl⟩ := nI_of h0
  rw [nI_clamp hj]
  refine ⟨rfl, Nat.not_le.mp fun q => h1 (Or.inr ?_)⟩
  rw [nI_clamp hj]
  exact q
theorem ix_nge {i : Int32} {k n : Nat} (h : ix i k n) (hn : n < 2 ^ 31) : ¬ nI n ≤ i := by
  obtain ⟨rfl, hk⟩ := ix_k h
  exact nI_ge hk hn
theorem lp_lt {j : Nat} {n : Int32} (N : Nat) (hn : n = nI N) (hN : N < 2 ^ 31) (hj : j < 2 ^ 31) (h : ¬ n ≤ nI j) : j < N := by
  subst hn
  rcases Nat.lt_or_ge j N with q | q
  · exact q
  · exact absurd (nI_le q hj) h
theorem lp_ge {j : Nat} {n : Int32} (N : Nat) (hn : n = nI N) (hN : N < 2 ^ 31) (hj : j < 2 ^ 31) (h : n ≤ nI j) : N ≤ j := by
  subst hn
  rcases Nat.lt_or_ge j N with q | q
  · exact absurd h (nI_ge q hN)
  · exact q
def zer (f : Nat → Int32) (a b : Nat) : Nat → Int32 := fun k => if a ≤ k ∧ k < b then 0 else f k
theorem zer_i {f : Nat → Int32} {a b k : Nat} (h : a ≤ k ∧ k < b) : zer f a b k = 0 := if_pos h
theorem zer_n {f : Nat → Int32} {a b k : Nat} (h : ¬ (a ≤ k ∧ k < b)) : zer f a b k = f k := if_neg h
def okD (p s : Int32) : Prop := ¬ p < 0 ∧ ¬ 9999 < p ∧ ¬ s < 1 ∧ ¬ 9999 < s
/-- a value between two written numbers -/
theorem rg_nI {x lo hi : Int32} (a b : Nat) (hlo : lo = nI a) (hhi : hi = nI b) (ha : a ≤ b) (hb : b < 2 ^ 31) (h1 : ¬ x < lo) (h2 : ¬ hi < x) : ∃ j : Nat, a ≤ j ∧ j ≤ b ∧ x = nI j := by
  subst hlo; subst hhi
  have e1 : (nI a) ≤ x := Int32.not_lt.mp h1
  have e2 : x ≤ nI b := Int32.not_lt.mp h2
  have h0 : ¬ x < 0 := by
    intro q
    have q1 := Int32.lt_iff_toInt_lt.mp q
    have q2 := Int32.le_iff_toInt_le.mp e1
    rw [nI_toInt (by omega)] at q2
    have : (0 : Int32).toInt = 0 := by decide
    omega
  obtain ⟨j, hj, rfl⟩ := nI_of h0
  exact ⟨j, (nI_leI (by omega) hj).mp e1, (nI_leI hj hb).mp e2, rfl⟩
theorem cpy_all {f g : Nat → Int32} {n : Nat} (hn : n < 2 ^ 31) : ∀ j, j < n → va_cpy f g (Int32.toNatClampNeg 0) (Int32.toNatClampNeg 0) (Int32.toNatClampNeg (nI n)) j = f j := by
  intro j hj
  have h0 : (0 : Int32).toNatClampNeg = 0 := by decide
  rw [nI_clamp hn, h0, pk_cpy_in (Nat.zero_le j) (by omega)]
  congr 1
  omega
theorem min_same {x : Int32} : (if x < x then x else x) = x := by split <;> rfl
theorem upd_s {f : Nat → Int32} {k : Nat} {x : Int32} : upd f k x k = x := pk_us
theorem upd_n {f : Nat → Int32} {k j : Nat} {x : Int32} (h : j ≠ k) : upd f k x j = f j := pk_un h
