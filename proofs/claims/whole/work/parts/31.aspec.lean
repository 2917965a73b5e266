
/-! texts: the reader that goes character by character -/
abbrev As : Type := Int32 × Int32 × Int32 × Int32
abbrev isL (c : Int32) : Prop := c = 104 ∨ c = 100 ∨ c = 119 ∨ c = 115 ∨ c = 120 ∨ c = 101
abbrev mayE (s : As) : Prop := s.2.2.2 = 3 ∨ (s.2.2.2 = 2 ∧ ¬ s.2.2.1 = -1)
def takeA (s : As) (c : Int32) : Option As :=
  if s.2.2.2 = 0 then (if isL c then some (c, s.2.1, -1, if c = 100 then 1 else if c = 119 then 2 else 3) else none)
  else if ¬ c < 48 ∧ ¬ 57 < c then
    (if s.2.2.2 = 3 ∨ s.2.2.1 = 0 then none else if 9999 < (if s.2.2.1 = -1 then c - 48 else s.2.2.1 * 10 + (c - 48)) then none else some (s.1, s.2.1, (if s.2.2.1 = -1 then c - 48 else s.2.2.1 * 10 + (c - 48)), s.2.2.2))
  else if c = 47 ∧ s.2.2.2 = 1 ∧ ¬ s.2.2.1 = -1 then some (s.1, s.2.2.1, -1, 2)
  else if c = 59 ∧ mayE s then some (s.1, s.2.1, s.2.2.1, 0)
  else none
def goA (pd : Nat → Int32) (ty : Nat) : Nat → Nat → As → Int32
  | 0, _, s => if mayE s then -6 else nI ty
  | n + 1, i, s => match takeA s (pd i) with
    | none => nI i
    | some s2 => goA pd ty n (i + 1) s2
abbrev Or3 : Type := Int32 × Int32 × Int32
def ordL (pd : Nat → Int32) : Nat → Nat → As → List Or3
  | 0, _, s => [(s.1, s.2.1, s.2.2.1)]
  | n + 1, i, s => (if pd i = 59 then [(s.1, s.2.1, s.2.2.1)] else []) ++ (match takeA s (pd i) with
    | none => []
    | some s2 => ordL pd n (i + 1) s2)
def flt (pd : Nat → Int32) (ty i : Nat) (s : As) : Int32 := goA pd ty (ty - i) i s
def ors (pd : Nat → Int32) (ty i : Nat) (s : As) : List Or3 := ordL pd (ty - i) i s
def RCH (pd : Nat → Int32) (ty i : Nat) (s : As) (i2 : Nat) (s2 : As) : Prop := i2 ≤ ty ∧ flt pd ty i s = flt pd ty i2 s2 ∧ ors pd ty i s = ors pd ty i2 s2
theorem RCH.rf {pd : Nat → Int32} {ty i : Nat} {s : As} (h : i ≤ ty) : RCH pd ty i s i s := ⟨h, rfl, rfl⟩
theorem RCH.tr {pd : Nat → Int32} {ty i i2 i3 : Nat} {s s2 s3 : As} (h : RCH pd ty i s i2 s2) (h2 : RCH pd ty i2 s2 i3 s3) : RCH pd ty i s i3 s3 := ⟨h2.1, h.2.1.trans h2.2.1, h.2.2.trans h2.2.2⟩
theorem RCH.st {pd : Nat → Int32} {ty i : Nat} {s s2 : As} (h : i < ty) (ht : takeA s (pd i) = some s2) (hc : ¬ pd i = 59) : RCH pd ty i s (i + 1) s2 := by
  refine ⟨h, ?_, ?_⟩
  · unfold flt
    rw [show ty - i = (ty - (i + 1)) + 1 by omega, goA, ht]
  · unfold ors
    rw [show ty - i = (ty - (i + 1)) + 1 by omega, ordL, ht, if_neg hc]
    rfl
theorem flt_none {pd : Nat → Int32} {ty i : Nat} {s : As} (h : i < ty) (ht : takeA s (pd i) = none) : flt pd ty i s = nI i := by
  unfold flt
  rw [show ty - i = (ty - (i + 1)) + 1 by omega, goA, ht]
theorem flt_end {pd : Nat → Int32} {ty : Nat} {s : As} (ht : ¬ mayE s) : flt pd ty ty s = nI ty := by
  unfold flt
  rw [Nat.sub_self, goA, if_neg ht]
theorem flt_ok {pd : Nat → Int32} {ty : Nat} {s : As} (ht : mayE s) : flt pd ty ty s = -6 := by
  unfold flt
  rw [Nat.sub_self, goA, if_pos ht]
theorem ors_end {pd : Nat → Int32} {ty : Nat} {s : As} : ors pd ty ty s = [(s.1, s.2.1, s.2.2.1)] := by
  unfold ors
  rw [Nat.sub_self, ordL]
/-- a semicolon behind an order that may end -/
theorem semi {pd : Nat → Int32} {ty i : Nat} {s : As} (h : i < ty) (hc : pd i = 59) (hm : mayE s) : takeA s (pd i) = some (s.1, s.2.1, s.2.2.1, 0) ∧ flt pd ty i s = flt pd ty (i + 1) (s.1, s.2.1, s.2.2.1, 0) ∧ ors pd ty i s = (s.1, s.2.1, s.2.2.1) :: ors pd ty (i + 1) (s.1, s.2.1, s.2.2.1, 0) := by
  have ht : takeA s (pd i) = some (s.1, s.2.1, s.2.2.1, 0) := by
    have h0 : ¬ s.2.2.2 = 0 := by rcases hm with e | ⟨e, -⟩ <;> rw [e] <;> decide
    unfold takeA
    rw [hc, if_neg h0, if_neg (by decide), if_neg (fun q => absurd q.1 (by decide)), if_pos ⟨rfl, hm⟩]
  refine ⟨ht, ?_, ?_⟩
  · unfold flt
    rw [show ty - i = (ty - (i + 1)) + 1 by omega, goA, ht]
  · unfold ors
    rw [show ty - i = (ty - (i + 1)) + 1 by omega, ordL, ht, if_pos hc]
    rfl
/-- the pad's characters -/
def PDok (pd : Nat → Int32) (ty : Nat) : Prop := ∀ i, i < ty → ∃ k, 33 ≤ k ∧ k ≤ 126 ∧ pd i = nI k
def ltr (pd : Nat → Int32) (ty i : Nat) : Int32 := if i < ty then pd i else -6
theorem ltr_in {pd : Nat → Int32} {ty i : Nat} (h : i < ty) : ltr pd ty i = pd i := if_pos h
theorem ltr_out {pd : Nat → Int32} {ty i : Nat} (h : ¬ i < ty) : ltr pd ty i = -6 := if_neg h
theorem dig_of {pd : Nat → Int32} {ty i : Nat} (hp : PDok pd ty) (h1 : ¬ ltr pd ty i - 48 < 0) (h2 : ¬ 9 < ltr pd ty i - 48) : i < ty ∧ ∃ k, k ≤ 9 ∧ pd i = nI (k + 48) ∧ ltr pd ty i - 48 = nI k := by
  by_cases h : i < ty
  · refine ⟨h, ?_⟩
    rw [ltr_in h] at h1 h2 ⊢
    obtain ⟨k, k1, k2, k3⟩ := hp i h
    rw [k3] at h1 h2 ⊢
    have e : k < 48 ∨ 48 ≤ k := by omega
    rcases e with e | e
    · exfalso
      refine h1 ?_
      have : nI k - 48 = nI k - nI 48 := rfl
      rw [this]
      exact pk_sneg (by omega) e
    · have e2 : nI k - 48 = nI (k - 48) := pk_sub (b := 48) e
      rw [e2] at h2 ⊢
      refine ⟨k - 48, ?_, by rw [show k - 48 + 48 = k by omega], rfl⟩
      rcases Nat.lt_or_ge 9 (k - 48) with q | q
      · exact absurd (nI_lt (a := 9) q (by omega)) h2
      · exact q
  · rw [ltr_out h] at h1
    exact absurd (by decide) h1
theorem dig_no {pd : Nat → Int32} {ty i : Nat} (hp : PDok pd ty) (h : i < ty) (hn : ltr pd ty i - 48 < 0 ∨ 9 < ltr pd ty i - 48) : ¬ (¬ pd i < 48 ∧ ¬ 57 < pd i) := by
  obtain ⟨k, k1, k2, k3⟩ := hp i h
  rw [ltr_in h, k3] at hn
  rw [k3]
  intro hd
  have e1 : 48 ≤ k := by
    rcases Nat.lt_or_ge k 48 with q | q
    · exact absurd (nI_lt (b := 48) q (by omega)) hd.1
    · exact q
  have e2 : k ≤ 57 := by
    rcases Nat.lt_or_ge 57 k with q | q
    · exact absurd (nI_lt (a := 57) q (by omega)) hd.2
    · exact q
  have e3 : nI k - 48 = nI (k - 48) := pk_sub (b := 48) e1
  rw [e3] at hn
  rcases hn with q | q
  · exact nI_pos (by omega) q
  · exact absurd ((nI_ltI (a := 9) (by omega) (by omega)).mp q) (by omega)
theorem dig_c {k : Nat} (h : k ≤ 9) : ¬ nI (k + 48) < 48 ∧ ¬ 57 < nI (k + 48) := ⟨nI_nlt (b := 48) (by omega) (by omega), nI_nlt (a := 57) (by omega) (by omega)⟩
theorem dig_v {k : Nat} : nI (k + 48) - 48 = nI k := (pk_sub (b := 48) (by omega)).trans (by rw [Nat.add_sub_cancel])
theorem dig_ns {k : Nat} (h : k ≤ 9) : ¬ nI (k + 48) = 59 := fun q => by
  have := (nI_eq (b := 59) (by omega) (by omega)).mp q
  omega
/-- the first digit of a number -/
theorem take_d1 {s : As} {k : Nat} (hp : s.2.2.2 = 1 ∨ s.2.2.2 = 2) (hn : s.2.2.1 = -1) (hk : k ≤ 9) : takeA s (nI (k + 48)) = some (s.1, s.2.1, nI k, s.2.2.2) := by
  have h0 : ¬ s.2.2.2 = 0 := by rcases hp with e | e <;> rw [e] <;> decide
  have h3 : ¬ (s.2.2.2 = 3 ∨ s.2.2.1 = 0) := by
    rw [hn]
    rcases hp with e | e <;> rw [e] <;> decide
  unfold takeA
  rw [if_neg h0, if_pos (dig_c hk), if_neg h3, if_pos hn, dig_v, if_neg (show ¬ (9999 : Int32) < nI k from nI_nlt (a := 9999) (by omega) (by omega))]
/-- a further digit -/
theorem take_d2 {s : As} {k V : Nat} (hp : s.2.2.2 = 1 ∨ s.2.2.2 = 2) (hn : s.2.2.1 = nI V) (hV : 1 ≤ V) (hV2 : V ≤ 9999) (hk : k ≤ 9) : takeA s (nI (k + 48)) = if 10 * V + k ≤ 9999 then some (s.1, s.2.1, nI (10 * V + k), s.2.2.2) else none := by
  have h0 : ¬ s.2.2.2 = 0 := by rcases hp with e | e <;> rw [e] <;> decide
  have hV0 : ¬ nI V = 0 := nI_ne0 hV (by omega)
  have hV1 : ¬ nI V = -1 := fun q => by
    have h1 := congrArg Int32.toInt q
    rw [nI_toInt (by omega)] at h1
    have h2 : (-1 : Int32).toInt = -1 := by decide
    omega
  have h3 : ¬ (s.2.2.2 = 3 ∨ s.2.2.1 = 0) := by
    rw [hn]
    intro h
    rcases h with h | h
    · rcases hp with e | e <;> rw [e] at h <;> exact absurd h (by decide)
    · exact hV0 h
  have e1 : nI V * 10 + nI k = nI (10 * V + k) := by
    have : nI V * 10 = nI (V * 10) := pk_mul V 10
    rw [this, nI_add, Nat.mul_comm]
  unfold takeA
  rw [if_neg h0, if_pos (dig_c hk), if_neg h3, hn, if_neg hV1, dig_v, e1]
  by_cases h : 10 * V + k ≤ 9999
  · rw [if_pos h, if_neg (show ¬ (9999 : Int32) < nI (10 * V + k) from nI_nlt (a := 9999) h (by omega))]
  · rw [if_neg h, if_pos (show (9999 : Int32) < nI (10 * V + k) from nI_lt (a := 9999) (by omega) (by omega))]
theorem take_d0 {s : As} {c : Int32} (hp : s.2.2.2 = 1 ∨ s.2.2.2 = 2) (hn : s.2.2.1 = 0) (hc : ¬ c < 48 ∧ ¬ 57 < c) : takeA s c = none := by
  have h0 : ¬ s.2.2.2 = 0 := by rcases hp with e | e <;> rw [e] <;> decide
  unfold takeA
  rw [if_neg h0, if_pos hc, if_pos (Or.inr hn)]
/-- where a number must begin, only a digit can stand -/
theorem take_nd {s : As} {c : Int32} (hp : s.2.2.2 = 1 ∨ s.2.2.2 = 2) (hn : s.2.2.1 = -1) (hc : ¬ (¬ c < 48 ∧ ¬ 57 < c)) : takeA s c = none := by
  have h0 : ¬ s.2.2.2 = 0 := by rcases hp with e | e <;> rw [e] <;> decide
  have h3 : ¬ mayE s := by
    intro h
    rcases h with h | h
    · rcases hp with e | e <;> rw [e] at h <;> exact absurd h (by decide)
    · exact h.2 hn
  unfold takeA
  rw [if_neg h0, if_neg hc, if_neg (fun h => h.2.2 hn), if_neg (fun h => h3 h.2)]
theorem may_n {s : As} (hp : s.2.2.2 = 1 ∨ s.2.2.2 = 2) (hn : s.2.2.1 = -1) : ¬ mayE s := by
  intro h
  rcases h with h | h
  · rcases hp with e | e <;> rw [e] at h <;> exact absurd h (by decide)
  · exact h.2 hn
def STK (pd : Nat → Int32) (ty i : Nat) (s : As) : Prop := i < ty → (¬ pd i < 48 ∧ ¬ 57 < pd i) → takeA s (pd i) = none
