
/-! a long by its characters -/
theorem V_evl {g : Gd} {X : Bd} {cs ss pc : Nat} {ws : va_W} {L : List (Nat × Value)} {st : List Value} {x y : Int64} (h : x = y) (kk : V g X cs ss ws pc L (.long y :: st)) : V g X cs ss ws pc L (.long x :: st) := by
  subst h
  exact kk
theorem lN_of (x : Int64) : ∃ u, u < 2 ^ 64 ∧ x = lN u := by
  refine ⟨x.toBitVec.toNat, x.toBitVec.isLt, ?_⟩
  apply Int64.toBitVec_inj.mp
  show x.toBitVec = BitVec.ofNat 64 x.toBitVec.toNat
  exact BitVec.eq_of_toNat_eq (by rw [BitVec.toNat_ofNat, Nat.mod_eq_of_lt x.toBitVec.isLt])
theorem lN_tn {m : Nat} (h : m < 2 ^ 64) : (lN m).toBitVec.toNat = m := by
  show (BitVec.ofNat 64 m).toNat = m
  rw [BitVec.toNat_ofNat, Nat.mod_eq_of_lt h]
theorem lN_0 {m : Nat} (h : m < 2 ^ 64) (h2 : lN m = 0) : m = 0 := by
  have h3 := congrArg (fun x : Int64 => x.toBitVec.toNat) h2
  rw [lN_tn h] at h3
  exact h3
theorem sh_t : ∀ i, i < 8 → Int64.toUInt64 (Int32.toInt64 (nI (8 * i))) &&& Int64.toUInt64 63 = UInt64.ofNat (8 * i) := by decide
theorem lN_shr {m i : Nat} (hm : m < 2 ^ 64) (hi : i < 8) : (Int64.toUInt64 (lN m) >>> (Int64.toUInt64 (Int32.toInt64 (nI (8 * i))) &&& Int64.toUInt64 63)).toInt64 = lN (m / 256 ^ i) := by
  rw [sh_t i hi]
  show (UInt64.ofNat m >>> UInt64.ofNat (8 * i)).toInt64 = (UInt64.ofNat (m / 256 ^ i)).toInt64
  congr 1
  apply UInt64.toNat_inj.mp
  have e : m / 256 ^ i ≤ m := Nat.div_le_self _ _
  rw [UInt64.toNat_shiftRight, UInt64.toNat_ofNat', UInt64.toNat_ofNat', UInt64.toNat_ofNat', Nat.mod_eq_of_lt hm, Nat.mod_eq_of_lt (show 8 * i < 2 ^ 64 by omega), Nat.mod_eq_of_lt (show m / 256 ^ i < 2 ^ 64 by omega), Nat.mod_eq_of_lt (show 8 * i < 64 by omega), Nat.shiftRight_eq_div_pow, Nat.pow_mul]
theorem lN_sh8 {u n : Nat} (hm : u < 2 ^ 64) : (Int64.toUInt64 (lN (u / 256 ^ n)) >>> (Int64.toUInt64 (Int32.toInt64 8) &&& Int64.toUInt64 63)).toInt64 = lN (u / 256 ^ (n + 1)) := by
  have e : u / 256 ^ n ≤ u := Nat.div_le_self _ _
  have := lN_shr (m := u / 256 ^ n) (i := 1) (by omega) (by omega)
  rw [Nat.pow_one, Nat.div_div_eq_div_mul, ← Nat.pow_succ] at this
  exact this
def dg (u i : Nat) : Nat := u / 256 ^ i % 256
theorem dg_lt {u i : Nat} : dg u i < 256 := Nat.mod_lt _ (by omega)
theorem lN_dg {u i : Nat} : Int64.toInt32 (lN (u / 256 ^ i) &&& 255) = nI (dg u i) := by
  have e : lN (u / 256 ^ i) &&& 255 = lN (dg u i) := by
    apply Int64.toBitVec_inj.mp
    apply BitVec.eq_of_toNat_eq
    rw [Int64.toBitVec_and, BitVec.toNat_and]
    show (BitVec.ofNat 64 (u / 256 ^ i)).toNat &&& 255 = (BitVec.ofNat 64 (dg u i)).toNat
    rw [BitVec.toNat_ofNat, BitVec.toNat_ofNat, show (255 : Nat) = 2 ^ 8 - 1 from rfl, Nat.and_two_pow_sub_one_eq_mod, Nat.mod_eq_of_lt (show dg u i < 2 ^ 64 from Nat.lt_trans dg_lt (by omega)), Nat.mod_mod_of_dvd _ (by exact ⟨2 ^ 56, rfl⟩)]
    rfl
  rw [e, lN_i]
theorem lI_dg {u i : Nat} : Int64.toInt32 (lN (u / 256 ^ i)) &&& 255 = nI (dg u i) := by
  rw [lN_i, pk_and _ 8 (by decide)]
  congr 1
  show (BitVec.ofNat 32 (u / 256 ^ i)).toNat % 2 ^ 8 = dg u i
  rw [BitVec.toNat_ofNat, Nat.mod_mod_of_dvd _ (by exact ⟨2 ^ 24, rfl⟩)]
  rfl
theorem nar_c {n : Nat} (h : n < 65536) : vp_nar .char (nI n) = nI n := by
  unfold vp_nar
  rw [(pk_charN h).1]
theorem i2c_c {n : Nat} (h : n < 65536) : (Int32.toUInt32 (nI n) % 65536).toInt32 = nI n := lg_i2c_word (by rw [nI_toInt (by omega)]; omega) (by rw [nI_toInt (by omega)]; omega)
def PT (u n : Nat) : Prop := 1 ≤ n ∧ n ≤ 8 ∧ u / 256 ^ n = 0 ∧ ∀ i, i < n → 33 ≤ dg u i ∧ dg u i ≤ 126
theorem PT_bad {u n : Nat} (hne : ¬ u / 256 ^ n = 0) (hb : ¬ (33 ≤ dg u n ∧ dg u n ≤ 126)) : ∀ n9, ¬ PT u n9 := by
  intro n9 h
  rcases Nat.lt_or_ge n n9 with q | q
  · exact hb (h.2.2.2 n q)
  · have h1 : u / 256 ^ n ≤ u / 256 ^ n9 := Nat.div_le_div_left (Nat.pow_le_pow_right (by omega) q) (Nat.pow_pos (by omega))
    rw [h.2.2.1] at h1
    exact hne (Nat.le_zero.mp h1)
theorem PT_0 {u : Nat} (h0 : u / 256 ^ 0 = 0) : ∀ n9, ¬ PT u n9 := by
  intro n9 h
  have h1 := (h.2.2.2 0 (by have := h.1; omega)).1
  unfold dg at h1
  rw [h0] at h1
  exact absurd h1 (by decide)
theorem PT_uniq {u n n2 : Nat} (h : PT u n) (h2 : PT u n2) : n = n2 := by
  rcases Nat.lt_trichotomy n n2 with q | q | q
  · exfalso
    have h3 := (h2.2.2.2 n q).1
    unfold dg at h3
    rw [h.2.2.1] at h3
    exact absurd h3 (by decide)
  · exact q
  · exfalso
    have h3 := (h.2.2.2 n2 q).1
    unfold dg at h3
    rw [h2.2.2.1] at h3
    exact absurd h3 (by decide)
theorem dg_in {d : Nat} (hd : d < 256) (h1 : ¬ nI d < 33) (h2 : ¬ 126 < nI d) : 33 ≤ d ∧ d ≤ 126 := by
  constructor
  · rcases Nat.lt_or_ge d 33 with q | q
    · exact absurd (nI_lt (b := 33) q (by omega)) h1
    · exact q
  · rcases Nat.lt_or_ge 126 d with q | q
    · exact absurd (nI_lt (a := 126) q (by omega)) h2
    · exact q
theorem dg_out {d : Nat} (hd : d < 256) (h : nI d < 33 ∨ 126 < nI d) : ¬ (33 ≤ d ∧ d ≤ 126) := by
  intro q
  rcases h with h | h
  · exact absurd ((nI_ltI (b := 33) (by omega) (by omega)).mp h) (by omega)
  · exact absurd ((nI_ltI (a := 126) (by omega) (by omega)).mp h) (by omega)
theorem sh_top {u n : Nat} (hu : u < 2 ^ 64) (hn : ¬ u / 256 ^ n = 0) : n < 8 := by
  rcases Nat.lt_or_ge n 8 with q | q
  · exact q
  · exfalso
    have h1 : u / 256 ^ n ≤ u / 256 ^ 8 := Nat.div_le_div_left (Nat.pow_le_pow_right (by omega) q) (by omega)
    have h2 : u / 256 ^ 8 = 0 := Nat.div_eq_of_lt (by omega)
    rw [h2] at h1
    exact hn (Nat.le_zero.mp h1)
theorem AP_1 {pd pdx : Nat → Int32} {ty tt : Nat} {x : Int32} (h : ∀ i, i < ty → pdx i = pd i) (ht : ty ≤ tt) : ∀ i, i < ty → upd pdx tt x i = pd i := fun i hi => by rw [upd_n (by omega)]; exact h i hi
theorem AP_2 {pdx : Nat → Int32} {u ty tt n jj : Nat} (hjj : 1 ≤ jj) (hn : jj ≤ n) (ht : tt = ty + (n - jj)) (h : ∀ i, i < n - jj → pdx (ty + i) = nI (dg u (n - 1 - i))) : ∀ i, i < n - (jj - 1) → upd pdx tt (nI (dg u (jj - 1))) (ty + i) = nI (dg u (n - 1 - i)) := by
  intro i hi
  by_cases e : i = n - jj
  · rw [show ty + i = tt by omega, upd_s, show n - 1 - i = jj - 1 by omega]
  · rw [upd_n (by omega)]
    exact h i (by omega)
theorem m1_iinc {j9 : Nat} (h : 1 ≤ j9) : nI j9 - 1 + Int32.ofInt (-1) = nI (j9 - 1) - 1 := by
  have e : nI j9 - 1 = nI (j9 - 1) := pk_sub (b := 1) h
  rw [e, show Int32.ofInt (-1) = -1 by decide]
  exact (Int32.sub_eq_add_neg (nI (j9 - 1)) 1).symm
theorem m1_neg {j9 : Nat} (hj : j9 < 2 ^ 31) (h : nI j9 - 1 < 0) : j9 = 0 := by
  rcases Nat.eq_zero_or_pos j9 with q | q
  · exact q
  · have e : nI j9 - 1 = nI (j9 - 1) := pk_sub (b := 1) q
    rw [e] at h
    exact absurd h (nI_pos (by omega))
theorem m1_pos {j9 : Nat} (h : ¬ nI j9 - 1 < 0) : 1 ≤ j9 := by
  rcases Nat.eq_zero_or_pos j9 with q | q
  · subst q
    exact absurd (by decide) h
  · exact q
