
/-! a drive, second by second and cut by cut, in whole numbers -/
def gn (w q p : Nat) : Nat := if p * q < w then w else p * q
theorem gn_le (w q p : Nat) : gn w q p ≤ p * q + w := by unfold gn; split <;> omega
theorem gn_I {w q p : Nat} (hp : p ≤ 9999) (hq : q ≤ 999) (hw : w ≤ 999) : (if nI p * nI q < nI w then nI w else nI p * nI q) = nI (gn w q p) := by
  have hb : p * q ≤ 9999 * 999 := Nat.mul_le_mul hp hq
  unfold gn
  rw [pk_mul]
  by_cases h : p * q < w
  · rw [if_pos h, if_pos ((nI_ltI (by omega) (by omega)).mpr h)]
  · rw [if_neg h, if_neg (fun h2 => h ((nI_ltI (by omega) (by omega)).mp h2))]
theorem ltw_I {w q p : Nat} (hp : p ≤ 9999) (hq : q ≤ 999) (hw : w ≤ 999) : nI p * nI q < nI w ↔ p * q < w := by
  have hb : p * q ≤ 9999 * 999 := Nat.mul_le_mul hp hq
  rw [pk_mul]
  exact nI_ltI (by omega) (by omega)
theorem min_up {f x d : Nat} {F : Int32} (hF : F = nI 9999999) (hf : f ≤ 9999999) (hx : x ≤ 20000) (hd : d ≤ 99) : (if F ≤ nI f + nI x * nI d then F else nI f + nI x * nI d) = nI (min 9999999 (f + x * d)) := by
  subst hF
  have hb : x * d ≤ 20000 * 99 := Nat.mul_le_mul hx hd
  rw [pk_mul, nI_add]
  by_cases h : 9999999 ≤ f + x * d
  · rw [if_pos (nI_le h (by omega)), Nat.min_eq_left h]
  · rw [if_neg (nI_ge (by omega) (by omega)), Nat.min_eq_right (by omega)]
theorem wq_b {w q : Nat} (hw1 : 1 ≤ w) (hw2 : w ≤ 999) (hq1 : 1 ≤ q) (hq2 : q ≤ 999) : 1 ≤ w * q ∧ w * q ≤ 998001 ∧ w ≤ w * q ∧ q ≤ w * q := by
  refine ⟨Nat.mul_pos hw1 hq1, Nat.mul_le_mul hw2 hq2, Nat.le_mul_of_pos_right w hq1, Nat.le_mul_of_pos_left q hw1⟩
theorem div_lt_of {a m b : Nat} (hm : 0 < m) (h : a < b * m) : a / m < b := (Nat.div_lt_iff_lt_mul hm).mpr h
/-- how many drops there are at most -/
theorem dr_b {w q r g x y : Nat} (hw1 : 1 ≤ w) (hq1 : 1 ≤ q) (hr : r < w * q) (hg : g ≤ x * q + y * w) : (r + g) / (w * q) < 1 + x + y := by
  have hm : 0 < w * q := Nat.mul_pos hw1 hq1
  refine div_lt_of hm ?_
  have h1 : x * q ≤ x * (w * q) := Nat.mul_le_mul_left x (Nat.le_mul_of_pos_left q hw1)
  have h2 : y * w ≤ y * (w * q) := Nat.mul_le_mul_left y (Nat.le_mul_of_pos_right w hq1)
  rw [Nat.add_mul, Nat.add_mul, Nat.one_mul]
  omega
/-- what a tariff's numbers are -/
def TP (z : Zt) (t d w q : Nat) : Prop := z (4 * t + 1) = nI d ∧ d ≤ 99 ∧ z (4 * t + 2) = nI w ∧ 1 ≤ w ∧ w ≤ 999 ∧ z (4 * t + 3) = nI q ∧ 1 ≤ q ∧ q ≤ 999
theorem TP.of {z y : Zt} {t d w q : Nat} (h : TP z t d w q) (ht : t < 3) (hk : ∀ k, k < 36 → y k = z k) : TP y t d w q := by
  unfold TP
  rw [hk _ (by omega), hk _ (by omega), hk _ (by omega)]
  exact h
theorem sec_nat {z : Zt} {t c f r d w q p : Nat} (hT : TP z t d w q) (h39 : z 39 = nI f) (hf : f ≤ 9999999) (hcar : carZ z (nI (w * q)) 47 = nI r) (hr : r < w * q) (hp : p ≤ 9999) :
    drpZ z t (nI p) = nI ((r + gn w q p) / (w * q)) ∧ secZ z c t (nI p) 47 = nI ((r + gn w q p) % (w * q)) ∧ secZ z c t (nI p) 39 = nI (min 9999999 (f + (r + gn w q p) / (w * q) * d)) ∧ secZ z c t (nI p) 48 = nI (w * q)
    ∧ (p * q < w → secZ z c t (nI p) 44 = z 44 ∧ secZ z c t (nI p) 45 = z 45 + nI ((r + gn w q p) / (w * q))) ∧ (¬ p * q < w → secZ z c t (nI p) 44 = z 44 + nI ((r + gn w q p) / (w * q)) ∧ secZ z c t (nI p) 45 = z 45) := by
  obtain ⟨hd, hd2, hw, hw1, hw2, hq, hq1, hq2⟩ := hT
  obtain ⟨b1, b2, b3, b4⟩ := wq_b hw1 hw2 hq1 hq2
  have hgl := gn_le w q p
  have hb : p * q ≤ 9999 * 999 := Nat.mul_le_mul hp hq2
  have hdr : (r + gn w q p) / (w * q) < 1 + p + 1 := dr_b hw1 hq1 hr (by omega)
  have ed : drpZ z t (nI p) = nI ((r + gn w q p) / (w * q)) := by
    unfold drpZ
    rw [hw, hq, pk_mul w q, hcar, gn_I hp hq2 hw2, nI_add, pk_div (by omega) (by omega) (by omega)]
  refine ⟨ed, ?_, ?_, ?_, ?_, ?_⟩
  · unfold secZ
    rw [upd_n (by omega), upd_n (by split <;> omega), upd_n (by omega), upd_s, ed, hw, hq, pk_mul w q, hcar, gn_I hp hq2 hw2, nI_add, pk_mul, pk_sub (Nat.div_mul_le_self _ _)]
    congr 1
    have := Nat.div_add_mod (r + gn w q p) (w * q)
    rw [Nat.mul_comm] at this
    omega
  · unfold secZ
    rw [upd_n (by omega), upd_n (by split <;> omega), upd_s, ed, h39, hd]
    exact min_up rfl hf (by omega) hd2
  · rw [secZ_48, hw, hq, pk_mul]
  · intro h
    have h2 : nI p * z (4 * t + 3) < z (4 * t + 2) := by rw [hw, hq]; exact (ltw_I hp hq2 hw2).mpr h
    unfold secZ
    rw [if_pos h2, if_pos h2, ed]
    refine ⟨?_, ?_⟩
    · rw [upd_n (by omega), upd_n (by omega), upd_n (by omega), upd_n (by omega), upd_n (by omega), carZ_n ⟨by omega, by omega⟩]
    · rw [upd_n (by omega), upd_s]
  · intro h
    have h2 : ¬ nI p * z (4 * t + 3) < z (4 * t + 2) := by rw [hw, hq]; exact fun h3 => h ((ltw_I hp hq2 hw2).mp h3)
    unfold secZ
    rw [if_neg h2, if_neg h2, ed]
    refine ⟨?_, ?_⟩
    · rw [upd_n (by omega), upd_s]
    · rw [upd_n (by omega), upd_n (by omega), upd_n (by omega), upd_n (by omega), upd_n (by omega), carZ_n ⟨by omega, by omega⟩]
theorem carZ_id {z : Zt} {p : Int32} (h : z 48 = p) : carZ z p = z := if_pos h.symm
/-- the pulses of the second k -/
def hr (P S k : Nat) : Nat := P * (k + 1) / S - P * k / S
theorem hr_mono {P S k : Nat} : P * k / S ≤ P * (k + 1) / S := Nat.div_le_div_right (Nat.mul_le_mul_left P (by omega))
theorem pd_le {P S k : Nat} (hS : 1 ≤ S) (hk : k ≤ S) : P * k / S ≤ P := by
  refine Nat.le_trans (Nat.div_le_div_right (Nat.mul_le_mul_left P hk)) ?_
  rw [Nat.mul_div_cancel _ hS]
  exact Nat.le_refl _
theorem hr_I {P S k : Nat} : nI (P * (k + 1) / S) - nI (P * k / S) = nI (hr P S k) := pk_sub hr_mono
theorem hr_few {P S k : Nat} (hS : 1 ≤ S) : hr P S k = P / S ∨ hr P S k = P / S + 1 := by
  unfold hr
  have e1 := Nat.div_add_mod (P * k) S
  have e2 := Nat.div_add_mod P S
  have m1 := Nat.mod_lt (P * k) hS
  have m2 := Nat.mod_lt P hS
  have e3 : P * (k + 1) = (P * k % S + P % S) + S * (P * k / S + P / S) := by rw [Nat.mul_add, Nat.mul_add, Nat.mul_one]; omega
  rw [e3, Nat.add_mul_div_left _ _ hS]
  have h1 : (P * k % S + P % S) / S < 2 := (Nat.div_lt_iff_lt_mul hS).mpr (by omega)
  clear e1 e2 e3 m1 m2
  generalize (P * k % S + P % S) / S = x at h1 ⊢
  generalize P * k / S = y
  generalize P / S = u
  omega
def Gm (w q P S a : Nat) : Nat → Nat
  | 0 => 0
  | i + 1 => Gm w q P S a i + gn w q (hr P S (a + i))
theorem Gm_le {w q P S a : Nat} : ∀ i, Gm w q P S a i ≤ (P * (a + i) / S - P * a / S) * q + i * w
  | 0 => by simp [Gm]
  | i + 1 => by
    have ih := Gm_le (w := w) (q := q) (P := P) (S := S) (a := a) i
    have h1 := gn_le w q (hr P S (a + i))
    have h2 : P * a / S ≤ P * (a + i) / S := Nat.div_le_div_right (Nat.mul_le_mul_left P (by omega))
    have h3 : P * (a + i) / S ≤ P * (a + i + 1) / S := hr_mono
    have h4 : (P * (a + (i + 1)) / S - P * a / S) = (P * (a + i) / S - P * a / S) + hr P S (a + i) := by unfold hr; rw [← Nat.add_assoc]; omega
    rw [h4, Nat.add_mul, Nat.add_mul, Nat.one_mul]
    show Gm w q P S a i + _ ≤ _
    omega
theorem Gm_sum {w q P S a : Nat} (hS : 1 ≤ S) : ∀ i, P / S * i ≤ P * (a + i) / S - P * a / S ∧ P * (a + i) / S - P * a / S - P / S * i ≤ i ∧ Gm w q P S a i = (i - (P * (a + i) / S - P * a / S - P / S * i)) * gn w q (P / S) + (P * (a + i) / S - P * a / S - P / S * i) * gn w q (P / S + 1)
  | 0 => by simp [Gm]
  | i + 1 => by
    obtain ⟨h1, h2, h3⟩ := Gm_sum (w := w) (q := q) (P := P) (S := S) (a := a) hS i
    have h4 : P * a / S ≤ P * (a + i) / S := Nat.div_le_div_right (Nat.mul_le_mul_left P (by omega))
    have h5 : P * (a + i) / S ≤ P * (a + i + 1) / S := hr_mono
    have h6 : (P * (a + (i + 1)) / S - P * a / S) = (P * (a + i) / S - P * a / S) + hr P S (a + i) := by unfold hr; rw [← Nat.add_assoc]; omega
    have h7 : P / S * (i + 1) = P / S * i + P / S := by rw [Nat.mul_add, Nat.mul_one]
    have hG : Gm w q P S a (i + 1) = Gm w q P S a i + gn w q (hr P S (a + i)) := rfl
    rw [h6, h7, hG, h3]
    generalize P * (a + i) / S - P * a / S = x at h1 h2 h3 h6 ⊢
    generalize P / S * i = y at h1 h2 h3 h7 ⊢
    rcases hr_few (P := P) (k := a + i) hS with e | e
    · rw [e]
      refine ⟨by omega, by omega, ?_⟩
      rw [show x + P / S - (y + P / S) = x - y from by omega, show i + 1 - (x - y) = (i - (x - y)) + 1 from by omega, Nat.add_mul, Nat.one_mul]
      omega
    · rw [e]
      refine ⟨by omega, by omega, ?_⟩
      rw [show x + (P / S + 1) - (y + P / S) = (x - y) + 1 from by omega, show i + 1 - ((x - y) + 1) = i - (x - y) from by omega, Nat.add_mul (x - y) 1, Nat.one_mul]
      omega
/-- a cut: seconds a to a + n, all of the tariff t -/
def CUT (z : Zt) (P S a n t : Nat) : Prop := a + n ≤ S ∧ n ≤ 3600 ∧ P ≤ 9999 ∧ 1 ≤ S ∧ S ≤ 9999 ∧ t < 3 ∧ ∀ i, i < n → ∃ c, drvZ z P S (a + i + 1) = (secZ (drvZ z P S (a + i)).1 c t (nI (hr P S (a + i))), (drvZ z P S (a + i)).2 + drpZ (drvZ z P S (a + i)).1 t (nI (hr P S (a + i))))
theorem hr_b {P S k : Nat} (hP : P ≤ 9999) (hS : 1 ≤ S) (hk : k < S) : hr P S k ≤ 9999 := by
  unfold hr
  exact Nat.le_trans (Nat.sub_le _ _) (Nat.le_trans (pd_le (P := P) hS (show k + 1 ≤ S from hk)) hP)
theorem cut_nat {z : Zt} {P S a n t f r d w q : Nat} (hd : DV z) (hC : CUT z P S a n t) (hT : TP z t d w q) (h39 : (drvZ z P S a).1 39 = nI f) (hf : f ≤ 9999999) (hcar : carZ (drvZ z P S a).1 (nI (w * q)) 47 = nI r) (hr0 : r < w * q) : ∀ i, i ≤ n →
    carZ (drvZ z P S (a + i)).1 (nI (w * q)) 47 = nI ((r + Gm w q P S a i) % (w * q)) ∧ (drvZ z P S (a + i)).1 39 = nI (min 9999999 (f + (r + Gm w q P S a i) / (w * q) * d)) ∧ (1 ≤ i → (drvZ z P S (a + i)).1 48 = nI (w * q) ∧ (drvZ z P S (a + i)).1 47 = nI ((r + Gm w q P S a i) % (w * q)))
    ∧ ((∀ j, j < i → hr P S (a + j) * q < w) → (drvZ z P S (a + i)).1 44 = (drvZ z P S a).1 44 ∧ (drvZ z P S (a + i)).1 45 = (drvZ z P S a).1 45 + nI ((r + Gm w q P S a i) / (w * q)))
    ∧ ((∀ j, j < i → ¬ hr P S (a + j) * q < w) → (drvZ z P S (a + i)).1 44 = (drvZ z P S a).1 44 + nI ((r + Gm w q P S a i) / (w * q)) ∧ (drvZ z P S (a + i)).1 45 = (drvZ z P S a).1 45) := by
  obtain ⟨c1, c2, c3, c4, c5, c6, hc⟩ := hC
  have hT0 := hT
  obtain ⟨hd1, hd2, hw, hw1, hw2, hq, hq1, hq2⟩ := hT0
  obtain ⟨b1, b2, b3, b4⟩ := wq_b hw1 hw2 hq1 hq2
  intro i
  induction i with
  | zero =>
    intro _
    have e0 : (r + Gm w q P S a 0) = r := rfl
    rw [e0, Nat.mod_eq_of_lt hr0, Nat.div_eq_of_lt hr0]
    refine ⟨hcar, ?_, fun h => absurd h (by omega), fun _ => ⟨rfl, ?_⟩, fun _ => ⟨?_, rfl⟩⟩
    · have e1 : min 9999999 (f + 0 * d) = f := by rw [Nat.zero_mul]; exact Nat.min_eq_right hf
      rw [e1]; exact h39
    · exact (Int32.add_zero _).symm
    · exact (Int32.add_zero _).symm
  | succ i ih =>
    intro hi
    obtain ⟨i1, i2, -, i4, i5⟩ := ih (by omega)
    obtain ⟨cc, ec⟩ := hc i (by omega)
    have hG := Gm_le (w := w) (q := q) (P := P) (S := S) (a := a) i
    have hx : P * (a + i) / S - P * a / S ≤ P := Nat.le_trans (Nat.sub_le _ _) (pd_le (P := P) c4 (show a + i ≤ S by omega))
    have hg : hr P S (a + i) ≤ 9999 := hr_b c3 c4 (by omega)
    have hbx : (P * (a + i) / S - P * a / S) * q ≤ 9999 * 999 := Nat.mul_le_mul (by omega) hq2
    have hbi : i * w ≤ 3600 * 999 := Nat.mul_le_mul (by omega) hw2
    obtain ⟨s1, s2, s3, s4, s5, s6⟩ := sec_nat (c := cc) (p := hr P S (a + i)) (hT.of c6 (fun k hk => drvZ_n hd (by omega) (a + i))) i2 (by omega) i1 (Nat.mod_lt _ (by omega)) hg
    have hGs : Gm w q P S a (i + 1) = Gm w q P S a i + gn w q (hr P S (a + i)) := rfl
    have hm : ((r + Gm w q P S a i) % (w * q) + gn w q (hr P S (a + i))) % (w * q) = (r + Gm w q P S a (i + 1)) % (w * q) := by
      rw [hGs, ← Nat.add_assoc, Nat.add_mod ((r + Gm w q P S a i) % (w * q)), Nat.mod_mod, ← Nat.add_mod]
    have hdv : (r + Gm w q P S a i) / (w * q) + ((r + Gm w q P S a i) % (w * q) + gn w q (hr P S (a + i))) / (w * q) = (r + Gm w q P S a (i + 1)) / (w * q) := by
      have e1 := Nat.div_add_mod (r + Gm w q P S a i) (w * q)
      have e2 : r + Gm w q P S a (i + 1) = ((r + Gm w q P S a i) % (w * q) + gn w q (hr P S (a + i))) + (w * q) * ((r + Gm w q P S a i) / (w * q)) := by rw [hGs]; omega
      rw [e2, Nat.add_mul_div_left _ _ (by omega)]
      omega
    rw [hm] at s2
    have es : drvZ z P S (a + (i + 1)) = drvZ z P S (a + i + 1) := rfl
    rw [es, ec]
    dsimp only
    refine ⟨?_, ?_, fun _ => ⟨s4, s2⟩, fun hk => ?_, fun hk => ?_⟩
    · rw [carZ_id s4]; exact s2
    · rw [s3]
      congr 1
      have e3 : (r + Gm w q P S a (i + 1)) / (w * q) * d = (r + Gm w q P S a i) / (w * q) * d + ((r + Gm w q P S a i) % (w * q) + gn w q (hr P S (a + i))) / (w * q) * d := by rw [← hdv, Nat.add_mul]
      omega
    · obtain ⟨k1, k2⟩ := i4 (fun j hj => hk j (by omega))
      obtain ⟨t1, t2⟩ := s5 (hk i (by omega))
      rw [t1, t2, k1, k2, Int32.add_assoc, nI_add, hdv]
      exact ⟨rfl, rfl⟩
    · obtain ⟨k1, k2⟩ := i5 (fun j hj => hk j (by omega))
      obtain ⟨t1, t2⟩ := s6 (hk i (by omega))
      rw [t1, t2, k1, k2, Int32.add_assoc, nI_add, hdv]
      exact ⟨rfl, rfl⟩
