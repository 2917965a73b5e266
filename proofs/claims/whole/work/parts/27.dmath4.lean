
/-- what a second of a drive keeps -/
def IVd (z : Zt) : Prop := (∃ f, f ≤ 9999999 ∧ z 39 = nI f) ∧ (∃ r m0, 1 ≤ m0 ∧ m0 ≤ 998001 ∧ r < m0 ∧ z 47 = nI r ∧ z 48 = nI m0)
theorem IVd.sec {z : Zt} {c t p : Nat} (h : IVd z) (hTV : TV z) (ht : t < 3) (hp : p ≤ 9999) : IVd (secZ z c t (nI p)) ∧ ∃ x, x ≤ p + 2 ∧ drpZ z t (nI p) = nI x ∧ ((secZ z c t (nI p) 44 = z 44 ∧ secZ z c t (nI p) 45 = z 45 + nI x) ∨ (secZ z c t (nI p) 44 = z 44 + nI x ∧ secZ z c t (nI p) 45 = z 45)) := by
  obtain ⟨⟨f, hf, h39⟩, r, m0, k1, k2, k3, k4, k5⟩ := h
  obtain ⟨d, w, q, hT⟩ := hTV t ht
  obtain ⟨-, hd2, -, hw1, hw2, -, hq1, hq2⟩ := id hT
  obtain ⟨b1, b2, b3, b4⟩ := wq_b hw1 hw2 hq1 hq2
  obtain ⟨r2, hr0, hcar, -, -⟩ := run_carry k4 k5 k1 k2 k3 b1 b2 (Or.inl rfl)
  obtain ⟨s1, s2, s3, s4, s5, s6⟩ := sec_nat (c := c) hT h39 hf hcar hr0 hp
  have hg := gn_le w q p
  have hb : p * q ≤ 9999 * 999 := Nat.mul_le_mul hp hq2
  have hdr : (r2 + gn w q p) / (w * q) < 1 + p + 1 := dr_b hw1 hq1 hr0 (by omega)
  refine ⟨⟨⟨_, Nat.min_le_left _ _, s3⟩, _, w * q, b1, b2, Nat.mod_lt _ b1, s2, s4⟩, _, by omega, s1, ?_⟩
  by_cases hk : p * q < w
  · exact Or.inl (s5 hk)
  · exact Or.inr (s6 hk)
theorem TV.of {z y : Zt} (h : TV z) (hk : ∀ k, k < 36 → y k = z k) : TV y := fun t ht => by
  obtain ⟨d, w, q, hT⟩ := h t ht
  exact ⟨d, w, q, hT.of ht hk⟩
theorem TV.drv {z : Zt} {P S : Nat} (h : TV z) (hd : DV z) (k : Nat) : TV (drvZ z P S k).1 := h.of (fun j hj => drvZ_n hd (by omega) k)
theorem IVd.drv {z : Zt} {P S : Nat} (h : IVd z) (hTV : TV z) (hd : DV z) (hP : P ≤ 9999) (hS1 : 1 ≤ S) : ∀ k, k ≤ S → IVd (drvZ z P S k).1 ∧ ∃ x, x ≤ P * k / S + 2 * k ∧ (drvZ z P S k).2 = nI x ∧ ∀ u v : Int32, (drvZ z P S k).1 44 = z 44 + u → (drvZ z P S k).1 45 = z 45 + v → u + v = nI x
  | 0, _ => by
    refine ⟨h, 0, Nat.zero_le _, rfl, fun u v h1 h2 => ?_⟩
    have e1 : u = 0 := by
      have h3 : z 44 + 0 = z 44 + u := by rw [Int32.add_zero]; exact h1
      exact (Int32.add_right_inj _ |>.mp h3).symm
    have e2 : v = 0 := by
      have h3 : z 45 + 0 = z 45 + v := by rw [Int32.add_zero]; exact h2
      exact (Int32.add_right_inj _ |>.mp h3).symm
    rw [e1, e2]
    rfl
  | k + 1, hk => by
    obtain ⟨i1, x, i2, i3, i4⟩ := IVd.drv (P := P) (S := S) h hTV hd hP hS1 k (by omega)
    obtain ⟨c, t, a1, a2, a3, a4, -⟩ := (hd.drv (P := P) (S := S) k).1.get
    obtain ⟨j1, x2, j2, j3, j4⟩ := i1.sec (c := c) (hTV.drv hd k) a3 (hr_b hP hS1 (show k < S by omega))
    rw [drvZ_s a2 a1 a4 a3, hr_I]
    refine ⟨j1, x + x2, ?_, ?_, fun u v h1 h2 => ?_⟩
    · have e : hr P S k = P * (k + 1) / S - P * k / S := rfl
      have e2 : P * k / S ≤ P * (k + 1) / S := hr_mono
      omega
    · show _ + _ = _
      rw [i3, j3, nI_add]
    · dsimp only at h1 h2
      rcases j4 with ⟨e1, e2⟩ | ⟨e1, e2⟩
      · rw [e1] at h1
        rw [e2] at h2
        obtain ⟨v2, rfl⟩ : ∃ v2, v = v2 + nI x2 := ⟨v - nI x2, (Int32.sub_add_cancel _ _).symm⟩
        rw [← Int32.add_assoc] at h2
        have h6 := i4 u v2 h1 ((Int32.add_left_inj _).mp h2)
        rw [← Int32.add_assoc, h6, nI_add]
      · rw [e1] at h1
        rw [e2] at h2
        obtain ⟨u2, rfl⟩ : ∃ u2, u = u2 + nI x2 := ⟨u - nI x2, (Int32.sub_add_cancel _ _).symm⟩
        rw [← Int32.add_assoc] at h1
        have h6 := i4 u2 v ((Int32.add_left_inj _).mp h1) h2
        rw [Int32.add_assoc, Int32.add_comm (nI x2) v, ← Int32.add_assoc, h6, nI_add]
/-- a tariff's beginning, too -/
def TB (z : Zt) : Prop := ∀ t, t < 3 → ∃ b, b ≤ 999 ∧ z (4 * t) = nI b
theorem hire_IVd {z : Zt} {t : Nat} (hTV : TV z) (hB : TB z) (ht : t < 3) : IVd (hireZ z t) := by
  obtain ⟨b, hb, h1⟩ := hB t ht
  obtain ⟨d, w, q, hT⟩ := hTV t ht
  obtain ⟨-, hd2, hw, hw1, hw2, hq, hq1, hq2⟩ := id hT
  obtain ⟨b1, b2, b3, b4⟩ := wq_b hw1 hw2 hq1 hq2
  refine ⟨⟨b, by omega, ?_⟩, 0, w * q, b1, b2, b1, ?_, ?_⟩
  · unfold hireZ
    rw [upd_n (by omega), upd_n (by omega), upd_s]
    exact h1
  · unfold hireZ
    rw [upd_n (by omega), upd_n (by omega), upd_n (by omega), upd_n (by omega), zer_i (by omega)]
    rfl
  · rw [hireZ_48, hw, hq, pk_mul]
theorem hire_47 {z : Zt} {t : Nat} : hireZ z t 47 = 0 := by
  unfold hireZ
  rw [upd_n (by omega), upd_n (by omega), upd_n (by omega), upd_n (by omega), zer_i (by omega)]
theorem hire_39 {z : Zt} {t : Nat} : hireZ z t 39 = z (4 * t) := by
  unfold hireZ
  rw [upd_n (by omega), upd_n (by omega), upd_s]
