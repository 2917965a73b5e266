
theorem cut_b1 {z : Zt} {P S a n t d w q r : Nat} (hC : CUT z P S a n t) (hT : TP z t d w q) (hr0 : r < w * q) : r + Gm w q P S a n < 2 ^ 31 ∧ (r + Gm w q P S a n) / (w * q) ≤ 20000 := by
  obtain ⟨c1, c2, c3, c4, c5, c6, -⟩ := hC
  obtain ⟨-, -, -, hw1, hw2, -, hq1, hq2⟩ := hT
  obtain ⟨b1, b2, b3, b4⟩ := wq_b hw1 hw2 hq1 hq2
  have hG := Gm_le (w := w) (q := q) (P := P) (S := S) (a := a) n
  have hx : P * (a + n) / S - P * a / S ≤ P := Nat.le_trans (Nat.sub_le _ _) (pd_le (P := P) c4 c1)
  have hbx : (P * (a + n) / S - P * a / S) * q ≤ 9999 * 999 := Nat.mul_le_mul (by omega) hq2
  have hbi : n * w ≤ 3600 * 999 := Nat.mul_le_mul c2 hw2
  have h3 := dr_b hw1 hq1 hr0 hG
  exact ⟨by omega, by omega⟩
theorem cut_b2 {w q r p : Nat} (hw1 : 1 ≤ w) (hw2 : w ≤ 999) (hq1 : 1 ≤ q) (hq2 : q ≤ 999) (hr0 : r < w * q) (hp : p ≤ 9999) : r + gn w q p < 2 ^ 31 ∧ (r + gn w q p) / (w * q) ≤ 20000 := by
  obtain ⟨b1, b2, b3, b4⟩ := wq_b hw1 hw2 hq1 hq2
  have hg := gn_le w q p
  have hb : p * q ≤ 9999 * 999 := Nat.mul_le_mul hp hq2
  have h3 : (r + gn w q p) / (w * q) < 1 + p + 1 := dr_b hw1 hq1 hr0 (by omega)
  exact ⟨by omega, by omega⟩
theorem cut_f0 {w q r f d P S a : Nat} (hr0 : r < w * q) (hf : f ≤ 9999999) : min 9999999 (f + (r + Gm w q P S a 0) / (w * q) * d) = f := by
  have e0 : (r + Gm w q P S a 0) = r := rfl
  rw [e0, Nat.div_eq_of_lt hr0, Nat.zero_mul]
  exact Nat.min_eq_right hf
theorem gst_r {w q r P S a i : Nat} : ((r + Gm w q P S a i) % (w * q) + gn w q (hr P S (a + i))) % (w * q) = (r + Gm w q P S a (i + 1)) % (w * q) := by
  have hGs : Gm w q P S a (i + 1) = Gm w q P S a i + gn w q (hr P S (a + i)) := rfl
  rw [hGs, ← Nat.add_assoc, Nat.add_mod ((r + Gm w q P S a i) % (w * q)), Nat.mod_mod, ← Nat.add_mod]
theorem gst_d {w q r P S a i : Nat} (hm : 0 < w * q) : (r + Gm w q P S a i) / (w * q) + ((r + Gm w q P S a i) % (w * q) + gn w q (hr P S (a + i))) / (w * q) = (r + Gm w q P S a (i + 1)) / (w * q) := by
  have hGs : Gm w q P S a (i + 1) = Gm w q P S a i + gn w q (hr P S (a + i)) := rfl
  have e1 := Nat.div_add_mod (r + Gm w q P S a i) (w * q)
  have e2 : r + Gm w q P S a (i + 1) = ((r + Gm w q P S a i) % (w * q) + gn w q (hr P S (a + i))) + (w * q) * ((r + Gm w q P S a i) / (w * q)) := by rw [hGs]; omega
  rw [e2, Nat.add_mul_div_left _ _ hm]
  omega
theorem gst_f {w q r f d P S a i : Nat} (hm : 0 < w * q) : min 9999999 (min 9999999 (f + (r + Gm w q P S a i) / (w * q) * d) + ((r + Gm w q P S a i) % (w * q) + gn w q (hr P S (a + i))) / (w * q) * d) = min 9999999 (f + (r + Gm w q P S a (i + 1)) / (w * q) * d) := by
  have e3 : (r + Gm w q P S a (i + 1)) / (w * q) * d = (r + Gm w q P S a i) / (w * q) * d + ((r + Gm w q P S a i) % (w * q) + gn w q (hr P S (a + i))) / (w * q) * d := by rw [← gst_d hm, Nat.add_mul]
  omega
/-- how many of the first i seconds have one pulse more -/
def mr (P S a i : Nat) : Nat := P * (a + i) / S - P * a / S - P / S * i
theorem mr_step {P S a i : Nat} (hS : 1 ≤ S) : mr P S a (i + 1) + P / S = mr P S a i + hr P S (a + i) := by
  obtain ⟨h1, h2, -⟩ := Gm_sum (w := 1) (q := 1) (P := P) (S := S) (a := a) hS i
  have h4 : P * a / S ≤ P * (a + i) / S := Nat.div_le_div_right (Nat.mul_le_mul_left P (by omega))
  have h5 : P * (a + i) / S ≤ P * (a + i + 1) / S := hr_mono
  have h6 : (P * (a + (i + 1)) / S - P * a / S) = (P * (a + i) / S - P * a / S) + hr P S (a + i) := by unfold hr; rw [← Nat.add_assoc]; omega
  have h7 : P / S * (i + 1) = P / S * i + P / S := by rw [Nat.mul_add, Nat.mul_one]
  have h8 : P / S ≤ hr P S (a + i) := by rcases hr_few (P := P) (k := a + i) hS with e | e <;> omega
  unfold mr
  rw [h6, h7]
  omega
theorem mr_mono {P S a : Nat} (hS : 1 ≤ S) : ∀ i j, mr P S a i ≤ mr P S a (i + j)
  | i, 0 => Nat.le_refl _
  | i, j + 1 => by
    have h1 := mr_mono (P := P) (a := a) hS i j
    have h2 := mr_step (P := P) (a := a) (i := i + j) hS
    have h3 : P / S ≤ hr P S (a + (i + j)) := by rcases hr_few (P := P) (k := a + (i + j)) hS with e | e <;> omega
    rw [← Nat.add_assoc]
    omega
theorem cut_few {P S a n : Nat} (hS : 1 ≤ S) (h : P * (a + n) / S - P * a / S - P / S * n = 0) : ∀ j, j < n → hr P S (a + j) = P / S := by
  intro j hj
  have h1 := mr_mono (P := P) (a := a) hS (j + 1) (n - (j + 1))
  rw [show j + 1 + (n - (j + 1)) = n from by omega] at h1
  have h2 : mr P S a n = 0 := h
  have h3 := mr_step (P := P) (a := a) (i := j) hS
  rcases hr_few (P := P) (k := a + j) hS with e | e
  · exact e
  · omega
theorem cut_allW {w q P S a n : Nat} (hS : 1 ≤ S) (h : (P * (a + n) / S - P * a / S - P / S * n = 0 ∧ ¬ P / S * q < w) ∨ (¬ P / S * q < w ∧ ¬ (P / S + 1) * q < w)) : ∀ j, j < n → ¬ hr P S (a + j) * q < w := by
  intro j hj
  rcases h with ⟨h1, h2⟩ | ⟨h1, h2⟩
  · rw [cut_few hS h1 j hj]; exact h2
  · rcases hr_few (P := P) (k := a + j) hS with e | e <;> rw [e] <;> assumption
theorem cut_allT {w q P S a n : Nat} (hS : 1 ≤ S) (h : (P * (a + n) / S - P * a / S - P / S * n = 0 ∧ P / S * q < w) ∨ (P / S * q < w ∧ (P / S + 1) * q < w)) : ∀ j, j < n → hr P S (a + j) * q < w := by
  intro j hj
  rcases h with ⟨h1, h2⟩ | ⟨h1, h2⟩
  · rw [cut_few hS h1 j hj]; exact h2
  · rcases hr_few (P := P) (k := a + j) hS with e | e <;> rw [e] <;> assumption
section
variable {z : Zt} {P S a n t f r d w q : Nat} {x y bw bt : Int32}
theorem cut_way (hd : DV z) (hC : CUT z P S a n t) (hT : TP z t d w q) (h39 : (drvZ z P S a).1 39 = nI f) (hf : f ≤ 9999999) (hcar : carZ (drvZ z P S a).1 (nI (w * q)) 47 = nI r) (hr0 : r < w * q) (h44 : (drvZ z P S a).1 44 = x + bw) (h45 : (drvZ z P S a).1 45 = y + bt) (hk : ∀ j, j < n → ¬ hr P S (a + j) * q < w) : (drvZ z P S (a + n)).1 44 = x + (bw + nI ((r + Gm w q P S a n) / (w * q))) ∧ (drvZ z P S (a + n)).1 45 = y + bt := by
  obtain ⟨-, -, -, -, h5⟩ := cut_nat hd hC hT h39 hf hcar hr0 n (Nat.le_refl n)
  obtain ⟨e1, e2⟩ := h5 hk
  rw [e1, e2, h44, h45, Int32.add_assoc]
  exact ⟨rfl, rfl⟩
theorem cut_time (hd : DV z) (hC : CUT z P S a n t) (hT : TP z t d w q) (h39 : (drvZ z P S a).1 39 = nI f) (hf : f ≤ 9999999) (hcar : carZ (drvZ z P S a).1 (nI (w * q)) 47 = nI r) (hr0 : r < w * q) (h44 : (drvZ z P S a).1 44 = x + bw) (h45 : (drvZ z P S a).1 45 = y + bt) (hk : ∀ j, j < n → hr P S (a + j) * q < w) : (drvZ z P S (a + n)).1 44 = x + bw ∧ (drvZ z P S (a + n)).1 45 = y + (bt + nI ((r + Gm w q P S a n) / (w * q))) := by
  obtain ⟨-, -, -, h4, -⟩ := cut_nat hd hC hT h39 hf hcar hr0 n (Nat.le_refl n)
  obtain ⟨e1, e2⟩ := h4 hk
  rw [e1, e2, h44, h45, Int32.add_assoc]
  exact ⟨rfl, rfl⟩
theorem cut_kind (hd : DV z) (hC : CUT z P S a n t) (hT : TP z t d w q) (h39 : (drvZ z P S a).1 39 = nI f) (hf : f ≤ 9999999) (hcar : carZ (drvZ z P S a).1 (nI (w * q)) 47 = nI r) (hr0 : r < w * q) (i : Nat) (hi : i < n) :
    (hr P S (a + i) * q < w → (drvZ z P S (a + i + 1)).1 44 = (drvZ z P S (a + i)).1 44 ∧ (drvZ z P S (a + i + 1)).1 45 = (drvZ z P S (a + i)).1 45 + nI (((r + Gm w q P S a i) % (w * q) + gn w q (hr P S (a + i))) / (w * q)))
    ∧ (¬ hr P S (a + i) * q < w → (drvZ z P S (a + i + 1)).1 44 = (drvZ z P S (a + i)).1 44 + nI (((r + Gm w q P S a i) % (w * q) + gn w q (hr P S (a + i))) / (w * q)) ∧ (drvZ z P S (a + i + 1)).1 45 = (drvZ z P S (a + i)).1 45) := by
  obtain ⟨i1, i2, -, -, -⟩ := cut_nat hd hC hT h39 hf hcar hr0 i (by omega)
  obtain ⟨c1, c2, c3, c4, c5, c6, hc⟩ := hC
  obtain ⟨cc, ec⟩ := hc i hi
  obtain ⟨-, -, -, hw1, hw2, -, hq1, hq2⟩ := id hT
  obtain ⟨b1, b2, b3, b4⟩ := wq_b hw1 hw2 hq1 hq2
  obtain ⟨s1, s2, s3, s4, s5, s6⟩ := sec_nat (c := cc) (p := hr P S (a + i)) (hT.of c6 (fun k hk => drvZ_n hd (by omega) (a + i))) i2 (by omega) i1 (Nat.mod_lt _ (by omega)) (hr_b c3 c4 (by omega))
  rw [ec]
  exact ⟨s5, s6⟩
end
