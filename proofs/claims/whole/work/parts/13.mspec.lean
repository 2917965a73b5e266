
/-! what the reference's methods do to its row z of numbers -/
abbrev Zt : Type := Nat → Int32
def carZ (z : Zt) (pr : Int32) : Zt := if pr = z 48 then z else upd (upd z 47 (Int64.toInt32 (Int32.toInt64 (z 47) * Int32.toInt64 pr / Int32.toInt64 (z 48)))) 48 pr
theorem carZ_n {z : Zt} {pr : Int32} {k : Nat} (h : k ≠ 47 ∧ k ≠ 48) : carZ z pr k = z k := by
  unfold carZ
  split
  · rfl
  · rw [upd_n h.2, upd_n h.1]
theorem carZ_48 {z : Zt} {pr : Int32} : carZ z pr 48 = pr := by
  unfold carZ
  split
  · rename_i h; exact h.symm
  · exact upd_s
def drpZ (z : Zt) (t : Nat) (p : Int32) : Int32 :=
  (carZ z (z (4 * t + 2) * z (4 * t + 3)) 47 + (if p * z (4 * t + 3) < z (4 * t + 2) then z (4 * t + 2) else p * z (4 * t + 3))) / (z (4 * t + 2) * z (4 * t + 3))
def secZ (z : Zt) (c t : Nat) (p : Int32) : Zt :=
  upd (upd (upd (upd (upd (carZ z (z (4 * t + 2) * z (4 * t + 3))) 47 (carZ z (z (4 * t + 2) * z (4 * t + 3)) 47 + (if p * z (4 * t + 3) < z (4 * t + 2) then z (4 * t + 2) else p * z (4 * t + 3)))) 47 (carZ z (z (4 * t + 2) * z (4 * t + 3)) 47 + (if p * z (4 * t + 3) < z (4 * t + 2) then z (4 * t + 2) else p * z (4 * t + 3)) - drpZ z t p * (z (4 * t + 2) * z (4 * t + 3)))) 39 (if 9999999 ≤ z 39 + drpZ z t p * z (4 * t + 1) then 9999999 else z 39 + drpZ z t p * z (4 * t + 1))) (if p * z (4 * t + 3) < z (4 * t + 2) then 45 else 44) (z (if p * z (4 * t + 3) < z (4 * t + 2) then 45 else 44) + drpZ z t p)) 37 (nI ((c + 1) % 86400))
def clk (z : Zt) : Nat := (z 37).toNatClampNeg
def tarN (z : Zt) : Nat := (z (12 + clk z / 3600)).toNatClampNeg
def drvZ (z : Zt) (P S : Nat) : Nat → Zt × Int32
  | 0 => (z, 0)
  | k + 1 => (secZ (drvZ z P S k).1 (clk (drvZ z P S k).1) (tarN (drvZ z P S k).1) (nI (P * (k + 1) / S) - nI (P * k / S)), (drvZ z P S k).2 + drpZ (drvZ z P S k).1 (tarN (drvZ z P S k).1) (nI (P * (k + 1) / S) - nI (P * k / S)))
def drvF (z : Zt) (P S : Nat) : Zt := upd (upd (drvZ z P S S).1 41 ((drvZ z P S S).1 41 + nI P)) 42 ((drvZ z P S S).1 42 + nI S)
def hireZ (z : Zt) (t : Nat) : Zt := upd (upd (upd (upd (zer z 39 48) 38 1) 39 (z (4 * t))) 48 (z (4 * t + 2) * z (4 * t + 3))) 49 (z 37)
def costZ (z : Zt) (c P S : Nat) : Zt := drvF (hireZ (upd z 37 (nI c)) (z (12 + c / 3600)).toNatClampNeg) P S
/-- what a drive needs: the clock, the hours' tariffs, ways and times that aren't 0, a product that isn't 0 -/
def BV (z : Zt) : Prop := (∃ c, c < 86400 ∧ z 37 = nI c) ∧ (∀ i, i < 24 → ∃ t, t < 3 ∧ z (12 + i) = nI t) ∧ (∀ t, t < 3 → ¬ z (4 * t + 2) * z (4 * t + 3) = 0)
def DV (z : Zt) : Prop := BV z ∧ ¬ z 48 = 0
theorem BV.get {z : Zt} (h : BV z) : ∃ c t, c < 86400 ∧ z 37 = nI c ∧ t < 3 ∧ z (12 + c / 3600) = nI t ∧ ¬ z (4 * t + 2) * z (4 * t + 3) = 0 := by
  obtain ⟨⟨c, h1, h2⟩, h3, h4⟩ := h
  obtain ⟨t, h5, h6⟩ := h3 (c / 3600) (by omega)
  exact ⟨c, t, h1, h2, h5, h6, h4 t h5⟩
theorem secZ_n {z : Zt} {c t k : Nat} {p : Int32} (h : k ≠ 37 ∧ k ≠ 39 ∧ k ≠ 44 ∧ k ≠ 45 ∧ k ≠ 47 ∧ k ≠ 48) : secZ z c t p k = z k := by
  unfold secZ
  rw [upd_n h.1, upd_n (by split <;> omega), upd_n h.2.1, upd_n (by omega), upd_n (by omega), carZ_n ⟨by omega, by omega⟩]
theorem secZ_37 {z : Zt} {c t : Nat} {p : Int32} : secZ z c t p 37 = nI ((c + 1) % 86400) := upd_s
theorem secZ_48 {z : Zt} {c t : Nat} {p : Int32} : secZ z c t p 48 = z (4 * t + 2) * z (4 * t + 3) := by
  unfold secZ
  rw [upd_n (by omega), upd_n (by split <;> omega), upd_n (by omega), upd_n (by omega), upd_n (by omega), carZ_48]
theorem BV.of {z z2 : Zt} (h : BV z) (h1 : ∃ c, c < 86400 ∧ z2 37 = nI c) (h2 : ∀ k, k < 36 → z2 k = z k) : BV z2 := by
  obtain ⟨-, h3, h4⟩ := h
  refine ⟨h1, fun i hi => ?_, fun t ht => ?_⟩
  · obtain ⟨t, a, b⟩ := h3 i hi
    exact ⟨t, a, by rw [h2 _ (by omega)]; exact b⟩
  · rw [h2 _ (by omega), h2 _ (by omega)]
    exact h4 t ht
theorem DV.sec {z : Zt} {c t : Nat} {p : Int32} (h : DV z) (ht : t < 3) : DV (secZ z c t p) := by
  refine ⟨h.1.of ⟨(c + 1) % 86400, Nat.mod_lt _ (by omega), secZ_37⟩ (fun k hk => secZ_n (by omega)), ?_⟩
  rw [secZ_48]
  exact h.1.2.2 t ht
theorem clk_of {z : Zt} {c : Nat} (h : z 37 = nI c) (hc : c < 86400) : clk z = c := by
  unfold clk
  rw [h]
  exact nI_clamp (by omega)
theorem tarN_of {z : Zt} {c t : Nat} (h : z 37 = nI c) (hc : c < 86400) (h2 : z (12 + c / 3600) = nI t) (ht : t < 3) : tarN z = t := by
  unfold tarN
  rw [clk_of h hc, h2]
  exact nI_clamp (by omega)
theorem DV.drv {z : Zt} {P S : Nat} (h : DV z) : ∀ k, DV (drvZ z P S k).1
  | 0 => h
  | k + 1 => by
    have ih := DV.drv (P := P) (S := S) h k
    obtain ⟨c, t, h1, h2, h3, h4, -⟩ := ih.1.get
    show DV (secZ _ _ _ _)
    exact ih.sec (by rw [tarN_of h2 h1 h4 h3]; exact h3)
theorem drvZ_s {z : Zt} {P S k c t : Nat} (h : (drvZ z P S k).1 37 = nI c) (hc : c < 86400) (h2 : (drvZ z P S k).1 (12 + c / 3600) = nI t) (ht : t < 3) :
    drvZ z P S (k + 1) = (secZ (drvZ z P S k).1 c t (nI (P * (k + 1) / S) - nI (P * k / S)), (drvZ z P S k).2 + drpZ (drvZ z P S k).1 t (nI (P * (k + 1) / S) - nI (P * k / S))) := by
  show (_, _) = _
  rw [clk_of h hc, tarN_of h hc h2 ht]
theorem hireZ_n {z : Zt} {t k : Nat} (h : ¬ (38 ≤ k ∧ k < 50)) : hireZ z t k = z k := by
  unfold hireZ
  rw [upd_n (by omega), upd_n (by omega), upd_n (by omega), upd_n (by omega), zer_n (by omega)]
theorem hireZ_48 {z : Zt} {t : Nat} : hireZ z t 48 = z (4 * t + 2) * z (4 * t + 3) := by
  unfold hireZ
  rw [upd_n (by omega), upd_s]
theorem BV.hire {z : Zt} {t : Nat} (h : BV z) (ht : t < 3) : DV (hireZ z t) := by
  obtain ⟨c, h1, h2⟩ := h.1
  refine ⟨h.of ⟨c, h1, by rw [hireZ_n (by omega)]; exact h2⟩ (fun k hk => hireZ_n (by omega)), ?_⟩
  rw [hireZ_48]
  exact h.2.2 t ht
theorem BV.set37 {z : Zt} {c : Nat} (h : BV z) (hc : c < 86400) : BV (upd z 37 (nI c)) := h.of ⟨c, hc, upd_s⟩ (fun k hk => upd_n (by omega))
theorem i64_0 {x : Int32} (h : ¬ x = 0) : ¬ x.toInt64 = 0 := fun q => h (by
  have h1 := congrArg Int64.toInt q
  rw [Int32.toInt_toInt64] at h1
  apply Int32.toInt_inj.mp
  rw [h1]
  decide)
/-! rows that are copied -/
def cpO (f g : Nat → Int32) (off j : Nat) : Nat → Int32 := fun k => if off ≤ k ∧ k < off + j then f (k - off) else g k
def cpI (f g : Nat → Int32) (off j : Nat) : Nat → Int32 := fun k => if k < j then f (off + k) else g k
def shU (f : Nat → Int32) (j : Nat) : Nat → Int32 := fun k => if k < j then f (k + 113) else f k
def shL (f : Nat → Int32) (j : Nat) : Nat → Int32 := fun k => if 53 + j < k ∧ k < 113 then f (k - 5) else f k
theorem cpO_0 {f g : Nat → Int32} {off : Nat} : cpO f g off 0 = g := by funext k; unfold cpO; rw [if_neg (by omega)]
theorem cpO_s {f g : Nat → Int32} {off j : Nat} : upd (cpO f g off j) (off + j) (f j) = cpO f g off (j + 1) := by
  funext k
  show (if k = off + j then _ else _) = _
  by_cases h : k = off + j
  · rw [if_pos h]
    unfold cpO
    rw [if_pos (by omega)]
    congr 1
    omega
  · rw [if_neg h]
    unfold cpO
    by_cases h2 : off ≤ k ∧ k < off + j
    · rw [if_pos h2, if_pos (by omega)]
    · rw [if_neg h2, if_neg (by omega)]
theorem cpI_0 {f g : Nat → Int32} {off : Nat} : cpI f g off 0 = g := by funext k; unfold cpI; rw [if_neg (by omega)]
theorem cpI_s {f g : Nat → Int32} {off j : Nat} : upd (cpI f g off j) j (f (off + j)) = cpI f g off (j + 1) := by
  funext k
  show (if k = j then _ else _) = _
  by_cases h : k = j
  · rw [if_pos h]
    unfold cpI
    rw [if_pos (by omega), h]
  · rw [if_neg h]
    unfold cpI
    by_cases h2 : k < j
    · rw [if_pos h2, if_pos (by omega)]
    · rw [if_neg h2, if_neg (by omega)]
theorem shU_0 {f : Nat → Int32} : shU f 0 = f := by funext k; unfold shU; rw [if_neg (by omega)]
theorem shU_r {f : Nat → Int32} {j : Nat} : shU f j (j + 113) = f (j + 113) := by unfold shU; rw [if_neg (by omega)]
theorem shU_s {f : Nat → Int32} {j : Nat} : upd (shU f j) j (f (j + 113)) = shU f (j + 1) := by
  funext k
  show (if k = j then _ else _) = _
  by_cases h : k = j
  · rw [if_pos h]
    unfold shU
    rw [if_pos (by omega), h]
  · rw [if_neg h]
    unfold shU
    by_cases h2 : k < j
    · rw [if_pos h2, if_pos (by omega)]
    · rw [if_neg h2, if_neg (by omega)]
theorem shL_0 {f : Nat → Int32} : shL f 59 = f := by funext k; unfold shL; rw [if_neg (by omega)]
theorem shL_r {f : Nat → Int32} {j : Nat} (h : 5 ≤ j) : shL f j (53 + j - 5) = f (53 + j - 5) := by unfold shL; rw [if_neg (by omega)]
theorem shL_s {f : Nat → Int32} {j : Nat} (h : 5 ≤ j + 1) (h2 : j + 1 < 60) : upd (shL f (j + 1)) (53 + (j + 1)) (f (53 + (j + 1) - 5)) = shL f j := by
  funext k
  show (if k = 53 + (j + 1) then _ else _) = _
  by_cases h : k = 53 + (j + 1)
  · rw [if_pos h]
    unfold shL
    rw [if_pos (by omega), h]
  · rw [if_neg h]
    unfold shL
    by_cases h3 : 53 + (j + 1) < k ∧ k < 113
    · rw [if_pos h3, if_pos (by omega)]
    · rw [if_neg h3, if_neg (by omega)]
theorem cpI_e {f g : Nat → Int32} {off n : Nat} : ∀ k, k < n → cpI f g off n k = f (off + k) := fun k hk => if_pos hk
theorem zer_0 {f : Nat → Int32} : zer f 39 39 = f := by funext k; unfold zer; rw [if_neg (by omega)]
theorem zer_s {f : Nat → Int32} {j : Nat} (h : 39 ≤ j) : upd (zer f 39 j) j 0 = zer f 39 (j + 1) := by
  funext k
  show (if k = j then _ else _) = _
  by_cases h2 : k = j
  · rw [if_pos h2]
    unfold zer
    rw [if_pos (by omega)]
  · rw [if_neg h2]
    unfold zer
    by_cases h3 : 39 ≤ k ∧ k < j
    · rw [if_pos h3, if_pos (by omega)]
    · rw [if_neg h3, if_neg (by omega)]
/-- the history behind a record -/
def recP (z past : Nat → Int32) (pm : Nat) : Nat → Int32 := if pm = 6 then cpO z (shU past 565) 565 113 else cpO z past (pm * 113) 113
def endZ (z : Zt) : Zt := upd (upd (upd (upd (upd (upd (upd (upd (upd (shL z 4) 53 (z 39 + z 40)) 54 (z 41)) 55 (z 42 + z 43)) 56 (z 44 + z 45)) 57 (z 49)) 52 (if 12 ≤ z 52 then 12 else z 52 + 1)) 50 (z 50 + 1)) 51 (z 51 + (z 39 + z 40) - (z 51 + (z 39 + z 40)) / 1000000 * 1000000)) 38 0
def restZ (z : Zt) (c s : Nat) : Zt := upd (upd z 37 (nI ((c + s) % 86400))) 43 (z 43 + (if z 38 = 2 then nI s else 0))
def haltZ (z : Zt) : Zt := upd z 38 (3 - z 38)
def extraZ (z : Zt) : Zt := upd (upd z 46 (z 46 + 1)) 40 (z 40 + z 36)
