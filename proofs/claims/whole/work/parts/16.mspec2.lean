theorem V_tabIn {g : Gd} {X : Bd} {own : String} {cc : ByteArray} {n d mc ms cs ss pc : Nat} {ws : va_W} {L : List (Nat × Value)} {st : List Value} {dflt lo hi : Int} {offs : Array Int} {len : Nat} {x : Int32} {off : Int} {tgt : Nat} (C : Cx g X own cc n d mc ms) (hdg : decode cc pc = .ok (.tableswitch dflt lo hi offs, len)) (h1 : ¬ x.toInt < lo) (h2 : ¬ hi < x.toInt) (ho : offs[(x.toInt - lo).toNat]? = some off) (ht : (pc : Int) + off = (tgt : Int)) (kk : V g X cs ss ws tgt L st) : V g X cs ss ws pc L (.int x :: st) := by
  obtain ⟨p, l, e, R, s, m, args, below, meth, c, Q, A, n'⟩ := X
  obtain ⟨hx, hb, hml, hts, hown, ⟨hK, hNK, hZS⟩, hA, hn, hd1, hd2, hd3, hd4⟩ := C
  subst hn
  intro H locs ls hP hD hS hl
  exact lv_tableIn hx hb hdg h1 h2 ho ht (kk H locs ls hP hD hS hl)
theorem V_tabOut {g : Gd} {X : Bd} {own : String} {cc : ByteArray} {n d mc ms cs ss pc : Nat} {ws : va_W} {L : List (Nat × Value)} {st : List Value} {dflt lo hi : Int} {offs : Array Int} {len : Nat} {x : Int32} {tgt : Nat} (C : Cx g X own cc n d mc ms) (hdg : decode cc pc = .ok (.tableswitch dflt lo hi offs, len)) (h : x.toInt < lo ∨ hi < x.toInt) (ht : (pc : Int) + dflt = (tgt : Int)) (kk : V g X cs ss ws tgt L st) : V g X cs ss ws pc L (.int x :: st) := by
  obtain ⟨p, l, e, R, s, m, args, below, meth, c, Q, A, n'⟩ := X
  obtain ⟨hx, hb, hml, hts, hown, ⟨hK, hNK, hZS⟩, hA, hn, hd1, hd2, hd3, hd4⟩ := C
  subst hn
  intro H locs ls hP hD hS hl
  exact lv_tableOut hx hb hdg h ht (kk H locs ls hP hD hS hl)
theorem V_lookup {g : Gd} {X : Bd} {own : String} {cc : ByteArray} {n d mc ms cs ss pc : Nat} {ws : va_W} {L : List (Nat × Value)} {st : List Value} {dflt : Int} {ps : Array (Int × Int)} {len : Nat} {x : Int32} {off : Int} {tgt : Nat} (C : Cx g X own cc n d mc ms) (hdg : decode cc pc = .ok (.lookupswitch dflt ps, len)) (hp : (ps.toList.zip (ps.toList.drop 1)).all (fun (a, next) => a.1 < next.1) = true) (ho : Op.lookupswitch.offset ps.toList dflt x.toInt = off) (ht : (pc : Int) + off = (tgt : Int)) (kk : V g X cs ss ws tgt L st) : V g X cs ss ws pc L (.int x :: st) := by
  obtain ⟨p, l, e, R, s, m, args, below, meth, c, Q, A, n'⟩ := X
  obtain ⟨hx, hb, hml, hts, hown, ⟨hK, hNK, hZS⟩, hA, hn, hd1, hd2, hd3, hd4⟩ := C
  subst hn
  intro H locs ls hP hD hS hl
  exact lv_lookup hx hb hdg hp ho ht (kk H locs ls hP hD hS hl)

theorem tab_out {x : Int32} {lo hi : Int} (h : ∀ i : Int, lo ≤ i → i ≤ hi → ¬ x.toInt = i) : x.toInt < lo ∨ hi < x.toInt := by
  by_cases h1 : x.toInt < lo
  · exact Or.inl h1
  · by_cases h2 : hi < x.toInt
    · exact Or.inr h2
    · exact absurd rfl (h x.toInt (by omega) (by omega))
def okS (s : Int32) : Prop := ¬ s < 1 ∧ ¬ 9999 < s
def ok99 (s : Int32) : Prop := ¬ s < 0 ∧ ¬ 99 < s
def ok4 (s : Int32) : Prop := ¬ s < 0 ∧ ¬ 4 < s
def ok8 (s : Int32) : Prop := ¬ s < 0 ∧ ¬ 8 < s
def okF (s co : Int32) : Prop := ¬ s < 1 ∧ ¬ 999 < s ∧ ¬ co < 0
def okV (b d w q : Int32) : Prop := (¬ b < 0 ∧ ¬ 999 < b) ∧ (¬ d < 1 ∧ ¬ 99 < d) ∧ (¬ w < 1 ∧ ¬ 999 < w) ∧ (¬ q < 1 ∧ ¬ 999 < q)
def okHr (h t : Int32) : Prop := (¬ h < 0 ∧ ¬ 23 < h) ∧ okT t
def okL (a n : Int32) : Prop := ¬ a < 0 ∧ ¬ n - 1 < a
theorem nI_m1 {j : Nat} (h : 1 ≤ j) : nI j + Int32.ofInt (-1) = nI (j - 1) := by
  have := pk_m1 (j - 1)
  rw [show j - 1 + 1 = j from by omega] at this
  exact this
theorem okL_get {a n : Int32} {l : Nat} (hn : n = nI l) (hl : l ≤ 12) (h : okL a n) : ∃ a0, a0 < l ∧ a = nI a0 := by
  subst hn
  rcases Nat.eq_zero_or_pos l with rfl | hp
  · exfalso
    have h1 : (0 : Int32) ≤ a := Int32.not_lt.mp h.1
    have h2 : a ≤ nI 0 - 1 := Int32.not_lt.mp h.2
    have e1 := Int32.le_iff_toInt_le.mp h1
    have e2 := Int32.le_iff_toInt_le.mp h2
    have e3 : (nI 0 - 1).toInt = -1 := by decide
    have e4 : (0 : Int32).toInt = 0 := by decide
    omega
  · obtain ⟨j, -, h1, h2⟩ := rg_nI 0 (l - 1) rfl (show nI l - 1 = nI (l - 1) from pk_sub (b := 1) hp) (by omega) (by omega) h.1 h.2
    exact ⟨j, by omega, h2⟩
def tarZ (z : Zt) (t : Nat) (b d w q : Int32) : Zt := upd (upd (upd (upd z (4 * t) b) (4 * t + 1) d) (4 * t + 2) w) (4 * t + 3) q
theorem shL_n {f : Nat → Int32} {k j : Nat} (h : ¬ (53 + j < k ∧ k < 113)) : shL f j k = f k := if_neg h
theorem shL_t {f : Nat → Int32} {j : Nat} (h : 5 ≤ j) (h2 : j < 60) : upd (shL f j) (53 + j) (f (53 + j - 5)) = shL f (j - 1) := by
  have := shL_s (f := f) (j := j - 1) (by omega) (by omega)
  rw [show j - 1 + 1 = j from by omega] at this
  exact this
/-- the greatest number up to n for which f is no more than co -/
def farM (f : Nat → Int32) (co : Int32) : Nat → Int32
  | 0 => if co < f 0 then -6 else 0
  | n + 1 => if co < f (n + 1) then farM f co n else nI (n + 1)
def farR (f : Nat → Int32) (co : Int32) : Int32 := if co < f 0 then -6 else farM f co 999
def chp (f : Nat → Int32) : Nat → Int32 × Int32
  | 0 => (0, -6)
  | n + 1 => if n = 0 ∨ f n < (chp f n).2 then (nI n, f n) else chp f n
/-- two rows that a drive can't tell apart -/
def agr (z y : Zt) : Prop := ∀ k, (k < 36 ∨ (37 ≤ k ∧ k < 50)) → z k = y k
theorem agr.car {z y : Zt} {p : Int32} (h : agr z y) : agr (carZ z p) (carZ y p) := by
  intro k hk
  unfold carZ
  rw [h 48 (by omega)]
  split
  · exact h k hk
  · rw [h 47 (by omega)]
    show (if k = 48 then _ else if k = 47 then _ else _) = (if k = 48 then _ else if k = 47 then _ else _)
    rw [h k hk]
theorem agr.upd {z y : Zt} (h : agr z y) (j : Nat) {x x2 : Int32} (hx : x = x2) : agr (upd z j x) (upd y j x2) := by
  intro k hk
  show (if k = j then _ else _) = (if k = j then _ else _)
  rw [h k hk, hx]
theorem agr.drp {z y : Zt} {t : Nat} {p : Int32} (h : agr z y) (ht : t < 3) : drpZ z t p = drpZ y t p := by
  unfold drpZ
  rw [h (4 * t + 2) (by omega), h (4 * t + 3) (by omega), h.car 47 (by omega)]
theorem agr.sec {z y : Zt} {c t : Nat} {p : Int32} (h : agr z y) (ht : t < 3) : agr (secZ z c t p) (secZ y c t p) := by
  unfold secZ
  rw [h.drp ht, h (4 * t + 1) (by omega), h (4 * t + 2) (by omega), h (4 * t + 3) (by omega), h 39 (by omega), h.car 47 (by omega)]
  refine agr.upd (agr.upd (agr.upd (agr.upd (agr.upd h.car _ rfl) _ rfl) _ rfl) _ ?_) _ rfl
  rw [h _ (by split <;> omega)]
theorem agr.drv {z y : Zt} {P S : Nat} (h : agr z y) (hd : DV z) : ∀ k, agr (drvZ z P S k).1 (drvZ y P S k).1 ∧ (drvZ z P S k).2 = (drvZ y P S k).2
  | 0 => ⟨h, rfl⟩
  | k + 1 => by
    obtain ⟨h1, h2⟩ := agr.drv (P := P) (S := S) h hd k
    obtain ⟨c, t, a1, a2, a3, a4, -⟩ := (hd.drv (P := P) (S := S) k).1.get
    have b2 : (drvZ y P S k).1 37 = nI c := by rw [← h1 37 (by omega)]; exact a2
    have b4 : (drvZ y P S k).1 (12 + c / 3600) = nI t := by rw [← h1 _ (by omega)]; exact a4
    rw [drvZ_s a2 a1 a4 a3, drvZ_s b2 a1 b4 a3]
    exact ⟨h1.sec a3, by show _ + _ = _ + _; rw [h2, h1.drp a3]⟩
theorem agr.hire {z y : Zt} {t : Nat} (h : ∀ k, k < 36 ∨ k = 37 → z k = y k) (ht : t < 3) : agr (hireZ z t) (hireZ y t) := by
  intro k hk
  unfold hireZ
  rw [h (4 * t) (by omega), h (4 * t + 2) (by omega), h (4 * t + 3) (by omega), h 37 (by omega)]
  show (if k = 49 then _ else if k = 48 then _ else if k = 39 then _ else if k = 38 then _ else zer z 39 48 k) = (if k = 49 then _ else if k = 48 then _ else if k = 39 then _ else if k = 38 then _ else zer y 39 48 k)
  unfold zer
  by_cases h1 : 39 ≤ k ∧ k < 48
  · rw [if_pos h1, if_pos h1]
  · rw [if_neg h1, if_neg h1]
    by_cases h2 : k < 36 ∨ k = 37
    · rw [h k h2]
    · rcases (show k = 38 ∨ k = 48 ∨ k = 49 by omega) with rfl | rfl | rfl <;> rfl
theorem drvF_39 {z : Zt} {P S : Nat} : drvF z P S 39 = (drvZ z P S S).1 39 := by unfold drvF; rw [upd_n (by omega), upd_n (by omega)]
theorem cost_congr {z y : Zt} {c P S : Nat} (hb : BV z) (hc : c < 86400) (h : ∀ k, k < 36 → z k = y k) : costZ z c P S 39 = costZ y c P S 39 := by
  obtain ⟨t, h1, h2⟩ := hb.2.1 (c / 3600) (by omega)
  unfold costZ
  rw [← h (12 + c / 3600) (by omega), h2, nI_clamp (by omega), drvF_39, drvF_39]
  have ha : agr (hireZ (upd z 37 (nI c)) t) (hireZ (upd y 37 (nI c)) t) := agr.hire (fun k hk => by
    show (if k = 37 then _ else _) = (if k = 37 then _ else _)
    by_cases h3 : k = 37
    · rw [if_pos h3, if_pos h3]
    · rw [if_neg h3, if_neg h3, h k (by omega)]) h1
  exact (ha.drv ((hb.set37 hc).hire h1) S).1 39 (by omega)
theorem drvZ_n {z : Zt} {P S k : Nat} (hd : DV z) (h : k ≠ 37 ∧ k ≠ 39 ∧ k ≠ 44 ∧ k ≠ 45 ∧ k ≠ 47 ∧ k ≠ 48) : ∀ j, (drvZ z P S j).1 k = z k
  | 0 => rfl
  | j + 1 => by
    show secZ _ _ _ _ k = z k
    rw [secZ_n h]
    exact drvZ_n hd h j
theorem drvF_n {z : Zt} {P S k : Nat} (hd : DV z) (h : k ≠ 37 ∧ k ≠ 39 ∧ k ≠ 44 ∧ k ≠ 45 ∧ k ≠ 47 ∧ k ≠ 48 ∧ k ≠ 41 ∧ k ≠ 42) : drvF z P S k = z k := by
  unfold drvF
  rw [upd_n (by omega), upd_n (by omega), drvZ_n hd (by omega)]
theorem drvF_BV {z : Zt} {P S : Nat} (hd : DV z) : BV (drvF z P S) := by
  obtain ⟨c, h1, h2⟩ := (hd.drv (P := P) (S := S) S).1.1
  refine hd.1.of ⟨c, h1, ?_⟩ (fun k hk => drvF_n hd (by omega))
  unfold drvF
  rw [upd_n (by omega), upd_n (by omega)]
  exact h2
theorem costZ_low {z : Zt} {c P S k : Nat} (hb : BV z) (hc : c < 86400) (hk : k < 36) : costZ z c P S k = z k := by
  obtain ⟨t, h1, h2⟩ := hb.2.1 (c / 3600) (by omega)
  unfold costZ
  rw [h2, nI_clamp (by omega), drvF_n ((hb.set37 hc).hire h1) (by omega), hireZ_n (by omega), upd_n (by omega)]
theorem costZ_BV {z : Zt} {c P S : Nat} (hb : BV z) (hc : c < 86400) : BV (costZ z c P S) := by
  obtain ⟨t, h1, h2⟩ := hb.2.1 (c / 3600) (by omega)
  unfold costZ
  rw [h2, nI_clamp (by omega)]
  exact drvF_BV ((hb.set37 hc).hire h1)

