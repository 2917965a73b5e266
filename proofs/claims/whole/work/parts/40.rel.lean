
/-! the class's meter and the reference's row -/
def RM (N H G L : Nat → Int32) (z : Zt) : Prop := (∀ k, k < 12 → N k = z k) ∧ (∀ k, k < 24 → H k = z (12 + k)) ∧ (∀ k, 36 ≤ k → k ≤ 52 → k ≠ 48 → G k = z k) ∧ (G 48 = z 48 ∨ (G 48 = 0 ∧ z 47 = 0)) ∧ ∃ jl, jl < 12 ∧ G 113 = nI jl ∧ ∀ a q, a < 12 → q < 5 → L ((jl + 11 - a) % 12 * 5 + q) = z (53 + 5 * a + q)
theorem RM.g {N H G L : Nat → Int32} {z : Zt} (h : RM N H G L z) (k : Nat) (h1 : 36 ≤ k) (h2 : k ≤ 52) (h3 : k ≠ 48) : G k = z k := h.2.2.1 k h1 h2 h3
theorem upd_ne {f : Nat → Int32} {k j : Nat} {x : Int32} (h : j ≠ k) : upd f k x j = f j := upd_n h
theorem RM.hire {N H G L : Nat → Int32} {z : Zt} {c t : Nat} (h : RM N H G L z) (hz : z 37 = nI c) (ht : t < 3) : RM N H (gHire G N c t) L (hireZ z t) := by
  obtain ⟨h1, h2, h3, h4, jl, h5, h6, h7⟩ := h
  refine ⟨fun k hk => by rw [hireZ_n (by omega)]; exact h1 k hk, fun k hk => by rw [hireZ_n (by omega)]; exact h2 k hk, fun k ha hb hc => ?_, Or.inr ⟨rfl, hire_47⟩, jl, h5, h6, fun a q ha hq => by rw [hireZ_n (by omega)]; exact h7 a q ha hq⟩
  have hs : k = 36 ∨ k = 37 ∨ k = 38 ∨ k = 39 ∨ k = 40 ∨ k = 41 ∨ k = 42 ∨ k = 43 ∨ k = 44 ∨ k = 45 ∨ k = 46 ∨ k = 47 ∨ k = 49 ∨ k = 50 ∨ k = 51 ∨ k = 52 := by omega
  rcases hs with rfl | rfl | rfl | rfl | rfl | rfl | rfl | rfl | rfl | rfl | rfl | rfl | rfl | rfl | rfl | rfl
  · exact (h3 36 (by omega) (by omega) (by omega)).trans (hireZ_n (by omega)).symm
  · exact (h3 37 (by omega) (by omega) (by omega)).trans (hireZ_n (by omega)).symm
  · exact hireZ_38.symm
  · show N (t * 4) = _
    rw [hire_39, Nat.mul_comm]
    exact h1 _ (by omega)
  · exact (hireZ_0 (by omega)).symm
  · exact (hireZ_0 (by omega)).symm
  · exact (hireZ_0 (by omega)).symm
  · exact (hireZ_0 (by omega)).symm
  · exact (hireZ_0 (by omega)).symm
  · exact (hireZ_0 (by omega)).symm
  · exact (hireZ_0 (by omega)).symm
  · exact (hireZ_0 (by omega)).symm
  · show nI c = hireZ z t 49
    unfold hireZ
    rw [upd_s]
    exact hz.symm
  · exact (h3 50 (by omega) (by omega) (by omega)).trans (hireZ_n (by omega)).symm
  · exact (h3 51 (by omega) (by omega) (by omega)).trans (hireZ_n (by omega)).symm
  · exact (h3 52 (by omega) (by omega) (by omega)).trans (hireZ_n (by omega)).symm
theorem drvF_o {z : Zt} {P S k : Nat} (h : k ≠ 41 ∧ k ≠ 42) : drvF z P S k = (drvZ z P S S).1 k := by
  unfold drvF
  rw [upd_n h.2, upd_n h.1]
theorem RM.drv {N H G L : Nat → Int32} {z : Zt} {P S c : Nat} {bw bt : Int32} (h : RM N H G L z) (hd : DV z) (hz : z 37 = nI c) (hc : c < 86400) (hbw : (drvZ z P S S).1 44 = z 44 + bw) (hbt : (drvZ z P S S).1 45 = z 45 + bt) : RM N H (gDrv G z P S c bw bt) L (drvF z P S) := by
  obtain ⟨h1, h2, h3, h4, jl, h5, h6, h7⟩ := h
  have hn : ∀ k, k ≠ 37 ∧ k ≠ 39 ∧ k ≠ 44 ∧ k ≠ 45 ∧ k ≠ 47 ∧ k ≠ 48 ∧ k ≠ 41 ∧ k ≠ 42 → drvF z P S k = z k := fun k hk => drvF_n hd hk
  refine ⟨fun k hk => by rw [hn k (by omega)]; exact h1 k hk, fun k hk => by rw [hn _ (by omega)]; exact h2 k hk, fun k ha hb hc2 => ?_, Or.inl (drvF_o (by omega)).symm, jl, h5, h6, fun a q ha hq => by rw [hn _ (by omega)]; exact h7 a q ha hq⟩
  have hs : k = 36 ∨ k = 37 ∨ k = 38 ∨ k = 39 ∨ k = 40 ∨ k = 41 ∨ k = 42 ∨ k = 43 ∨ k = 44 ∨ k = 45 ∨ k = 46 ∨ k = 47 ∨ k = 49 ∨ k = 50 ∨ k = 51 ∨ k = 52 := by omega
  rcases hs with rfl | rfl | rfl | rfl | rfl | rfl | rfl | rfl | rfl | rfl | rfl | rfl | rfl | rfl | rfl | rfl
  · exact (h3 36 (by omega) (by omega) (by omega)).trans (hn _ (by omega)).symm
  · show nI ((c + S) % 86400) = _
    rw [drvF_o (by omega), drvZ_37 hz hc]
  · exact (h3 38 (by omega) (by omega) (by omega)).trans (hn _ (by omega)).symm
  · exact (drvF_o (by omega)).symm
  · exact (h3 40 (by omega) (by omega) (by omega)).trans (hn _ (by omega)).symm
  · show G 41 + nI P = _
    unfold drvF
    rw [upd_n (by omega), upd_s, drvZ_n hd (by omega), h3 41 (by omega) (by omega) (by omega)]
  · show G 42 + nI S = _
    unfold drvF
    rw [upd_s, drvZ_n hd (by omega), h3 42 (by omega) (by omega) (by omega)]
  · exact (h3 43 (by omega) (by omega) (by omega)).trans (hn _ (by omega)).symm
  · show G 44 + bw = _
    rw [drvF_o (by omega), hbw, h3 44 (by omega) (by omega) (by omega)]
  · show G 45 + bt = _
    rw [drvF_o (by omega), hbt, h3 45 (by omega) (by omega) (by omega)]
  · exact (h3 46 (by omega) (by omega) (by omega)).trans (hn _ (by omega)).symm
  · exact (drvF_o (by omega)).symm
  · exact (h3 49 (by omega) (by omega) (by omega)).trans (hn _ (by omega)).symm
  · exact (h3 50 (by omega) (by omega) (by omega)).trans (hn _ (by omega)).symm
  · exact (h3 51 (by omega) (by omega) (by omega)).trans (hn _ (by omega)).symm
  · exact (h3 52 (by omega) (by omega) (by omega)).trans (hn _ (by omega)).symm
/-- a few numbers of the ride or of the meter change -/
theorem RM.chg {N H G G2 L : Nat → Int32} {z y : Zt} (h : RM N H G L z) (hlo : ∀ k, k < 36 → y k = z k) (hg : ∀ k, 36 ≤ k → k ≤ 52 → k ≠ 48 → G2 k = y k) (h48 : G2 48 = G 48 ∧ y 48 = z 48 ∧ y 47 = z 47) (h113 : G2 113 = G 113) (hlog : ∀ k, 53 ≤ k → y k = z k) : RM N H G2 L y := by
  obtain ⟨h1, h2, h3, h4, jl, h5, h6, h7⟩ := h
  refine ⟨fun k hk => by rw [hlo k (by omega)]; exact h1 k hk, fun k hk => by rw [hlo _ (by omega)]; exact h2 k hk, hg, by rw [h48.1, h48.2.1, h48.2.2]; exact h4, jl, h5, by rw [h113]; exact h6, fun a q ha hq => by rw [hlog _ (by omega)]; exact h7 a q ha hq⟩
theorem RM.rest2 {N H G L : Nat → Int32} {z : Zt} {c S : Nat} (h : RM N H G L z) (h2 : z 38 = 2) : RM N H (upd (upd G 43 (G 43 + nI S)) 37 (nI ((c + S) % 86400))) L (restZ z c S) := by
  refine h.chg (fun k hk => restZ_n (by omega)) (fun k ha hb hc => ?_) ⟨rfl, restZ_n (by omega), restZ_n (by omega)⟩ rfl (fun k hk => restZ_n (by omega))
  by_cases e : k = 37
  · subst e
    rw [upd_s, restZ_37]
  · rw [upd_n e]
    by_cases e2 : k = 43
    · subst e2
      rw [upd_s, h.g 43 (by omega) (by omega) (by omega)]
      unfold restZ
      rw [upd_s, if_pos h2]
    · rw [upd_n e2, restZ_n ⟨e, e2⟩]
      exact h.g k ha hb hc
theorem RM.rest1 {N H G L : Nat → Int32} {z : Zt} {c S : Nat} (h : RM N H G L z) (h2 : ¬ z 38 = 2) : RM N H (upd G 37 (nI ((c + S) % 86400))) L (restZ z c S) := by
  refine h.chg (fun k hk => restZ_n (by omega)) (fun k ha hb hc => ?_) ⟨rfl, restZ_n (by omega), restZ_n (by omega)⟩ rfl (fun k hk => restZ_n (by omega))
  by_cases e : k = 37
  · subst e
    rw [upd_s, restZ_37]
  · rw [upd_n e]
    by_cases e2 : k = 43
    · subst e2
      rw [h.g 43 (by omega) (by omega) (by omega)]
      unfold restZ
      rw [upd_s, if_neg h2, Int32.add_zero]
    · rw [restZ_n ⟨e, e2⟩]
      exact h.g k ha hb hc
theorem RM.halt {N H G L : Nat → Int32} {z : Zt} {x : Int32} (h : RM N H G L z) (hx : x = 3 - z 38) : RM N H (upd G 38 x) L (haltZ z) := by
  refine h.chg (fun k hk => haltZ_n (by omega)) (fun k ha hb hc => ?_) ⟨rfl, haltZ_n (by omega), haltZ_n (by omega)⟩ rfl (fun k hk => haltZ_n (by omega))
  by_cases e : k = 38
  · subst e
    rw [upd_s, haltZ_38, hx]
  · rw [upd_n e, haltZ_n e]
    exact h.g k ha hb hc
theorem RM.extra {N H G L : Nat → Int32} {z : Zt} (h : RM N H G L z) : RM N H (upd (upd G 46 (G 46 + 1)) 40 (G 40 + G 36)) L (extraZ z) := by
  refine h.chg (fun k hk => extraZ_n (by omega)) (fun k ha hb hc => ?_) ⟨rfl, extraZ_n (by omega), extraZ_n (by omega)⟩ rfl (fun k hk => extraZ_n (by omega))
  by_cases e : k = 40
  · subst e
    rw [upd_s, extraZ_40, h.g 40 (by omega) (by omega) (by omega), h.g 36 (by omega) (by omega) (by omega)]
  · rw [upd_n e]
    by_cases e2 : k = 46
    · subst e2
      rw [upd_s, extraZ_46, h.g 46 (by omega) (by omega) (by omega)]
    · rw [upd_n e2, extraZ_n ⟨e2, e⟩]
      exact h.g k ha hb hc
theorem endZ_lo {z : Zt} {k : Nat} (h1 : 58 ≤ k) (h2 : k < 113) : endZ z k = z (k - 5) := by
  unfold endZ
  rw [upd_n (by omega), upd_n (by omega), upd_n (by omega), upd_n (by omega), upd_n (by omega), upd_n (by omega), upd_n (by omega), upd_n (by omega), upd_n (by omega)]
  exact if_pos (by omega)
theorem lEnd_o {L G : Nat → Int32} {j k : Nat} (h : ¬ (j * 5 ≤ k ∧ k < j * 5 + 5)) : lEnd L G j k = L k := by
  unfold lEnd
  rw [upd_n (by omega), upd_n (by omega), upd_n (by omega), upd_n (by omega), upd_n (by omega)]
theorem RM.end_ {N H G L : Nat → Int32} {z : Zt} {jl sz : Nat} (h : RM N H G L z) (hj : G 113 = nI jl) (hjl : jl < 12) (hs : z 52 = nI sz) (hsz : sz ≤ 12) : RM N H (gEnd G jl sz) (lEnd L G jl) (endZ z) := by
  obtain ⟨h1, h2, h3, h4, jl2, h5, h6, h7⟩ := h
  have e0 : jl2 = jl := (nI_eq (by omega) (by omega)).mp (h6.symm.trans hj)
  subst e0
  refine ⟨fun k hk => by rw [endZ_n (by omega)]; exact h1 k hk, fun k hk => by rw [endZ_n (by omega)]; exact h2 k hk, fun k ha hb hc2 => ?_, ?_, (jl2 + 1) % 12, Nat.mod_lt _ (by omega), rfl, fun a q ha hq => ?_⟩
  · by_cases e1 : k < 50 ∧ k ≠ 38
    · rw [endZ_n ⟨e1.2, e1.1⟩]
      have e2 : gEnd G jl2 sz k = G k := by
        unfold gEnd
        rw [upd_n (by omega), upd_n (by omega), upd_n (by omega), upd_n (by omega), upd_n (by omega)]
      rw [e2]
      exact h3 k ha hb hc2
    · have hs2 : k = 38 ∨ k = 50 ∨ k = 51 ∨ k = 52 := by omega
      rcases hs2 with rfl | rfl | rfl | rfl
      · exact endZ_38.symm
      · rw [endZ_50, ← h3 50 (by omega) (by omega) (by omega)]
        rfl
      · rw [endZ_51, ← h3 51 (by omega) (by omega) (by omega), ← h3 39 (by omega) (by omega) (by omega), ← h3 40 (by omega) (by omega) (by omega)]
        rfl
      · rw [endZ_52 hs hsz]
        rfl
  · rw [endZ_n (by omega), endZ_n (by omega)]
    exact h4
  · by_cases e1 : a = 0
    · subst e1
      have e2 : ((jl2 + 1) % 12 + 11 - 0) % 12 = jl2 := by omega
      rw [e2]
      have g1 := fun k a b c => (h3 k a b c)
      have hs2 : q = 0 ∨ q = 1 ∨ q = 2 ∨ q = 3 ∨ q = 4 := by omega
      rcases hs2 with rfl | rfl | rfl | rfl | rfl
      · unfold lEnd endZ
        rw [upd_n (by omega), upd_n (by omega), upd_n (by omega), upd_n (by omega), Nat.add_zero, upd_s, upd_n (by omega), upd_n (by omega), upd_n (by omega), upd_n (by omega), upd_n (by omega), upd_n (by omega), upd_n (by omega), upd_n (by omega)]
        show _ = upd _ 53 _ 53
        rw [upd_s, g1 39 (by omega) (by omega) (by omega), g1 40 (by omega) (by omega) (by omega)]
      · unfold lEnd endZ
        rw [upd_n (by omega), upd_n (by omega), upd_n (by omega), upd_s, upd_n (by omega), upd_n (by omega), upd_n (by omega), upd_n (by omega), upd_n (by omega), upd_n (by omega), upd_n (by omega)]
        show _ = upd _ 54 _ 54
        rw [upd_s, g1 41 (by omega) (by omega) (by omega)]
      · unfold lEnd endZ
        rw [upd_n (by omega), upd_n (by omega), upd_s, upd_n (by omega), upd_n (by omega), upd_n (by omega), upd_n (by omega), upd_n (by omega), upd_n (by omega)]
        show _ = upd _ 55 _ 55
        rw [upd_s, g1 42 (by omega) (by omega) (by omega), g1 43 (by omega) (by omega) (by omega)]
      · unfold lEnd endZ
        rw [upd_n (by omega), upd_s, upd_n (by omega), upd_n (by omega), upd_n (by omega), upd_n (by omega), upd_n (by omega)]
        show _ = upd _ 56 _ 56
        rw [upd_s, g1 44 (by omega) (by omega) (by omega), g1 45 (by omega) (by omega) (by omega)]
      · unfold lEnd endZ
        rw [upd_s, upd_n (by omega), upd_n (by omega), upd_n (by omega), upd_n (by omega)]
        show _ = upd _ 57 _ 57
        rw [upd_s, g1 49 (by omega) (by omega) (by omega)]
    · have e2 : ((jl2 + 1) % 12 + 11 - a) % 12 = (jl2 + 11 - (a - 1)) % 12 := by omega
      rw [e2, lEnd_o (by omega), h7 (a - 1) q (by omega) hq, endZ_lo (by omega) (by omega)]
      congr 1
      omega
/-! the reader doesn't look back -/
theorem take_eqv {l f l2 f2 v p c : Int32} : (takeA (l, f, v, p) c = none ∧ takeA (l2, f2, v, p) c = none) ∨ ∃ a b a2 b2 v2 p2, takeA (l, f, v, p) c = some (a, b, v2, p2) ∧ takeA (l2, f2, v, p) c = some (a2, b2, v2, p2) := by
  unfold takeA
  dsimp only
  by_cases h0 : p = 0
  · rw [if_pos h0, if_pos h0]
    by_cases h1 : isL c
    · rw [if_pos h1, if_pos h1]
      exact Or.inr ⟨_, _, _, _, _, _, rfl, rfl⟩
    · rw [if_neg h1, if_neg h1]
      exact Or.inl ⟨rfl, rfl⟩
  · rw [if_neg h0, if_neg h0]
    by_cases h1 : ¬ c < 48 ∧ ¬ 57 < c
    · rw [if_pos h1, if_pos h1]
      by_cases h2 : p = 3 ∨ v = 0
      · rw [if_pos h2, if_pos h2]
        exact Or.inl ⟨rfl, rfl⟩
      · rw [if_neg h2, if_neg h2]
        by_cases h3 : 9999 < (if v = -1 then c - 48 else v * 10 + (c - 48))
        · rw [if_pos h3, if_pos h3]
          exact Or.inl ⟨rfl, rfl⟩
        · rw [if_neg h3, if_neg h3]
          exact Or.inr ⟨_, _, _, _, _, _, rfl, rfl⟩
    · rw [if_neg h1, if_neg h1]
      by_cases h2 : c = 47 ∧ p = 1 ∧ ¬ v = -1
      · rw [if_pos h2, if_pos h2]
        exact Or.inr ⟨_, _, _, _, _, _, rfl, rfl⟩
      · rw [if_neg h2, if_neg h2]
        by_cases h3 : c = 59 ∧ mayE (l, f, v, p)
        · rw [if_pos h3, if_pos (show c = 59 ∧ mayE (l2, f2, v, p) from h3)]
          exact Or.inr ⟨_, _, _, _, _, _, rfl, rfl⟩
        · rw [if_neg h3, if_neg (show ¬ (c = 59 ∧ mayE (l2, f2, v, p)) from h3)]
          exact Or.inl ⟨rfl, rfl⟩
theorem goA_eqv {pd : Nat → Int32} {ty : Nat} : ∀ (n i : Nat) (l f l2 f2 v p : Int32), goA pd ty n i (l, f, v, p) = goA pd ty n i (l2, f2, v, p)
  | 0, i, l, f, l2, f2, v, p => by
    unfold goA
    by_cases h : mayE (l, f, v, p)
    · exact (if_pos h).trans (if_pos (show mayE (l2, f2, v, p) from h)).symm
    · exact (if_neg h).trans (if_neg (show ¬ mayE (l2, f2, v, p) from h)).symm
  | n + 1, i, l, f, l2, f2, v, p => by
    unfold goA
    rcases take_eqv (l := l) (f := f) (l2 := l2) (f2 := f2) (v := v) (p := p) (c := pd i) with ⟨h1, h2⟩ | ⟨a, b, a2, b2, v2, p2, h1, h2⟩
    · rw [h1, h2]
    · rw [h1, h2]
      exact goA_eqv n (i + 1) a b a2 b2 v2 p2
theorem flt_eqv {pd : Nat → Int32} {ty i : Nat} {l f l2 f2 v p : Int32} : flt pd ty i (l, f, v, p) = flt pd ty i (l2, f2, v, p) := goA_eqv _ _ _ _ _ _ _ _
theorem take_isL {l f v p c l2 f2 v2 p2 : Int32} (h : takeA (l, f, v, p) c = some (l2, f2, v2, p2)) (hl : ¬ p = 0 → isL l) (h2 : ¬ p2 = 0) : isL l2 := by
  unfold takeA at h
  dsimp only at h
  by_cases h0 : p = 0
  · rw [if_pos h0] at h
    by_cases h1 : isL c
    · rw [if_pos h1] at h
      cases h
      exact h1
    · rw [if_neg h1] at h
      cases h
  · have hl2 := hl h0
    rw [if_neg h0] at h
    by_cases h1 : ¬ c < 48 ∧ ¬ 57 < c
    · rw [if_pos h1] at h
      by_cases h3 : p = 3 ∨ v = 0
      · rw [if_pos h3] at h
        cases h
      · rw [if_neg h3] at h
        by_cases h4 : 9999 < (if v = -1 then c - 48 else v * 10 + (c - 48))
        · rw [if_pos h4] at h
          cases h
        · rw [if_neg h4] at h
          cases h
          exact hl2
    · rw [if_neg h1] at h
      by_cases h3 : c = 47 ∧ p = 1 ∧ ¬ v = -1
      · rw [if_pos h3] at h
        cases h
        exact hl2
      · rw [if_neg h3] at h
        by_cases h4 : c = 59 ∧ mayE (l, f, v, p)
        · rw [if_pos h4] at h
          cases h
          exact hl2
        · rw [if_neg h4] at h
          cases h
theorem semi_may {pd : Nat → Int32} {ty i : Nat} {l f v p : Int32} (hl : i < ty) (hty : ty ≤ 80) (hc : pd i = 59) (h : flt pd ty i (l, f, v, p) = -6) : mayE (l, f, v, p) := by
  by_cases hm : mayE (l, f, v, p)
  · exact hm
  · exfalso
    have ht : takeA (l, f, v, p) (pd i) = none := by
      rw [hc]
      by_cases h0 : p = 0
      · exact tk_L0 h0 (by decide)
      · exact tk_N h0 (by decide) (by intro q; exact absurd q.1 (by decide)) (fun q => hm q.2)
    rw [flt_none hl ht] at h
    exact nI_ne6 (by omega) h
theorem end_may {pd : Nat → Int32} {ty : Nat} {s : As} (hty : ty ≤ 80) (h : flt pd ty ty s = -6) : mayE s := by
  by_cases hm : mayE s
  · exact hm
  · rw [flt_end hm] at h
    exact absurd h (nI_ne6 (by omega))
theorem may_p {l f v p : Int32} (h : mayE (l, f, v, p)) : ¬ p = 0 := by
  rcases h with h | h
  · intro q
    have h2 : p = 3 := h
    rw [q] at h2
    exact absurd h2 (by decide)
  · intro q
    have h2 : p = 2 := h.1
    rw [q] at h2
    exact absurd h2 (by decide)
