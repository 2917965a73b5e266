
/-! what a change of a tariff, an hour, the price of an extra keeps -/
theorem tarZ_n {z : Zt} {t k : Nat} {b d w q : Int32} (h : k < 4 * t ∨ 4 * t + 3 < k) : tarZ z t b d w q k = z k := by
  unfold tarZ
  rw [upd_n (by omega), upd_n (by omega), upd_n (by omega), upd_n (by omega)]
theorem tarZ_0 {z : Zt} {t : Nat} {b d w q : Int32} : tarZ z t b d w q (4 * t) = b := by
  unfold tarZ
  rw [upd_n (by omega), upd_n (by omega), upd_n (by omega), upd_s]
theorem tarZ_1 {z : Zt} {t : Nat} {b d w q : Int32} : tarZ z t b d w q (4 * t + 1) = d := by
  unfold tarZ
  rw [upd_n (by omega), upd_n (by omega), upd_s]
theorem tarZ_2 {z : Zt} {t : Nat} {b d w q : Int32} : tarZ z t b d w q (4 * t + 2) = w := by
  unfold tarZ
  rw [upd_n (by omega), upd_s]
theorem tarZ_3 {z : Zt} {t : Nat} {b d w q : Int32} : tarZ z t b d w q (4 * t + 3) = q := upd_s
theorem IZ.low {z y : Zt} {B : Nat} (h : IZ z B) (bv : BV y) (tv : TV y) (tb : TB y) (p36 : ∃ p, p ≤ 99 ∧ y 36 = nI p) (hk : ∀ k, 38 ≤ k → y k = z k) : IZ y B := by
  obtain ⟨a1, a2, a3, a4, a5, a6, a7, a8, a9⟩ := h
  exact ⟨bv, tv, tb, p36, by rw [hk 38 (by omega)]; exact a5, fun e => (a6 (by rw [hk 38 (by omega)] at e; exact e)).of (hk _ (by omega)) (hk _ (by omega)) (hk _ (by omega)), by rw [hk 46 (by omega), hk 40 (by omega)]; exact a7, by rw [hk 52 (by omega)]; exact a8, by rw [hk 50 (by omega)]; exact a9⟩
theorem IZ.tar {z : Zt} {B t : Nat} {b d w q : Int32} (h : IZ z B) (ht : t < 3) (hv : okV b d w q) : IZ (tarZ z t b d w q) B := by
  obtain ⟨⟨b1, b2⟩, ⟨d1, d2⟩, ⟨w1, w2⟩, ⟨q1, q2⟩⟩ := hv
  obtain ⟨nb, -, hb2, rfl⟩ := rg_nI 0 999 rfl rfl (by omega) (by omega) b1 b2
  obtain ⟨nd, hd1, hd2, rfl⟩ := rg_nI 1 99 rfl rfl (by omega) (by omega) d1 d2
  obtain ⟨nw9, hw1, hw2, rfl⟩ := rg_nI 1 999 rfl rfl (by omega) (by omega) w1 w2
  obtain ⟨nq, hq1, hq2, rfl⟩ := rg_nI 1 999 rfl rfl (by omega) (by omega) q1 q2
  obtain ⟨c, hc, hz⟩ := h.bv.1
  refine h.low ⟨⟨c, hc, (tarZ_n (by omega)).trans hz⟩, fun i hi => ?_, fun t2 ht2 => ?_⟩ (fun t2 ht2 => ?_) (fun t2 ht2 => ?_) ?_ (fun k hk => tarZ_n (by omega))
  · rw [tarZ_n (by omega)]
    exact h.bv.2.1 i hi
  · by_cases e : t2 = t
    · subst e
      rw [tarZ_2, tarZ_3, pk_mul]
      have h1 : 1 * 1 ≤ nw9 * nq := Nat.mul_le_mul hw1 hq1
      have h2 : nw9 * nq ≤ 999 * 999 := Nat.mul_le_mul hw2 hq2
      exact nI_ne0 (by omega) (by omega)
    · rw [tarZ_n (by omega), tarZ_n (by omega)]
      exact h.bv.2.2 t2 ht2
  · by_cases e : t2 = t
    · subst e
      exact ⟨nd, nw9, nq, tarZ_1, hd2, tarZ_2, hw1, hw2, tarZ_3, hq1, hq2⟩
    · obtain ⟨d3, w3, q3, h9⟩ := h.tv t2 ht2
      refine ⟨d3, w3, q3, ?_⟩
      unfold TP
      rw [tarZ_n (by omega), tarZ_n (by omega), tarZ_n (by omega)]
      exact h9
  · by_cases e : t2 = t
    · subst e
      exact ⟨nb, hb2, tarZ_0⟩
    · rw [tarZ_n (by omega)]
      exact h.tb t2 ht2
  · rw [tarZ_n (by omega)]
    exact h.p36
theorem RM.tar {N H G L : Nat → Int32} {z : Zt} {t : Nat} {b d w q : Int32} (h : RM N H G L z) (ht : t < 3) : RM (tarN4 N t b d w q) H G L (tarZ z t b d w q) := by
  obtain ⟨h1, h2, h3, h4, jl, h5, h6, h7⟩ := h
  refine ⟨fun k hk => ?_, fun k hk => by rw [tarZ_n (by omega)]; exact h2 k hk, fun k ha hb hc => by rw [tarZ_n (by omega)]; exact h3 k ha hb hc, by rw [tarZ_n (by omega), tarZ_n (by omega)]; exact h4, jl, h5, h6, fun a q2 ha hq => by rw [tarZ_n (by omega)]; exact h7 a q2 ha hq⟩
  unfold tarN4
  rw [show t * 4 + 0 = 4 * t by omega, show t * 4 + 1 = 4 * t + 1 by omega, show t * 4 + 2 = 4 * t + 2 by omega, show t * 4 + 3 = 4 * t + 3 by omega]
  by_cases e3 : k = 4 * t + 3
  · subst e3
    rw [upd_s, tarZ_3]
  · rw [upd_n e3]
    by_cases e2 : k = 4 * t + 2
    · subst e2
      rw [upd_s, tarZ_2]
    · rw [upd_n e2]
      by_cases e1 : k = 4 * t + 1
      · subst e1
        rw [upd_s, tarZ_1]
      · rw [upd_n e1]
        by_cases e0 : k = 4 * t
        · subst e0
          rw [upd_s, tarZ_0]
        · rw [upd_n e0, tarZ_n (by omega)]
          exact h1 k hk
theorem IZ.hr {z : Zt} {B i t : Nat} (h : IZ z B) (hi : i < 24) (ht : t < 3) : IZ (upd z (12 + i) (nI t)) B := by
  obtain ⟨c, hc, hz⟩ := h.bv.1
  refine h.low ⟨⟨c, hc, (upd_n (by omega)).trans hz⟩, fun i2 hi2 => ?_, fun t2 ht2 => ?_⟩ (fun t2 ht2 => ?_) (fun t2 ht2 => ?_) ?_ (fun k hk => upd_n (by omega))
  · by_cases e : i2 = i
    · subst e
      exact ⟨t, ht, upd_s⟩
    · rw [upd_n (by omega)]
      exact h.bv.2.1 i2 hi2
  · rw [upd_n (by omega), upd_n (by omega)]
    exact h.bv.2.2 t2 ht2
  · obtain ⟨d3, w3, q3, h9⟩ := h.tv t2 ht2
    refine ⟨d3, w3, q3, ?_⟩
    unfold TP
    rw [upd_n (by omega), upd_n (by omega), upd_n (by omega)]
    exact h9
  · rw [upd_n (by omega)]
    exact h.tb t2 ht2
  · rw [upd_n (by omega)]
    exact h.p36
theorem RM.hr {N H G L : Nat → Int32} {z : Zt} {i : Nat} {x : Int32} (h : RM N H G L z) (hi : i < 24) : RM N (upd H i x) G L (upd z (12 + i) x) := by
  obtain ⟨h1, h2, h3, h4, jl, h5, h6, h7⟩ := h
  refine ⟨fun k hk => by rw [upd_n (by omega)]; exact h1 k hk, fun k hk => ?_, fun k ha hb hc => by rw [upd_n (by omega)]; exact h3 k ha hb hc, by rw [upd_n (by omega), upd_n (by omega)]; exact h4, jl, h5, h6, fun a q2 ha hq => by rw [upd_n (by omega)]; exact h7 a q2 ha hq⟩
  by_cases e : k = i
  · subst e
    rw [upd_s, upd_s]
  · rw [upd_n e, upd_n (by omega)]
    exact h2 k hk
theorem IZ.pr {z : Zt} {B : Nat} {x : Int32} (h : IZ z B) (hx : ok99 x) : IZ (upd z 36 x) B := by
  obtain ⟨p, -, hp, rfl⟩ := rg_nI 0 99 rfl rfl (by omega) (by omega) hx.1 hx.2
  obtain ⟨c, hc, hz⟩ := h.bv.1
  exact h.low (h.bv.of ⟨c, hc, (upd_n (by omega)).trans hz⟩ (fun k hk => upd_n (by omega))) (h.tv.of (fun k hk => upd_n (by omega))) (h.tb.of (fun k hk => upd_n (by omega))) ⟨p, hp, upd_s⟩ (fun k hk => upd_n (by omega))
theorem RM.pr {N H G L : Nat → Int32} {z : Zt} {x : Int32} (h : RM N H G L z) : RM N H (upd G 36 x) L (upd z 36 x) := by
  refine h.chg (fun k hk => upd_n (by omega)) (fun k ha hb hc => ?_) ⟨rfl, upd_n (by omega), upd_n (by omega)⟩ rfl (fun k hk => upd_n (by omega))
  by_cases e : k = 36
  · subst e
    rw [upd_s, upd_s]
  · rw [upd_n e, upd_n e]
    exact h.g k ha hb hc
/-! numbers of a class's meter are not below 0 -/
theorem tar_nn {N H G L : Nat → Int32} {z : Zt} {B : Nat} (h : RM N H G L z) (hZ : IZ z B) : ∀ t, t < 3 → ¬ N (t * 4 + 1) < 0 := fun t ht => by
  obtain ⟨d, w, q, h1, h2, -⟩ := hZ.tv t ht
  rw [h.1 _ (by omega), show t * 4 + 1 = 4 * t + 1 by omega, h1]
  exact nI_pos (by omega)
theorem hr_nn {N H G L : Nat → Int32} {z : Zt} {B : Nat} (h : RM N H G L z) (hZ : IZ z B) : ∀ i, i < 24 → ¬ H i < 0 := fun i hi => by
  obtain ⟨t, h1, h2⟩ := hZ.bv.2.1 i hi
  rw [h.2.1 i hi, h2]
  exact nI_pos (by omega)
theorem p36_nn {N H G L : Nat → Int32} {z : Zt} {B : Nat} (h : RM N H G L z) (hZ : IZ z B) : ¬ G 36 < 0 := by
  obtain ⟨p, h1, h2⟩ := hZ.p36
  rw [h.g 36 (by omega) (by omega) (by omega), h2]
  exact nI_pos (by omega)
theorem ex_nn {N H G L : Nat → Int32} {z : Zt} {B : Nat} (h : RM N H G L z) (hZ : IZ z B) : ¬ G 46 + 1 < 0 := by
  obtain ⟨x, w, h1, h2, h3, h4⟩ := hZ.ex
  rw [h.g 46 (by omega) (by omega) (by omega), h3, nI_1]
  exact nI_pos (by omega)
theorem en_nn {N H G L : Nat → Int32} {z : Zt} {B : Nat} (h : RM N H G L z) (hZ : IZ z B) (hB : B < 2 ^ 31) : ¬ G 50 < 0 := by
  obtain ⟨e, h1, h2⟩ := hZ.en
  rw [h.g 50 (by omega) (by omega) (by omega), h2]
  exact nI_pos (by omega)
/-- the ride's cost, also of one that has not begun -/
def F39 (z : Zt) : Prop := ∃ f, f ≤ 9999999 ∧ z 39 = nI f
/-! numbers of arguments -/
theorem okD_nI {P S : Nat} (hP : P ≤ 9999) (h1 : 1 ≤ S) (h2 : S ≤ 9999) : okD (nI P) (nI S) := ⟨nI_pos (by omega), nI_nlt (a := 9999) (by omega) (by omega), nI_nlt (b := 1) (by omega) (by omega), nI_nlt (a := 9999) (by omega) (by omega)⟩
theorem okS_nI {S : Nat} (h1 : 1 ≤ S) (h2 : S ≤ 9999) : okS (nI S) := ⟨nI_nlt (b := 1) (by omega) (by omega), nI_nlt (a := 9999) (by omega) (by omega)⟩
theorem okT_nI {t : Nat} (h : t < 3) : okT (nI t) := ⟨nI_pos (by omega), nI_nlt (a := 2) (by omega) (by omega)⟩
theorem okH_nI {i t : Nat} (h : i < 24) (ht : t < 3) : okHr (nI i) (nI t) := ⟨⟨nI_pos (by omega), nI_nlt (a := 23) (by omega) (by omega)⟩, okT_nI ht⟩
theorem ok4_nI {i : Nat} (h : i ≤ 4) : ok4 (nI i) := ⟨nI_pos (by omega), nI_nlt (a := 4) (by omega) (by omega)⟩
theorem ok8_nI {i : Nat} (h : i ≤ 8) : ok8 (nI i) := ⟨nI_pos (by omega), nI_nlt (a := 8) (by omega) (by omega)⟩
theorem ok1_nI {i : Nat} (h : i ≤ 1) : ok1 (nI i) := ⟨nI_pos (by omega), nI_nlt (a := 1) (by omega) (by omega)⟩
theorem okF_nI {S : Nat} {co : Int32} (h1 : 1 ≤ S) (h2 : S ≤ 999) (h3 : ¬ co < 0) : okF (nI S) co := ⟨nI_nlt (b := 1) (by omega) (by omega), nI_nlt (a := 999) (by omega) (by omega), h3⟩
theorem okL_nI {a l : Nat} (h : a < l) (hl : l ≤ 12) : okL (nI a) (nI l) := ⟨nI_pos (by omega), by
  rw [show nI l - 1 = nI (l - 1) from pk_sub (b := 1) (by omega)]
  exact nI_nlt (a := l - 1) (b := a) (by omega) (by omega) |> fun h9 => h9⟩
/-! texts: only the characters of the pad count -/
theorem goA_cg {p q : Nat → Int32} {ty : Nat} : ∀ (n i : Nat) (s : As), (∀ k, k < i + n → p k = q k) → goA p ty n i s = goA q ty n i s
  | 0, i, s, h => by
    unfold goA
    rfl
  | n + 1, i, s, h => by
    rw [goA, goA, h i (by omega)]
    cases takeA s (q i) with
    | none => rfl
    | some s2 => exact goA_cg n (i + 1) s2 (fun k hk => h k (by omega))
theorem ordL_cg {p q : Nat → Int32} : ∀ (n i : Nat) (s : As), (∀ k, k < i + n → p k = q k) → ordL p n i s = ordL q n i s
  | 0, i, s, h => by
    rw [ordL, ordL]
  | n + 1, i, s, h => by
    rw [ordL, ordL, h i (by omega)]
    cases takeA s (q i) with
    | none => rfl
    | some s2 =>
      dsimp only
      rw [ordL_cg n (i + 1) s2 (fun k hk => h k (by omega))]
theorem flt_cg {p q : Nat → Int32} {ty : Nat} {s : As} (h : ∀ i, i < ty → p i = q i) : flt p ty 0 s = flt q ty 0 s := goA_cg _ _ _ (fun k hk => h k (by omega))
theorem ors_cg {p q : Nat → Int32} {ty : Nat} {s : As} (h : ∀ i, i < ty → p i = q i) : ors p ty 0 s = ors q ty 0 s := ordL_cg _ _ _ (fun k hk => h k (by omega))
theorem PADR.ok {cp pd : Nat → Int32} {ln ty : Nat} (h : PADR cp pd ln ty) : PDok cp ln := fun i hi => by
  obtain ⟨rfl, h2, h3, h4⟩ := h
  rw [h4 i hi]
  exact h3 i hi
theorem PADR.wipe {cp pd : Nat → Int32} : PADR cp pd 0 0 := ⟨rfl, by omega, fun i hi => absurd hi (by omega), fun i hi => absurd hi (by omega)⟩
theorem PADR.put {cp pd cp2 pd2 : Nat → Int32} {ln ty n u : Nat} (h : PADR cp pd ln ty) (hu : PT u n) (hn : ty + n ≤ 80) (c1 : ∀ i, i < ln → cp2 i = cp i) (c2 : ∀ i, i < n → cp2 (ln + i) = nI (dg u (n - 1 - i))) (d1 : ∀ i, i < ty → pd2 i = pd i) (d2 : ∀ i, i < n → pd2 (ty + i) = nI (dg u (n - 1 - i))) : PADR cp2 pd2 (ln + n) (ty + n) := by
  obtain ⟨rfl, h2, h3, h4⟩ := h
  refine ⟨rfl, hn, fun i hi => ?_, fun i hi => ?_⟩
  · by_cases e : i < ln
    · rw [d1 i e]
      exact h3 i e
    · obtain ⟨k, rfl⟩ : ∃ k, i = ln + k := ⟨i - ln, by omega⟩
      have h9 := hu.2.2.2 (n - 1 - k) (by omega)
      exact ⟨dg u (n - 1 - k), h9.1, h9.2, d2 k (by omega)⟩
  · by_cases e : i < ln
    · rw [c1 i e, d1 i e]
      exact h4 i e
    · obtain ⟨k, rfl⟩ : ∃ k, i = ln + k := ⟨i - ln, by omega⟩
      rw [c2 k (by omega), d2 k (by omega)]
