
/-! the reference's row: what every call keeps; an order carried out -/
def IZ (z : Zt) (B : Nat) : Prop := BV z ∧ TV z ∧ TB z ∧ (∃ p, p ≤ 99 ∧ z 36 = nI p) ∧ (z 38 = 0 ∨ z 38 = 1 ∨ z 38 = 2) ∧ (¬ z 38 = 0 → IVd z) ∧ (∃ x y, x ≤ 9 ∧ y ≤ 99 * x ∧ z 46 = nI x ∧ z 40 = nI y) ∧ (∃ l, l ≤ 12 ∧ z 52 = nI l) ∧ (∃ e, e ≤ B ∧ z 50 = nI e)
theorem IZ.bv {z : Zt} {B : Nat} (h : IZ z B) : BV z := h.1
theorem IZ.tv {z : Zt} {B : Nat} (h : IZ z B) : TV z := h.2.1
theorem IZ.tb {z : Zt} {B : Nat} (h : IZ z B) : TB z := h.2.2.1
theorem IZ.p36 {z : Zt} {B : Nat} (h : IZ z B) : ∃ p, p ≤ 99 ∧ z 36 = nI p := h.2.2.2.1
theorem IZ.st {z : Zt} {B : Nat} (h : IZ z B) : z 38 = 0 ∨ z 38 = 1 ∨ z 38 = 2 := h.2.2.2.2.1
theorem IZ.iv {z : Zt} {B : Nat} (h : IZ z B) : ¬ z 38 = 0 → IVd z := h.2.2.2.2.2.1
theorem IZ.ex {z : Zt} {B : Nat} (h : IZ z B) : ∃ x y, x ≤ 9 ∧ y ≤ 99 * x ∧ z 46 = nI x ∧ z 40 = nI y := h.2.2.2.2.2.2.1
theorem IZ.lg {z : Zt} {B : Nat} (h : IZ z B) : ∃ l, l ≤ 12 ∧ z 52 = nI l := h.2.2.2.2.2.2.2.1
theorem IZ.en {z : Zt} {B : Nat} (h : IZ z B) : ∃ e, e ≤ B ∧ z 50 = nI e := h.2.2.2.2.2.2.2.2
theorem TB.of {z y : Zt} (h : TB z) (hk : ∀ k, k < 36 → y k = z k) : TB y := fun t ht => by
  obtain ⟨b, h1, h2⟩ := h t ht
  exact ⟨b, h1, by rw [hk _ (by omega)]; exact h2⟩
theorem IVd.of {z y : Zt} (h : IVd z) (h1 : y 39 = z 39) (h2 : y 47 = z 47) (h3 : y 48 = z 48) : IVd y := by
  unfold IVd
  rw [h1, h2, h3]
  exact h
theorem IZ.dv0 {z : Zt} {B : Nat} (h : IZ z B) (h0 : ¬ z 38 = 0) : DV z := by
  obtain ⟨-, r, m1, k1, k2, k3, k4, k5⟩ := h.iv h0
  refine ⟨h.bv, ?_⟩
  rw [k5]
  exact nI_ne0 (by omega) (by omega)
theorem IZ.dv1 {z : Zt} {B : Nat} (h : IZ z B) (h0 : z 38 = 1) : DV z := h.dv0 (by rw [h0]; decide)
theorem IZ.up {z : Zt} {B B2 : Nat} (h : IZ z B) (hB : B ≤ B2) : IZ z B2 := by
  obtain ⟨a1, a2, a3, a4, a5, a6, a7, a8, e, he, h9⟩ := h
  exact ⟨a1, a2, a3, a4, a5, a6, a7, a8, e, by omega, h9⟩
/-- only the ride's numbers, the clock, the log change -/
theorem IZ.mk2 {z y : Zt} {B : Nat} (h : IZ z B) (hlo : ∀ k, k < 37 → y k = z k) (h37 : ∃ c, c < 86400 ∧ y 37 = nI c) (h38 : y 38 = 0 ∨ y 38 = 1 ∨ y 38 = 2) (hiv : ¬ y 38 = 0 → IVd y) (hex : ∃ x w, x ≤ 9 ∧ w ≤ 99 * x ∧ y 46 = nI x ∧ y 40 = nI w) (hlg : y 52 = z 52) (hen : y 50 = z 50) : IZ y B :=
  ⟨h.bv.of h37 (fun k hk => hlo k (by omega)), h.tv.of (fun k hk => hlo k (by omega)), h.tb.of (fun k hk => hlo k (by omega)), by rw [hlo 36 (by omega)]; exact h.p36, h38, hiv, hex, by rw [hlg]; exact h.lg, by rw [hen]; exact h.en⟩
theorem hireZ_38 {z : Zt} {t : Nat} : hireZ z t 38 = 1 := by
  unfold hireZ
  rw [upd_n (by omega), upd_n (by omega), upd_n (by omega), upd_s]
theorem hireZ_0 {z : Zt} {t k : Nat} (h : k = 40 ∨ k = 41 ∨ k = 42 ∨ k = 43 ∨ k = 44 ∨ k = 45 ∨ k = 46 ∨ k = 47) : hireZ z t k = 0 := by
  unfold hireZ
  rw [upd_n (by omega), upd_n (by omega), upd_n (by omega), upd_n (by omega), zer_i (by omega)]
theorem IZ.hire {z : Zt} {B t : Nat} (h : IZ z B) (ht : t < 3) : IZ (hireZ z t) B := by
  obtain ⟨c, hc, hz⟩ := h.bv.1
  refine h.mk2 (fun k hk => hireZ_n (by omega)) ⟨c, hc, (hireZ_n (by omega)).trans hz⟩ (Or.inr (Or.inl hireZ_38)) (fun _ => hire_IVd h.tv h.tb ht) ⟨0, 0, by omega, by omega, hireZ_0 (by omega), hireZ_0 (by omega)⟩ (hireZ_n (by omega)) (hireZ_n (by omega))
theorem IZ.tarN {z : Zt} {B : Nat} (h : IZ z B) : tarN z < 3 := by
  obtain ⟨c, t, h1, h2, h3, h4, -⟩ := h.bv.get
  rw [tarN_of h2 h1 h4 h3]
  exact h3
theorem IZ.drv {z : Zt} {B P S : Nat} (h : IZ z B) (h1 : z 38 = 1) (hP : P ≤ 9999) (hS1 : 1 ≤ S) : IZ (drvF z P S) B := by
  have hd := h.dv1 h1
  have hn : ∀ k, k ≠ 37 ∧ k ≠ 39 ∧ k ≠ 44 ∧ k ≠ 45 ∧ k ≠ 47 ∧ k ≠ 48 ∧ k ≠ 41 ∧ k ≠ 42 → drvF z P S k = z k := fun k hk => drvF_n hd hk
  have hi := (IVd.drv (P := P) (S := S) (h.iv (by rw [h1]; decide)) h.tv hd hP hS1 S (Nat.le_refl _)).1
  have hf : ∀ k, k ≠ 41 ∧ k ≠ 42 → drvF z P S k = (drvZ z P S S).1 k := fun k hk => by unfold drvF; rw [upd_n hk.2, upd_n hk.1]
  refine h.mk2 (fun k hk => hn k (by omega)) ?_ (Or.inr (Or.inl ((hn 38 (by omega)).trans h1))) (fun _ => hi.of (hf _ (by omega)) (hf _ (by omega)) (hf _ (by omega))) ?_ (hn _ (by omega)) (hn _ (by omega))
  · exact (drvF_BV hd).1
  · rw [hn 46 (by omega), hn 40 (by omega)]
    exact h.ex
theorem restZ_n {z : Zt} {c s k : Nat} (h : k ≠ 37 ∧ k ≠ 43) : restZ z c s k = z k := by
  unfold restZ
  rw [upd_n h.2, upd_n h.1]
theorem restZ_37 {z : Zt} {c s : Nat} : restZ z c s 37 = nI ((c + s) % 86400) := by
  unfold restZ
  rw [upd_n (by omega), upd_s]
theorem IZ.rest {z : Zt} {B c s : Nat} (h : IZ z B) : IZ (restZ z c s) B := by
  refine h.mk2 (fun k hk => restZ_n (by omega)) ⟨_, Nat.mod_lt _ (by omega), restZ_37⟩ (by rw [restZ_n (by omega)]; exact h.st) (fun q => (h.iv (by rw [restZ_n (by omega)] at q; exact q)).of (restZ_n (by omega)) (restZ_n (by omega)) (restZ_n (by omega))) ?_ (restZ_n (by omega)) (restZ_n (by omega))
  rw [restZ_n (by omega), restZ_n (by omega)]
  exact h.ex
theorem haltZ_n {z : Zt} {k : Nat} (h : k ≠ 38) : haltZ z k = z k := by
  unfold haltZ
  rw [upd_n h]
theorem haltZ_38 {z : Zt} : haltZ z 38 = 3 - z 38 := upd_s
theorem IZ.halt {z : Zt} {B : Nat} (h : IZ z B) (h0 : ¬ z 38 = 0) : IZ (haltZ z) B := by
  obtain ⟨c, hc, hz⟩ := h.bv.1
  refine h.mk2 (fun k hk => haltZ_n (by omega)) ⟨c, hc, (haltZ_n (by omega)).trans hz⟩ ?_ (fun q => (h.iv h0).of (haltZ_n (by omega)) (haltZ_n (by omega)) (haltZ_n (by omega))) ?_ (haltZ_n (by omega)) (haltZ_n (by omega))
  · rw [haltZ_38]
    rcases h.st with e | e | e
    · exact absurd e h0
    · rw [e]; decide
    · rw [e]; decide
  · rw [haltZ_n (by omega), haltZ_n (by omega)]
    exact h.ex
theorem extraZ_n {z : Zt} {k : Nat} (h : k ≠ 46 ∧ k ≠ 40) : extraZ z k = z k := by
  unfold extraZ
  rw [upd_n h.2, upd_n h.1]
theorem extraZ_46 {z : Zt} : extraZ z 46 = z 46 + 1 := by
  unfold extraZ
  rw [upd_n (by omega), upd_s]
theorem extraZ_40 {z : Zt} : extraZ z 40 = z 40 + z 36 := upd_s
theorem IZ.extra {z : Zt} {B : Nat} (h : IZ z B) (h0 : ¬ z 46 = 9) : IZ (extraZ z) B := by
  obtain ⟨c, hc, hz⟩ := h.bv.1
  obtain ⟨x, y, hx, hy, h46, h40⟩ := h.ex
  obtain ⟨p, hp, h36⟩ := h.p36
  have hx9 : x ≠ 9 := fun q => h0 (by rw [h46, q]; rfl)
  refine h.mk2 (fun k hk => extraZ_n (by omega)) ⟨c, hc, (extraZ_n (by omega)).trans hz⟩ (by rw [extraZ_n (by omega)]; exact h.st) (fun q => (h.iv (by rw [extraZ_n (by omega)] at q; exact q)).of (extraZ_n (by omega)) (extraZ_n (by omega)) (extraZ_n (by omega))) ⟨x + 1, y + p, by omega, by omega, ?_, ?_⟩ (extraZ_n (by omega)) (extraZ_n (by omega))
  · rw [extraZ_46, h46, nI_1]
  · rw [extraZ_40, h40, h36, nI_add]
theorem endZ_n {z : Zt} {k : Nat} (h : k ≠ 38 ∧ k < 50) : endZ z k = z k := by
  unfold endZ
  rw [upd_n (by omega), upd_n (by omega), upd_n (by omega), upd_n (by omega), upd_n (by omega), upd_n (by omega), upd_n (by omega), upd_n (by omega), upd_n (by omega), shL_n (by omega)]
theorem endZ_38 {z : Zt} : endZ z 38 = 0 := upd_s
theorem endZ_50 {z : Zt} : endZ z 50 = z 50 + 1 := by
  unfold endZ
  rw [upd_n (by omega), upd_n (by omega), upd_s]
theorem endZ_51 {z : Zt} : endZ z 51 = z 51 + (z 39 + z 40) - (z 51 + (z 39 + z 40)) / 1000000 * 1000000 := by
  unfold endZ
  rw [upd_n (by omega), upd_s]
theorem endZ_52 {z : Zt} {l : Nat} (h : z 52 = nI l) (hl : l ≤ 12) : endZ z 52 = nI (min (l + 1) 12) := by
  unfold endZ
  rw [upd_n (by omega), upd_n (by omega), upd_n (by omega), upd_s, h]
  by_cases h1 : l = 12
  · subst h1
    rfl
  · rw [if_neg (show ¬ 12 ≤ nI l from nI_ge (b := 12) (by omega) (by omega)), nI_1, Nat.min_eq_left (by omega)]
theorem IZ.end_ {z : Zt} {B : Nat} (h : IZ z B) : IZ (endZ z) (B + 1) := by
  obtain ⟨c, hc, hz⟩ := h.bv.1
  obtain ⟨l, hl, h52⟩ := h.lg
  obtain ⟨e, he, h50⟩ := h.en
  refine ⟨h.bv.of ⟨c, hc, (endZ_n (by omega)).trans hz⟩ (fun k hk => endZ_n (by omega)), h.tv.of (fun k hk => endZ_n (by omega)), h.tb.of (fun k hk => endZ_n (by omega)), by rw [endZ_n (by omega)]; exact h.p36, Or.inl endZ_38, fun q => absurd endZ_38 q, by rw [endZ_n (by omega), endZ_n (by omega)]; exact h.ex, ⟨_, Nat.min_le_right _ _, endZ_52 h52 hl⟩, ⟨e + 1, by omega, by rw [endZ_50, h50, nI_1]⟩⟩
/-! an order -/
def doZ (z : Zt) (o : Or3) : Option Zt :=
  if o.1 = 104 then (if z 38 = 0 then some (hireZ z (tarN z)) else none)
  else if o.1 = 100 then (if (¬ o.2.1 < 0 ∧ ¬ 9999 < o.2.1 ∧ ¬ o.2.2 < 1 ∧ ¬ 9999 < o.2.2) ∧ z 38 = 1 then some (drvF z o.2.1.toNatClampNeg o.2.2.toNatClampNeg) else none)
  else if o.1 = 119 then (if (¬ o.2.2 < 1 ∧ ¬ 9999 < o.2.2) ∧ ¬ z 38 = 1 then some (restZ z (clk z) o.2.2.toNatClampNeg) else none)
  else if o.1 = 120 then (if ¬ z 38 = 0 ∧ ¬ z 46 = 9 then some (extraZ z) else none)
  else if o.1 = 115 then (if ¬ z 38 = 0 then some (haltZ z) else none)
  else (if ¬ z 38 = 0 then some (endZ z) else none)
def okO (z : Zt) (c a b : Int32) : Prop := (c = 104 → z 38 = 0) ∧ (c = 100 → okD a b ∧ z 38 = 1) ∧ (c = 119 → okS a ∧ ¬ z 38 = 1) ∧ (c = 120 → ¬ z 38 = 0 ∧ ¬ z 46 = 9) ∧ (c = 115 ∨ c = 101 → ¬ z 38 = 0)
theorem doZ_h {z : Zt} {f n : Int32} : doZ z (104, f, n) = if z 38 = 0 then some (hireZ z (tarN z)) else none := rfl
theorem doZ_d {z : Zt} {f n : Int32} : doZ z (100, f, n) = if (¬ f < 0 ∧ ¬ 9999 < f ∧ ¬ n < 1 ∧ ¬ 9999 < n) ∧ z 38 = 1 then some (drvF z f.toNatClampNeg n.toNatClampNeg) else none := rfl
theorem doZ_w {z : Zt} {f n : Int32} : doZ z (119, f, n) = if (¬ n < 1 ∧ ¬ 9999 < n) ∧ ¬ z 38 = 1 then some (restZ z (clk z) n.toNatClampNeg) else none := rfl
theorem doZ_x {z : Zt} {f n : Int32} : doZ z (120, f, n) = if ¬ z 38 = 0 ∧ ¬ z 46 = 9 then some (extraZ z) else none := rfl
theorem doZ_s {z : Zt} {f n : Int32} : doZ z (115, f, n) = if ¬ z 38 = 0 then some (haltZ z) else none := rfl
theorem doZ_e {z : Zt} {f n : Int32} : doZ z (101, f, n) = if ¬ z 38 = 0 then some (endZ z) else none := rfl
theorem okO_h {z : Zt} {a b : Int32} : okO z 104 a b ↔ z 38 = 0 := ⟨fun h => h.1 rfl, fun h => ⟨fun _ => h, fun q => absurd q (by decide), fun q => absurd q (by decide), fun q => absurd q (by decide), fun q => absurd q (by decide)⟩⟩
theorem okO_d {z : Zt} {a b : Int32} : okO z 100 a b ↔ (okD a b ∧ z 38 = 1) := ⟨fun h => h.2.1 rfl, fun h => ⟨fun q => absurd q (by decide), fun _ => h, fun q => absurd q (by decide), fun q => absurd q (by decide), fun q => absurd q (by decide)⟩⟩
theorem okO_w {z : Zt} {a b : Int32} : okO z 119 a b ↔ (okS a ∧ ¬ z 38 = 1) := ⟨fun h => h.2.2.1 rfl, fun h => ⟨fun q => absurd q (by decide), fun q => absurd q (by decide), fun _ => h, fun q => absurd q (by decide), fun q => absurd q (by decide)⟩⟩
theorem okO_x {z : Zt} {a b : Int32} : okO z 120 a b ↔ (¬ z 38 = 0 ∧ ¬ z 46 = 9) := ⟨fun h => h.2.2.2.1 rfl, fun h => ⟨fun q => absurd q (by decide), fun q => absurd q (by decide), fun q => absurd q (by decide), fun _ => h, fun q => absurd q (by decide)⟩⟩
theorem okO_s {z : Zt} {a b : Int32} : okO z 115 a b ↔ ¬ z 38 = 0 := ⟨fun h => h.2.2.2.2 (Or.inl rfl), fun h => ⟨fun q => absurd q (by decide), fun q => absurd q (by decide), fun q => absurd q (by decide), fun q => absurd q (by decide), fun _ => h⟩⟩
theorem okO_e {z : Zt} {a b : Int32} : okO z 101 a b ↔ ¬ z 38 = 0 := ⟨fun h => h.2.2.2.2 (Or.inr rfl), fun h => ⟨fun q => absurd q (by decide), fun q => absurd q (by decide), fun q => absurd q (by decide), fun q => absurd q (by decide), fun _ => h⟩⟩
theorem IZ.does {z y : Zt} {B : Nat} {o : Or3} (h : IZ z B) (hd : doZ z o = some y) : IZ y (B + 1) := by
  obtain ⟨l, f, n⟩ := o
  unfold doZ at hd
  dsimp only at hd
  split at hd
  · split at hd
    · cases hd
      exact (h.hire h.tarN).up (by omega)
    · cases hd
  · split at hd
    · split at hd
      · rename_i h1
        cases hd
        obtain ⟨P, -, hP, rfl⟩ := rg_nI 0 9999 rfl rfl (by omega) (by omega) h1.1.1 h1.1.2.1
        obtain ⟨S, hS1, hS2, rfl⟩ := rg_nI 1 9999 rfl rfl (by omega) (by omega) h1.1.2.2.1 h1.1.2.2.2
        rw [nI_clamp (by omega), nI_clamp (by omega)]
        exact (h.drv h1.2 hP hS1).up (by omega)
      · cases hd
    · split at hd
      · split at hd
        · cases hd
          exact h.rest.up (by omega)
        · cases hd
      · split at hd
        · split at hd
          · rename_i h1
            cases hd
            exact (h.extra h1.2).up (by omega)
          · cases hd
        · split at hd
          · split at hd
            · rename_i h1
              cases hd
              exact (h.halt h1).up (by omega)
            · cases hd
          · split at hd
            · cases hd
              exact h.end_
            · cases hd
def runL (z : Zt) : List Or3 → Zt × Nat
  | [] => (z, 0)
  | o :: os => match doZ z o with
    | none => (z, 0)
    | some y => ((runL y os).1, (runL y os).2 + 1)
theorem runL_n {z : Zt} {o : Or3} {os : List Or3} (h : doZ z o = none) : runL z (o :: os) = (z, 0) := by rw [runL, h]
theorem runL_s {z y : Zt} {o : Or3} {os : List Or3} (h : doZ z o = some y) : runL z (o :: os) = ((runL y os).1, (runL y os).2 + 1) := by rw [runL, h]
theorem IZ.run {z : Zt} {B : Nat} (h : IZ z B) (os : List Or3) : IZ (runL z os).1 (B + os.length) := by
  induction os generalizing z B with
  | nil => exact h
  | cons o os ih =>
    cases hd : doZ z o with
    | none =>
      rw [runL_n hd]
      exact h.up (by omega)
    | some y =>
      rw [runL_s hd]
      refine (ih (h.does hd)).up ?_
      rw [List.length_cons]
      omega
theorem runL_le {z : Zt} (os : List Or3) : (runL z os).2 ≤ os.length := by
  induction os generalizing z with
  | nil => exact Nat.le_refl _
  | cons o os ih =>
    cases hd : doZ z o with
    | none =>
      rw [runL_n hd]
      exact Nat.zero_le _
    | some y =>
      rw [runL_s hd, List.length_cons]
      exact Nat.succ_le_succ ih
