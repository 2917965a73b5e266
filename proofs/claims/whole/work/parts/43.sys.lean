
/-! the whole system: class and reference -/
abbrev Mt : Type := (Nat → Nat) × (Nat → Int32) × (Nat → Int32) × (Nat → Int32) × (Nat → Int32)
noncomputable def cif {α : Type} (c : Prop) (a b : α) : α := @ite α c (Classical.propDecidable c) a b
theorem cif_t {α : Type} {c : Prop} {a b : α} (h : c) : cif c a b = a := if_pos h
theorem cif_f {α : Type} {c : Prop} {a b : α} (h : ¬ c) : cif c a b = b := if_neg h
def rowP (f : Zt) (i : Nat) : Zt := fun k => f (i * 113 + k)
def apO (o : Option Zt) (z past : Zt) (pm : Nat) : Zt × Zt × Nat := match o with
  | none => (z, past, pm)
  | some y => (y, recP z past pm, min (pm + 1) 6)
theorem RM.cg {N H G L : Nat → Int32} {z y : Zt} (h : RM N H G L z) (hk : ∀ k, k < 113 → y k = z k) : RM N H G L y := by
  obtain ⟨h1, h2, h3, h4, jl, h5, h6, h7⟩ := h
  refine ⟨fun k hk2 => by rw [hk k (by omega)]; exact h1 k hk2, fun k hk2 => by rw [hk _ (by omega)]; exact h2 k hk2, fun k a b c => by rw [hk k (by omega)]; exact h3 k a b c, by rw [hk 48 (by omega), hk 47 (by omega)]; exact h4, jl, h5, h6, fun a q ha hq => by rw [hk _ (by omega)]; exact h7 a q ha hq⟩
theorem IZ.cg {z y : Zt} {B : Nat} (h : IZ z B) (hk : ∀ k, k < 113 → y k = z k) : IZ y B := by
  obtain ⟨a1, a2, a3, a4, a5, a6, a7, a8, a9⟩ := h
  obtain ⟨c, hc, hz⟩ := a1.1
  refine ⟨a1.of ⟨c, hc, (hk 37 (by omega)).trans hz⟩ (fun k q => hk k (by omega)), a2.of (fun k q => hk k (by omega)), a3.of (fun k q => hk k (by omega)), by rw [hk 36 (by omega)]; exact a4, by rw [hk 38 (by omega)]; exact a5, fun q => (a6 (by rw [hk 38 (by omega)] at q; exact q)).of (hk _ (by omega)) (hk _ (by omega)) (hk _ (by omega)), by rw [hk 46 (by omega), hk 40 (by omega)]; exact a7, by rw [hk 52 (by omega)]; exact a8, by rw [hk 50 (by omega)]; exact a9⟩
def RMm (m : Mt) (z : Zt) : Prop := RM m.2.1 m.2.2.1 m.2.2.2.1 m.2.2.2.2 z
def ST (m : Mt) (z : Zt) (B : Nat) : Prop := RMm m z ∧ IZ z B
theorem ST.up {m : Mt} {z : Zt} {B B2 : Nat} (h : ST m z B) (hB : B ≤ B2) : ST m z B2 := ⟨h.1, h.2.up hB⟩
theorem ST.cg {m : Mt} {z y : Zt} {B : Nat} (h : ST m z B) (hk : ∀ k, k < 113 → y k = z k) : ST m y B := ⟨RM.cg h.1 hk, h.2.cg hk⟩
theorem ST.mt {m m2 : Mt} {z : Zt} {B : Nat} (h : ST m z B) (e : m2.2 = m.2) : ST m2 z B := by
  obtain ⟨a, c⟩ := m
  obtain ⟨a2, c2⟩ := m2
  cases e
  exact h
def HS (past : Zt) (pm a : Nat) (m : Mt) (B : Nat) : Prop := a < pm → ST m (rowP past (pm - 1 - a)) B
theorem HS.up {past : Zt} {pm a : Nat} {m : Mt} {B B2 : Nat} (h : HS past pm a m B) (hB : B ≤ B2) : HS past pm a m B2 := fun q => (h q).up hB
theorem rec_0 {z past : Zt} {pm : Nat} (h : pm ≤ 6) : ∀ k, k < 113 → rowP (recP z past pm) (min (pm + 1) 6 - 1 - 0) k = z k := fun k hk => by
  unfold rowP recP
  by_cases e : pm = 6
  · subst e
    rw [if_pos rfl]
    unfold cpO
    rw [if_pos (by omega)]
    exact congrArg z (by omega)
  · rw [if_neg e]
    unfold cpO
    rw [if_pos (by omega)]
    exact congrArg z (by omega)
theorem rec_s {z past : Zt} {pm a : Nat} (h : pm ≤ 6) (ha : a + 1 < min (pm + 1) 6) : ∀ k, k < 113 → rowP (recP z past pm) (min (pm + 1) 6 - 1 - (a + 1)) k = rowP past (pm - 1 - a) k := fun k hk => by
  unfold rowP recP
  by_cases e : pm = 6
  · subst e
    rw [if_pos rfl]
    unfold cpO
    rw [if_neg (by omega)]
    unfold shU
    rw [if_pos (by omega)]
    exact congrArg past (by omega)
  · rw [if_neg e]
    unfold cpO
    rw [if_neg (by omega)]
    exact congrArg past (by omega)
theorem HS.rec {z past : Zt} {pm a : Nat} {m : Mt} {B : Nat} (h : HS past pm a m B) (hp : pm ≤ 6) : HS (recP z past pm) (min (pm + 1) 6) (a + 1) m B := fun q => (h (by omega)).cg (rec_s hp q)
theorem HS.new {z past : Zt} {pm : Nat} {m : Mt} {B : Nat} (h : ST m z B) (hp : pm ≤ 6) : HS (recP z past pm) (min (pm + 1) 6) 0 m B := fun _ => h.cg (rec_0 hp)
theorem HS.und {past : Zt} {pm a : Nat} {m : Mt} {B : Nat} (h : HS past pm (a + 1) m B) : HS past (pm - 1) a m B := fun q => by
  have h2 := h (by omega)
  rw [show pm - 1 - (a + 1) = pm - 1 - 1 - a by omega] at h2
  exact h2

def RING (rf : Nat → Option Nat) (j : Nat) (r0 r1 r2 r3 r4 r5 r6 : Mt) (past : Zt) (pm B : Nat) : Prop := j < 7 ∧ pm ≤ 6 ∧ (rf j = some (r0.1 0) ∧ rf ((j + 1) % 7) = some (r1.1 0) ∧ rf ((j + 2) % 7) = some (r2.1 0) ∧ rf ((j + 3) % 7) = some (r3.1 0) ∧ rf ((j + 4) % 7) = some (r4.1 0) ∧ rf ((j + 5) % 7) = some (r5.1 0) ∧ rf ((j + 6) % 7) = some (r6.1 0)) ∧ HS past pm 0 r6 B ∧ HS past pm 1 r5 B ∧ HS past pm 2 r4 B ∧ HS past pm 3 r3 B ∧ HS past pm 4 r2 B ∧ HS past pm 5 r1 B

def SLR (f s : Int32) (m : Mt) (y : Zt) (B : Nat) : Prop := (f = 0 ∧ s = 0) ∨ (¬ f = 0 ∧ ¬ s = 0 ∧ ST m y B)
theorem SLR.up {f s : Int32} {m : Mt} {y : Zt} {B B2 : Nat} (h : SLR f s m y B) (hB : B ≤ B2) : SLR f s m y B2 := by
  rcases h with h | ⟨h1, h2, h3⟩
  · exact Or.inl h
  · exact Or.inr ⟨h1, h2, h3.up hB⟩
def PADR (cp pd : Nat → Int32) (ln ty : Nat) : Prop := ln = ty ∧ ty ≤ 80 ∧ PDok pd ty ∧ ∀ i, i < ty → cp i = pd i

def REL (rf : Nat → Option Nat) (j : Nat) (r0 : Mt) (r1 : Mt) (r2 : Mt) (r3 : Mt) (r4 : Mt) (r5 : Mt) (r6 : Mt) (mm : Mt) (mu : Mt) (mv : Mt) (f1 : Int32) (f2 : Int32) (hs : Nat) (ln : Nat) (cp : Nat → Int32) (z : Zt) (past : Zt) (pm : Nat) (sl : Zt) (sv : Zt) (pd : Zt) (ty : Nat) (B : Nat) : Prop := hs = pm ∧ RING rf j r0 r1 r2 r3 r4 r5 r6 past pm B ∧ ST mm z B ∧ SLR f1 (sv 0) mu (rowP sl 0) B ∧ SLR f2 (sv 1) mv (rowP sl 1) B ∧ PADR cp pd ln ty
theorem REL.up {rf : Nat → Option Nat} {j : Nat} {r0 : Mt} {r1 : Mt} {r2 : Mt} {r3 : Mt} {r4 : Mt} {r5 : Mt} {r6 : Mt} {mm : Mt} {mu : Mt} {mv : Mt} {f1 : Int32} {f2 : Int32} {hs : Nat} {ln : Nat} {cp : Nat → Int32} {z : Zt} {past : Zt} {pm : Nat} {sl : Zt} {sv : Zt} {pd : Zt} {ty : Nat} {B : Nat} {B2 : Nat} (h : REL rf j r0 r1 r2 r3 r4 r5 r6 mm mu mv f1 f2 hs ln cp z past pm sl sv pd ty B) (hB : B ≤ B2) : REL rf j r0 r1 r2 r3 r4 r5 r6 mm mu mv f1 f2 hs ln cp z past pm sl sv pd ty B2 := by
  obtain ⟨h0, ⟨h1, h2, h3, k1, k2, k3, k4, k5, k6⟩, h4, h5, h6, h7⟩ := h
  exact ⟨h0, ⟨h1, h2, h3, k1.up hB, k2.up hB, k3.up hB, k4.up hB, k5.up hB, k6.up hB⟩, h4.up hB, h5.up hB, h6.up hB, h7⟩
theorem REL.fail {rf : Nat → Option Nat} {j : Nat} {r0 : Mt} {r1 : Mt} {r2 : Mt} {r3 : Mt} {r4 : Mt} {r5 : Mt} {r6 : Mt} {mm : Mt} {mu : Mt} {mv : Mt} {f1 : Int32} {f2 : Int32} {hs : Nat} {ln : Nat} {cp : Nat → Int32} {z : Zt} {past : Zt} {pm : Nat} {sl : Zt} {sv : Zt} {pd : Zt} {ty : Nat} {B : Nat} {B2 : Nat} (h : REL rf j r0 r1 r2 r3 r4 r5 r6 mm mu mv f1 f2 hs ln cp z past pm sl sv pd ty B) (c : (Nat → Int32) × (Nat → Int32) × (Nat → Int32) × (Nat → Int32)) (hB : B ≤ B2) : REL rf j (r0.1, c) r1 r2 r3 r4 r5 r6 mm mu mv f1 f2 hs ln cp z past pm sl sv pd ty B2 := by
  obtain ⟨h0, ⟨h1, h2, h3, hk⟩, h4, h5, h6, h7⟩ := h.up hB
  exact ⟨h0, ⟨h1, h2, h3, hk⟩, h4, h5, h6, h7⟩
theorem REL.rec {rf : Nat → Option Nat} {j : Nat} {r0 : Mt} {r1 : Mt} {r2 : Mt} {r3 : Mt} {r4 : Mt} {r5 : Mt} {r6 : Mt} {mm : Mt} {mu : Mt} {mv : Mt} {f1 : Int32} {f2 : Int32} {hs : Nat} {ln : Nat} {cp : Nat → Int32} {z : Zt} {past : Zt} {pm : Nat} {sl : Zt} {sv : Zt} {pd : Zt} {ty : Nat} {B : Nat} {B2 : Nat} {m2 : Mt} {y2 : Zt} (h : REL rf j r0 r1 r2 r3 r4 r5 r6 mm mu mv f1 f2 hs ln cp z past pm sl sv pd ty B) (hn : ST m2 y2 B2) (hB : B ≤ B2) : REL rf ((j + 1) % 7) r1 r2 r3 r4 r5 r6 (r0.1, mm.2) m2 mu mv f1 f2 (min (hs + 1) 6) ln cp y2 (recP z past pm) (min (pm + 1) 6) sl sv pd ty B2 := by
  obtain ⟨h0, ⟨h1, h2, ⟨f0, f1, f2, f3, f4, f5, f6⟩, k1, k2, k3, k4, k5, k6⟩, h4, h5, h6, h7⟩ := h.up hB
  subst h0
  refine ⟨rfl, ⟨Nat.mod_lt _ (by omega), Nat.min_le_right _ _, ⟨f1, ?_, ?_, ?_, ?_, ?_, ?_⟩, HS.new (h4.mt rfl) h2, k1.rec h2, k2.rec h2, k3.rec h2, k4.rec h2, k5.rec h2⟩, hn, h5, h6, h7⟩
  · rw [show ((j + 1) % 7 + 1) % 7 = (j + 2) % 7 by omega]; exact f2
  · rw [show ((j + 1) % 7 + 2) % 7 = (j + 3) % 7 by omega]; exact f3
  · rw [show ((j + 1) % 7 + 3) % 7 = (j + 4) % 7 by omega]; exact f4
  · rw [show ((j + 1) % 7 + 4) % 7 = (j + 5) % 7 by omega]; exact f5
  · rw [show ((j + 1) % 7 + 5) % 7 = (j + 6) % 7 by omega]; exact f6
  · rw [show ((j + 1) % 7 + 6) % 7 = j by omega]; exact f0
theorem REL.und {rf : Nat → Option Nat} {j : Nat} {r0 : Mt} {r1 : Mt} {r2 : Mt} {r3 : Mt} {r4 : Mt} {r5 : Mt} {r6 : Mt} {mm : Mt} {mu : Mt} {mv : Mt} {f1 : Int32} {f2 : Int32} {hs : Nat} {ln : Nat} {cp : Nat → Int32} {z : Zt} {past : Zt} {pm : Nat} {sl : Zt} {sv : Zt} {pd : Zt} {ty : Nat} {B : Nat} {B2 : Nat} (h : REL rf j r0 r1 r2 r3 r4 r5 r6 mm mu mv f1 f2 hs ln cp z past pm sl sv pd ty B) (hp : ¬ hs = 0) (hB : B ≤ B2) : REL rf ((j + 6) % 7) r6 r0 r1 r2 r3 r4 r5 (mm.1, r6.2) mu mv f1 f2 (hs - 1) ln cp (rowP past (pm - 1)) past (pm - 1) sl sv pd ty B2 := by
  obtain ⟨h0, ⟨h1, h2, ⟨f0, f1, f2, f3, f4, f5, f6⟩, k1, k2, k3, k4, k5, k6⟩, h4, h5, h6, h7⟩ := h.up hB
  subst h0
  refine ⟨rfl, ⟨Nat.mod_lt _ (by omega), by omega, ⟨f6, ?_, ?_, ?_, ?_, ?_, ?_⟩, k2.und, k3.und, k4.und, k5.und, k6.und, fun q => absurd q (by omega)⟩, (k1 (by omega)).mt rfl, h5, h6, h7⟩
  · rw [show ((j + 6) % 7 + 1) % 7 = j by omega]; exact f0
  · rw [show ((j + 6) % 7 + 2) % 7 = (j + 1) % 7 by omega]; exact f1
  · rw [show ((j + 6) % 7 + 3) % 7 = (j + 2) % 7 by omega]; exact f2
  · rw [show ((j + 6) % 7 + 4) % 7 = (j + 3) % 7 by omega]; exact f3
  · rw [show ((j + 6) % 7 + 5) % 7 = (j + 4) % 7 by omega]; exact f4
  · rw [show ((j + 6) % 7 + 6) % 7 = (j + 5) % 7 by omega]; exact f5

theorem row_same {z sl : Zt} {q : Nat} : ∀ k, k < 113 → rowP (cpO z sl (q * 113) 113) q k = z k := fun k hk => by
  unfold rowP cpO
  rw [if_pos (by omega)]
  exact congrArg z (by omega)
theorem row_other {z sl : Zt} {q i : Nat} (h : i ≠ q) : ∀ k, k < 113 → rowP (cpO z sl (q * 113) 113) i k = rowP sl i k := fun k hk => by
  unfold rowP cpO
  exact if_neg (by omega)
theorem SLR.cg {f s : Int32} {m : Mt} {y y2 : Zt} {B : Nat} (h : SLR f s m y B) (hk : ∀ k, k < 113 → y2 k = y k) : SLR f s m y2 B := by
  rcases h with h | ⟨h1, h2, h3⟩
  · exact Or.inl h
  · exact Or.inr ⟨h1, h2, h3.cg hk⟩

theorem REL.save0 {rf : Nat → Option Nat} {j : Nat} {r0 : Mt} {r1 : Mt} {r2 : Mt} {r3 : Mt} {r4 : Mt} {r5 : Mt} {r6 : Mt} {mm : Mt} {mu : Mt} {mv : Mt} {f1 : Int32} {f2 : Int32} {hs : Nat} {ln : Nat} {cp : Nat → Int32} {z : Zt} {past : Zt} {pm : Nat} {sl : Zt} {sv : Zt} {pd : Zt} {ty : Nat} {B : Nat} {B2 : Nat} (h : REL rf j r0 r1 r2 r3 r4 r5 r6 mm mu mv f1 f2 hs ln cp z past pm sl sv pd ty B) (hB : B ≤ B2) : REL rf j r0 r1 r2 r3 r4 r5 r6 mm (mu.1, mm.2) mv 1 f2 hs ln cp z past pm (cpO z sl (0 * 113) 113) (upd sv 0 1) pd ty B2 := by
  obtain ⟨h0, h1, h4, h5, h6, h7⟩ := h.up hB
  exact ⟨h0, h1, h4, Or.inr ⟨by decide, by rw [upd_s]; decide, (h4.mt rfl).cg row_same⟩, (by rw [upd_n (by omega)]; exact h6.cg (row_other (by omega))), h7⟩
theorem REL.save1 {rf : Nat → Option Nat} {j : Nat} {r0 : Mt} {r1 : Mt} {r2 : Mt} {r3 : Mt} {r4 : Mt} {r5 : Mt} {r6 : Mt} {mm : Mt} {mu : Mt} {mv : Mt} {f1 : Int32} {f2 : Int32} {hs : Nat} {ln : Nat} {cp : Nat → Int32} {z : Zt} {past : Zt} {pm : Nat} {sl : Zt} {sv : Zt} {pd : Zt} {ty : Nat} {B : Nat} {B2 : Nat} (h : REL rf j r0 r1 r2 r3 r4 r5 r6 mm mu mv f1 f2 hs ln cp z past pm sl sv pd ty B) (hB : B ≤ B2) : REL rf j r0 r1 r2 r3 r4 r5 r6 mm mu (mv.1, mm.2) f1 1 hs ln cp z past pm (cpO z sl (1 * 113) 113) (upd sv 1 1) pd ty B2 := by
  obtain ⟨h0, h1, h4, h5, h6, h7⟩ := h.up hB
  exact ⟨h0, h1, h4, (by rw [upd_n (by omega)]; exact h5.cg (row_other (by omega))), Or.inr ⟨by decide, by rw [upd_s]; decide, (h4.mt rfl).cg row_same⟩, h7⟩

/-! the answers, and what becomes of the row -/
noncomputable def tariffS (z : Zt) (tt bb dd ww qq : Int32) : Int32 × Option Zt := cif (okT tt) (cif (okV bb dd ww qq) (z (4 * tt.toNatClampNeg + 1), some (tarZ z tt.toNatClampNeg bb dd ww qq)) (-2, none)) (-1, none)
noncomputable def hourS (z : Zt) (hh tt : Int32) : Int32 × Option Zt := cif (okHr hh tt) (z (12 + hh.toNatClampNeg), some (upd z (12 + hh.toNatClampNeg) tt)) (-1, none)
noncomputable def priceOfExtraS (z : Zt) (cc : Int32) : Int32 × Option Zt := cif (ok99 cc) (z 36, some (upd z 36 cc)) (-2, none)
noncomputable def hireS (z : Zt) : Int32 × Option Zt := cif (z 38 = 0) (nI (tarN z), some (hireZ z (tarN z))) (-5, none)
noncomputable def driveS (z : Zt) (p q : Int32) : Int32 × Option Zt := cif (okD p q) (cif (z 38 = 1) ((drvZ z p.toNatClampNeg q.toNatClampNeg q.toNatClampNeg).2, some (drvF z p.toNatClampNeg q.toNatClampNeg)) (-5, none)) (-2, none)
noncomputable def restS (z : Zt) (q : Int32) : Int32 × Option Zt := cif (okS q) (cif (z 38 = 1) (-5, none) (nI ((clk z + q.toNatClampNeg) % 86400), some (restZ z (clk z) q.toNatClampNeg))) (-2, none)
noncomputable def haltS (z : Zt) : Int32 × Option Zt := cif (z 38 = 0) (-5, none) (3 - z 38, some (haltZ z))
noncomputable def extraS (z : Zt) : Int32 × Option Zt := cif (z 38 = 0) (-5, none) (cif (z 46 = 9) (-4, none) (z 46 + 1, some (extraZ z)))
noncomputable def endS (z : Zt) : Int32 × Option Zt := cif (z 38 = 0) (-5, none) (z 39 + z 40, some (endZ z))
noncomputable def restoreS (sl sv : Zt) (s0 : Int32) : Int32 × Option Zt := cif (ok1 s0) (cif (sv s0.toNatClampNeg = 0) (-5, none) (sl (s0.toNatClampNeg * 113 + 50), some (rowP sl s0.toNatClampNeg))) (-2, none)
noncomputable def ofTariffR (z : Zt) (tt ww : Int32) : Int32 := cif (okT tt) (cif (ok4 ww) (cif (ww = 4) (hcnt (fun i => z (12 + i)) tt 24) (z (4 * tt.toNatClampNeg + ww.toNatClampNeg))) (-2)) (-1)
noncomputable def rideR (z : Zt) (ww : Int32) : Int32 := cif (ok8 ww) (z (39 + ww.toNatClampNeg)) (-2)
noncomputable def logR (z : Zt) (aa ww : Int32) : Int32 := cif (okL aa (z 52)) (cif (ok4 ww) (z (53 + 5 * aa.toNatClampNeg + ww.toNatClampNeg)) (-2)) (-1)
def cntV (z : Zt) (ty pm : Nat) : Nat → Int32
  | 0 => z 37
  | 1 => z 38
  | 2 => z (12 + clk z / 3600)
  | 3 => z 36
  | 4 => z 50
  | 5 => z 51
  | 6 => z 52
  | 7 => nI ty
  | _ => nI pm
noncomputable def countR (z : Zt) (ty pm : Nat) (ww : Int32) : Int32 := cif (ok8 ww) (cntV z ty pm ww.toNatClampNeg) (-2)
noncomputable def wouldR (z : Zt) (p q : Int32) : Int32 := cif (okD p q) (cif (z 38 = 1) (drvF z p.toNatClampNeg q.toNatClampNeg 39 - z 39) (-5)) (-2)
noncomputable def priceR (z : Zt) (p q : Int32) : Int32 := cif (okD p q) (costZ z (clk z) p.toNatClampNeg q.toNatClampNeg 39) (-2)
noncomputable def farthestR (z : Zt) (q co : Int32) : Int32 := cif (okF q co) (farR (fun p => costZ z (clk z) p q.toNatClampNeg 39) co) (-2)
noncomputable def cheapestR (z : Zt) (p q ww : Int32) : Int32 := cif (okD p q) (cif (ok1 ww) (cif (ww = 0) (chp (fun h => costZ z (3600 * h) p.toNatClampNeg q.toNatClampNeg 39) 24).1 (chp (fun h => costZ z (3600 * h) p.toNatClampNeg q.toNatClampNeg 39) 24).2) (-2)) (-2)
/-! what the row says of the clock -/
theorem IZ_ck {z : Zt} {B : Nat} (h : IZ z B) : clk z < 86400 ∧ z 37 = nI (clk z) ∧ tarN z < 3 ∧ z (12 + clk z / 3600) = nI (tarN z) := by
  obtain ⟨c, t, h1, h2, h3, h4, -⟩ := h.bv.get
  rw [tarN_of h2 h1 h4 h3, clk_of h2 h1]
  exact ⟨h1, h2, h3, h4⟩
theorem nI_cl {x : Int32} {a b : Nat} (lo hi : Int32) (hlo : lo = nI a) (hhi : hi = nI b) (ha : a ≤ b) (hb : b < 2 ^ 31) (h1 : ¬ x < lo) (h2 : ¬ hi < x) : x = nI x.toNatClampNeg ∧ a ≤ x.toNatClampNeg ∧ x.toNatClampNeg ≤ b := by
  obtain ⟨k, k1, k2, rfl⟩ := rg_nI a b hlo hhi ha hb h1 h2
  rw [nI_clamp (by omega)]
  exact ⟨rfl, k1, k2⟩
theorem cl_of {x : Int32} {k : Nat} (h : x = nI k) (hk : k < 2 ^ 31) : x.toNatClampNeg = k := by rw [h, nI_clamp hk]

def mW (g : Gd) (m : Mt) : va_W := [(m.1 0, .inr (3, [.ref (m.1 1), .ref (m.1 2), .ref (m.1 3), .int (m.2.2.2.1 37), .int (m.2.2.2.1 38), .int (m.2.2.2.1 36), .int (m.2.2.2.1 50), .int (m.2.2.2.1 51)])), (m.1 1, .inr (8, [.ref (m.1 4), .ref (m.1 5)])), (m.1 2, .inr (6, [.int (m.2.2.2.1 49), .int (m.2.2.2.1 39), .int (m.2.2.2.1 40), .int (m.2.2.2.1 46), .int (m.2.2.2.1 41), .int (m.2.2.2.1 42), .int (m.2.2.2.1 43), .int (m.2.2.2.1 44), .int (m.2.2.2.1 45), .int (m.2.2.2.1 47), .int (m.2.2.2.1 48)])), (m.1 3, .inr (2, [.ref (m.1 6), .int (m.2.2.2.1 113), .int (m.2.2.2.1 52)])), (m.1 4, .inl (gI g, 12, .inl m.2.1)), (m.1 5, .inl (gI g, 24, .inl m.2.2.1)), (m.1 6, .inl (gI g, 60, .inl m.2.2.2.2))]
def SWB (g : Gd) (f0 h0 s0 p0 o0 d0 h1 p1 : Nat) (rf : Nat → Option Nat) (a0 a1 a2 a3 a4 a5 a6 a7 : Nat) (j : Nat) (r0 : Mt) (r1 : Mt) (r2 : Mt) (r3 : Mt) (r4 : Mt) (r5 : Mt) (r6 : Mt) (mm : Mt) (mu : Mt) (mv : Mt) (f1 : Int32) (f2 : Int32) (hs : Nat) (ln : Nat) (cp : Nat → Int32) (o1 : Int32) (o2 : Int32) (o3 : Int32) (o4 : Int32) (D : Nat → Int32) (z : Zt) (past : Zt) (pm : Nat) (sl : Zt) (sv : Zt) (pd : Zt) (ty : Nat) (y : Zt) (od : Zt) (om : Int32) (sp : Int32) (wr : Int32) : List va_W := [[(f0, .inr (9, [.ref (mm.1 0), .ref h0, .ref s0, .ref p0, .ref o0, .ref d0]))],
  [(h0, .inr (1, [.ref h1, .int (nI j), .int (nI hs)]))],
  [(h1, .inl (gM g, 7, .inr (.inr (.inr (.inr rf)))))],
  mW g r0,
  mW g mm,
  [(d0, .inr (0, [.int (D 0), .int (D 1), .int (D 2), .int (D 3), .int (D 4), .int (D 5), .int (D 6), .int (D 7), .int (D 8), .int (D 9), .int (D 10)]))],
  [(o0, .inr (4, [.int o1, .int o2, .int o3, .int o4]))],
  [(p0, .inr (5, [.ref p1, .int (nI ln)]))],
  [(p1, .inl (gC g, 80, .inl cp))],
  [(s0, .inr (7, [.ref (mu.1 0), .ref (mv.1 0), .int f1, .int f2]))],
  mW g mu,
  mW g mv,
  [(a0, .inr (10, [.ref a1, .ref a2, .ref a3, .ref a4, .int (nI pm), .ref a5, .ref a6, .int (nI ty), .ref a7, .int om, .int sp, .int wr]))],
  [(a1, .inl (gI g, 113, .inl z))],
  [(a2, .inl (gI g, 678, .inl past))],
  [(a3, .inl (gI g, 226, .inl sl))],
  [(a4, .inl (gZ g, 2, .inl sv))],
  [(a5, .inl (gI g, 113, .inl y))],
  [(a6, .inl (gC g, 80, .inl pd))],
  [(a7, .inl (gI g, 123, .inl od))],
  mW g r1,
  mW g r2,
  mW g r3,
  mW g r4,
  mW g r5,
  mW g r6]
theorem SWB_len (g : Gd) (f0 h0 s0 p0 o0 d0 h1 p1 : Nat) (rf : Nat → Option Nat) (a0 a1 a2 a3 a4 a5 a6 a7 : Nat) (j : Nat) (r0 : Mt) (r1 : Mt) (r2 : Mt) (r3 : Mt) (r4 : Mt) (r5 : Mt) (r6 : Mt) (mm : Mt) (mu : Mt) (mv : Mt) (f1 : Int32) (f2 : Int32) (hs : Nat) (ln : Nat) (cp : Nat → Int32) (o1 : Int32) (o2 : Int32) (o3 : Int32) (o4 : Int32) (D : Nat → Int32) (z : Zt) (past : Zt) (pm : Nat) (sl : Zt) (sv : Zt) (pd : Zt) (ty : Nat) (y : Zt) (od : Zt) (om : Int32) (sp : Int32) (wr : Int32) : (SWB g f0 h0 s0 p0 o0 d0 h1 p1 rf a0 a1 a2 a3 a4 a5 a6 a7 j r0 r1 r2 r3 r4 r5 r6 mm mu mv f1 f2 hs ln cp o1 o2 o3 o4 D z past pm sl sv pd ty y od om sp wr).length = 26 := rfl
def SW (g : Gd) (f0 h0 s0 p0 o0 d0 h1 p1 : Nat) (rf : Nat → Option Nat) (a0 a1 a2 a3 a4 a5 a6 a7 : Nat) (j : Nat) (r0 : Mt) (r1 : Mt) (r2 : Mt) (r3 : Mt) (r4 : Mt) (r5 : Mt) (r6 : Mt) (mm : Mt) (mu : Mt) (mv : Mt) (f1 : Int32) (f2 : Int32) (hs : Nat) (ln : Nat) (cp : Nat → Int32) (o1 : Int32) (o2 : Int32) (o3 : Int32) (o4 : Int32) (D : Nat → Int32) (z : Zt) (past : Zt) (pm : Nat) (sl : Zt) (sv : Zt) (pd : Zt) (ty : Nat) (y : Zt) (od : Zt) (om : Int32) (sp : Int32) (wr : Int32) : va_W := (SWB g f0 h0 s0 p0 o0 d0 h1 p1 rf a0 a1 a2 a3 a4 a5 a6 a7 j r0 r1 r2 r3 r4 r5 r6 mm mu mv f1 f2 hs ln cp o1 o2 o3 o4 D z past pm sl sv pd ty y od om sp wr).flatten

/-! the order of the cells doesn't matter -/
theorem va_nd_iff : ∀ {l : List Nat}, va_nd l = true ↔ l.Nodup
  | [] => by simp [va_nd]
  | a :: l => by
    rw [va_nd, Bool.and_eq_true, decide_eq_true_eq, va_nd_iff, List.nodup_cons]
theorem va_D_iff {A : Nat → Prop} {ws : va_W} : va_D A ws ↔ (ws.map (fun q => q.1)).Nodup ∧ ∀ q ∈ ws, A q.1 := by
  constructor
  · rintro ⟨h1, h2⟩
    refine ⟨List.pairwise_iff_getElem.mpr (fun i j hi hj hij he => ?_), fun q hq => ?_⟩
    · rw [List.length_map] at hi hj
      rw [List.getElem_map, List.getElem_map] at he
      have := h1 i j _ _ (List.getElem?_eq_getElem hi) (List.getElem?_eq_getElem hj) he
      omega
    · obtain ⟨k, hk⟩ := List.mem_iff_getElem?.mp hq
      exact h2 k q hk
  · rintro ⟨h1, h2⟩
    refine ⟨fun i j p q hi hj he => ?_, fun k q hk => h2 q (List.mem_of_getElem? hk)⟩
    obtain ⟨hi1, hi2⟩ := List.getElem?_eq_some_iff.mp hi
    refine (List.getElem?_inj (l := ws.map (fun q => q.1)) (i := i) (j := j) (by rw [List.length_map]; exact hi1) h1).mp ?_
    rw [List.getElem?_map, List.getElem?_map, hi, hj]
    exact congrArg some he
theorem V_Perm {g : Gd} {X : Bd} {cs ss pc : Nat} {ws ws2 : va_W} {L : List (Nat × Value)} {st : List Value} (h : ws.Perm ws2) (kk : V g X cs ss ws2 pc L st) : V g X cs ss ws pc L st := by
  obtain ⟨p, l, e, R, s, m, args, below, meth, c, Q, A, n'⟩ := X
  intro H locs ls hP hD hS hl
  refine kk H locs ls (fun k q hk => ?_) (va_D_iff.mpr ⟨?_, fun q hq => ?_⟩) hS hl
  · obtain ⟨i, hi⟩ := List.mem_iff_getElem?.mp (h.mem_iff.mpr (List.mem_of_getElem? hk))
    exact hP i q hi
  · exact (h.map _).nodup (va_D_iff.mp hD).1
  · exact (va_D_iff.mp hD).2 q (h.mem_iff.mpr hq)
def pkB (is : List Nat) (bs : List va_W) : List va_W := is.map (fun i => bs.getD i [])
theorem pkB_app {is js : List Nat} {bs : List va_W} : pkB (is ++ js) bs = pkB is bs ++ pkB js bs := List.map_append
theorem pkB_perm {is : List Nat} {bs : List va_W} {nb : Nat} (hn : bs.length = nb) (hp : is.isPerm (List.range nb) = true) : (pkB is bs).Perm bs := by
  subst hn
  have h2 := (List.isPerm_iff.mp hp).map (fun i => bs.getD i [])
  have h3 : (List.range bs.length).map (fun i => bs.getD i []) = bs := by
    apply List.ext_getElem
    · simp
    · intro i a b9
      simp [List.getD, List.getElem?_eq_getElem b9]
  rw [h3] at h2
  exact h2
theorem perm_in {bs : List va_W} {wc : va_W} (isC isR : List Nat) {nb : Nat} (hn : bs.length = nb) (hp : (isC ++ isR).isPerm (List.range nb) = true) (hw : (pkB isC bs).flatten = wc) : bs.flatten.Perm (wc ++ (pkB isR bs).flatten) := by
  subst hw
  have h := (pkB_perm hn hp).symm.flatten
  rw [pkB_app, List.flatten_append] at h
  exact h
theorem perm_out {bs bs2 bl : List va_W} {w : va_W} (isR isR2 isC2 : List Nat) {nb : Nat} (hn : bs2.length = nb) (hp : (isR2 ++ isC2).isPerm (List.range nb) = true) (hw : w = (pkB isC2 bs2).flatten) (hr : pkB isR bs = bl) (hr2 : pkB isR2 bs2 = bl) : ((pkB isR bs).flatten ++ w).Perm bs2.flatten := by
  subst hw
  rw [hr, ← hr2, ← List.flatten_append, ← pkB_app]
  exact (pkB_perm hn hp).flatten
theorem V_callB {g : Gd} {X : Bd} {own : String} {cc : ByteArray} {n d mc ms cs ss pc : Nat} {L : List (Nat × Value)} {st : List Value} {b ci q0 : Nat} {fs : List Value} {T : u_T} {N : Nat} {y : MethodName} {cb : ByteArray} {maxL : Nat} {rt : Option FieldType} {na index d2 : Nat} {As rest : List Value} {bs : List va_W} {wc : va_W} {post : Int32 → va_W → Prop} (C : Cx g X own cc n d mc ms) (K : Ki g y cb maxL rt d2 0 0 (.ref b :: As) wc post) (cw : CV own index y cb maxL rt na) (isC isR : List Nat) {nb : Nat} (hn : bs.length = nb) (hp : (isC ++ isR).isPerm (List.range nb) = true) (hw : (pkB isC bs).flatten = wc) (he : wc[q0]? = some (b, .inr (ci, fs))) (hcl : vwCl[ci]? = some (y.cls, T, N)) (hst : st = As.reverse ++ .ref b :: rest) (hna : As.length = na) (hrest : (rest.map fun v => v.category).sum ≤ 8) (hd : d2 + 1 ≤ d) (hcells : cs ≤ mc ∧ ss ≤ ms) (hdg : decode cc pc = .ok (.invokevirtual index, 3)) (kk : ∀ (r : Int32) (w1 : va_W), post r w1 → V g X cs ss ((pkB isR bs).flatten ++ w1) (pc + 3) L (.int r :: rest)) : V g X cs ss bs.flatten pc L st := by
  refine V_Perm (perm_in isC isR hn hp hw) ?_
  generalize (pkB isR bs).flatten = wr at kk ⊢
  have hq0 : q0 < wc.length := (List.getElem?_eq_some_iff.mp he).1
  refine V_callVi (q0 := q0) (wr := wr) C K cw (List.range wc.length) ((List.range wr.length).map (wc.length + ·)) ?_ ?_ ?_ ?_ ?_ (by rw [List.getElem?_append_left hq0]; exact he) hcl hst hna hrest hd hcells hdg kk
  · apply List.ext_getElem
    · simp
    · intro i a b9
      have hi : i < wc.length := by simpa using b9
      rw [List.getElem_map, List.getElem_range, List.getElem_map, List.getElem?_append_left hi, List.getElem?_eq_getElem hi]
  · apply List.ext_getElem
    · simp
    · intro i a b9
      have hi : i < wr.length := by simpa using b9
      rw [List.getElem_map, List.getElem_map, List.getElem_range, List.getElem_map, List.getElem?_append_right (by omega), show wc.length + i - wc.length = i by omega, List.getElem?_eq_getElem hi]
  · exact va_nd_iff.mpr List.nodup_range
  · refine va_nd_iff.mpr (List.pairwise_map.mpr (List.Pairwise.imp ?_ List.nodup_range))
    intro a b9 h9 h8
    exact h9 (by omega)
  · intro i hi hi2
    obtain ⟨k, hk, rfl⟩ := List.mem_map.mp hi
    have := List.mem_range.mp hi2
    omega

def LPR (g : Gd) (X : Bd) (cs ss : Nat) (f0 h0 s0 p0 o0 d0 h1 p1 : Nat) (rf : Nat → Option Nat) (a0 a1 a2 a3 a4 a5 a6 a7 : Nat) (pc : Nat) (L : List (Nat × Value)) (B : Nat) : Prop := ∀ (j : Nat) (r0 : Mt) (r1 : Mt) (r2 : Mt) (r3 : Mt) (r4 : Mt) (r5 : Mt) (r6 : Mt) (mm : Mt) (mu : Mt) (mv : Mt) (f1 : Int32) (f2 : Int32) (hs : Nat) (ln : Nat) (cp : Nat → Int32) (o1 : Int32) (o2 : Int32) (o3 : Int32) (o4 : Int32) (D : Nat → Int32) (z : Zt) (past : Zt) (pm : Nat) (sl : Zt) (sv : Zt) (pd : Zt) (ty : Nat) (y : Zt) (od : Zt) (om : Int32) (sp : Int32) (wr : Int32), REL rf j r0 r1 r2 r3 r4 r5 r6 mm mu mv f1 f2 hs ln cp z past pm sl sv pd ty B → V g X cs ss (SW g f0 h0 s0 p0 o0 d0 h1 p1 rf a0 a1 a2 a3 a4 a5 a6 a7 j r0 r1 r2 r3 r4 r5 r6 mm mu mv f1 f2 hs ln cp o1 o2 o3 o4 D z past pm sl sv pd ty y od om sp wr) pc L []

def SC (X : Bd) (b n : Nat) (xs : Nat → Int32) : Prop :=
  match X with
  | (p, l, e, R, s, m, args, below, meth, c, Q, A, n') => va_X b n xs s s.heap ∧ b < s.heap.size ∧ ¬ A b
theorem V_sld {g : Gd} {X : Bd} {own : String} {cc : ByteArray} {n d mc ms cs ss pc : Nat} {ws : va_W} {L : List (Nat × Value)} {st : List Value} {b nn : Nat} {xs : Nat → Int32} (C : Cx g X own cc n d mc ms) (hX : SC X b nn xs) (k : Nat) (hk : k < nn) (hn2 : nn < 2 ^ 31) (hdg : decode cc pc = .ok (.iaload, 1)) (kk : V g X cs ss ws (pc + 1) L (.int (xs k) :: st)) : V g X cs ss ws pc L (.int (nI k) :: .ref b :: st) := by
  obtain ⟨p, l, e, R, s, m, args, below, meth, c, Q, A, n'⟩ := X
  obtain ⟨hx, hb, hml, hts, hown, ⟨hK, hNK, hZS⟩, hA, hn, hd1, hd2, hd3, hd4⟩ := C
  obtain ⟨h1, h2, h3⟩ := hX
  subst hn
  intro H locs ls hP hD hS hl
  refine va_sld hx hb h1 h2 h3 hS (vp_in_nI hk hn2) hdg ?_
  rw [nI_clamp (by omega)]
  exact kk H locs ls hP hD hS hl
theorem V_slenX {g : Gd} {X : Bd} {own : String} {cc : ByteArray} {n d mc ms cs ss pc : Nat} {ws : va_W} {L : List (Nat × Value)} {st : List Value} {b nn : Nat} {xs : Nat → Int32} (C : Cx g X own cc n d mc ms) (hX : SC X b nn xs) (hdg : decode cc pc = .ok (.arraylength, 1)) (kk : V g X cs ss ws (pc + 1) L (.int (nI nn) :: st)) : V g X cs ss ws pc L (.ref b :: st) := by
  obtain ⟨p, l, e, R, s, m, args, below, meth, c, Q, A, n'⟩ := X
  obtain ⟨hx, hb, hml, hts, hown, ⟨hK, hNK, hZS⟩, hA, hn, hd1, hd2, hd3, hd4⟩ := C
  obtain ⟨h1, h2, h3⟩ := hX
  subst hn
  intro H locs ls hP hD hS hl
  exact va_slen hx hb h1 h2 h3 hS hdg (kk H locs ls hP hD hS hl)

