
/-! the frame of the walks: V, a goal of the kit's W over any heap that holds the cells ws -/
abbrev Gd : Type := va_G × (ClassId × ClassId × ClassId × ClassId) × (Nat → Nat) × (Nat → Nat)
abbrev gI (g : Gd) : ClassId := g.2.1.1
abbrev gC (g : Gd) : ClassId := g.2.1.2.1
abbrev gZ (g : Gd) : ClassId := g.2.1.2.2.1
abbrev gM (g : Gd) : ClassId := g.2.1.2.2.2
abbrev gT (g : Gd) : List (ClassId × FieldType) := [(gI g, .int), (gC g, .char), (gZ g, .boolean), (gM g, .object "FareDrops$Meter")]
def NK (U : State) : Prop := ∀ w ∈ nw, va_Nw w U
theorem nw_form {w : Cond} (h : w ∈ nw) : ∃ a i x b, w = .methodLinkNest a i x b := by
  have h1 := (List.mem_filter.mp h).2
  cases w <;> first | exact ⟨_, _, _, _, rfl⟩ | (simp [isNest] at h1)
theorem NK.warm {s U : State} (hW : s.WarmedH U.vm) (h : NK s) : NK U := fun w hw => by
  obtain ⟨a, i, x, b, rfl⟩ := nw_form hw
  exact va_Nw.warmM hW (h _ hw)
theorem NK.same {u U : State} (hv : u.vm = U.vm) (h : NK u) : NK U := fun w hw => by
  obtain ⟨a, i, x, b, rfl⟩ := nw_form hw
  exact va_Nw.same rfl hv (h _ hw)
def ZS (g : Gd) (A : Nat → Prop) (U : State) (H : Heap) : Prop := vk_R "FareDrops$Orders" 48 "hdwsxe" (g.2.2.1 0) U ∧ vk_S 1 [6] [[104, 100, 119, 115, 120, 101]] g.2.2.1 g.2.2.2 A U H ∧ va_Z "java/lang/String" "COMPACT_STRINGS" "Z" (.int 1) A U H ∧ va_AO "FareDrops$Meter" U
def KX (g : Gd) (A : Nat → Prop) (U : State) (H : Heap) : Prop := va_K g.1 vwCl (gT g) U ∧ NK U ∧ ZS g A U H
theorem KX.call {g : Gd} {A B : Nat → Prop} {s U : State} {H : Heap} {locs : List Loc} (h : KX g A s s.heap) (hS : va_S A s.heap H locs) (hAB : ∀ q, B q → A q) (hW : s.WarmedH U.vm) (hU : U.heap = H) : KX g B U U.heap := by
  obtain ⟨h1, h2, h3, h4, h5, h6⟩ := h
  rw [hU]
  exact ⟨va_K.moved hW.alike h1, h2.warm hW, h3.warm hW, ((h4.moved hW.alike).kept hS.2.1).narrow hAB, ((h5.moved hW.alike).kept hS.2.1).narrow hAB, h6.moved hW.alike⟩
theorem KX.blind {g : Gd} {A : Nat → Prop} {U : State} {f : JFrame} {mk : MethodId} {a : Array Value} (h : KX g A U U.heap) : KX g A (U.calling f mk a) (U.calling f mk a).heap := by
  obtain ⟨h1, h2, h3, h4, h5, h6⟩ := h
  exact ⟨va_K.moved (u := U) (U := U.calling f mk a) (Vm.Alike.refl U.vm) h1, h2.same (u := U) (U := U.calling f mk a) rfl, h3.same (u := U) (U := U.calling f mk a) rfl, h4.moved (u := U) (U := U.calling f mk a) (Vm.Alike.refl U.vm), h5.moved (u := U) (U := U.calling f mk a) (Vm.Alike.refl U.vm), h6.moved (u := U) (U := U.calling f mk a) (Vm.Alike.refl U.vm)⟩
abbrev Bd : Type := Program × Launch × Env × Room × State × MethodId × Array Value × List Frame × Method × Code × (State → Prop) × (Nat → Prop) × Nat
def V (g : Gd) (X : Bd) (cs ss : Nat) (ws : va_W) (pc : Nat) (L : List (Nat × Value)) (st : List Value) : Prop :=
  match X with
  | (p, l, e, R, s, m, args, below, meth, c, Q, A, n) => ∀ (H : Heap) (locs : List Loc) (ls : Array Slot), va_P g.1 vwCl ws H → va_D A ws → va_S A s.heap H locs → lv_has ls n L → W p l e R s m args below meth c H locs cs ss Q (F0 m pc ls st)
def bl (X : Bd) : Launch := X.2.1
def Cx (g : Gd) (X : Bd) (own : String) (cc : ByteArray) (n d mc ms : Nat) : Prop :=
  match X with
  | (p, l, e, R, s, m, args, below, meth, c, Q, A, n') => p.tables.exec = Jvm.exec ∧ c.code = cc ∧ c.maxLocals = n' ∧ (∀ w ∈ tg, w.before args s = true) ∧ s.vm.findClass own = some m.cls ∧ KX g A s s.heap ∧ (∀ q, s.heap.size ≤ q → A q) ∧ n' = n ∧ d ≤ R.frames ∧ 40 * d ≤ R.locals ∧ mc ≤ R.cells ∧ ms ≤ R.slots
def isI (X : Bd) : Prop :=
  match X with
  | (p, l, e, R, s, m, args, below, meth, c, Q, A, n') => meth.name = "<init>"
abbrev rmd (d mc ms : Nat) : Room := { frames := d, cells := mc, slots := ms, locals := 40 * d }
abbrev wsy (y : MethodName) (cc : ByteArray) (maxL : Nat) (rt : Option FieldType) : List Cond := .code y cc maxL rt :: tg
def pre (g : Gd) (sz : Nat) (As : List Value) (wc : va_W) : Array Value → State → Prop := va_Pc As (fun U => U.heap.size = sz ∧ va_P g.1 vwCl wc U.heap ∧ KX g (va_A wc sz) U U.heap ∧ va_D (fun _ => True) wc)
def Ki (g : Gd) (y : MethodName) (cc : ByteArray) (maxL : Nat) (rt : Option FieldType) (d mc ms : Nat) (As : List Value) (wc : va_W) (post : Int32 → va_W → Prop) : Prop :=
  ∀ (l : Launch) (sz : Nat), Met l y (wsy y cc maxL rt) (rmd d mc ms) (pre g sz As wc) (va_Qi post (fun w t => va_P g.1 vwCl w t.heap ∧ va_D (va_A wc sz) w) (va_A wc sz)) mc ms (va_A wc sz)
def Kv (g : Gd) (y : MethodName) (cc : ByteArray) (maxL : Nat) (rt : Option FieldType) (d mc ms : Nat) (As : List Value) (wc : va_W) (post : va_W → Prop) : Prop :=
  ∀ (l : Launch) (sz : Nat), Met l y (wsy y cc maxL rt) (rmd d mc ms) (pre g sz As wc) (va_Qv post (fun w t => va_P g.1 vwCl w t.heap ∧ va_D (va_A wc sz) w) (va_A wc sz)) mc ms (va_A wc sz)
def Kr (g : Gd) (y : MethodName) (cc : ByteArray) (maxL : Nat) (rt : Option FieldType) (d mc ms : Nat) (As : List Value) (wc : va_W) (post : Nat → va_W → Prop) : Prop :=
  ∀ (l : Launch) (sz : Nat), Met l y (wsy y cc maxL rt) (rmd d mc ms) (pre g sz As wc) (va_Qr (fun u : Nat × va_W => post u.1 u.2) (fun u a t => a = u.1 ∧ va_P g.1 vwCl u.2 t.heap ∧ va_D (va_A wc sz) u.2) (va_A wc sz)) mc ms (va_A wc sz)
theorem pre_blind (g : Gd) (sz : Nat) (As : List Value) (wc : va_W) : FrameBlind (pre g sz As wc) := fun a U f mk q => by
  obtain ⟨q0, q1, qP, qK, qD⟩ := q
  exact ⟨q0, q1, qP, qK.blind, qD⟩
theorem good_tg {y : MethodName} {cc : ByteArray} {maxL : Nat} {rt : Option FieldType} (h : Cond.code y cc maxL rt ∈ tg) : GoodIn tg (wsy y cc maxL rt) := fun w hw => by
  rcases List.mem_cons.mp hw with rfl | hw
  · exact ⟨h, tg_good h⟩
  · exact ⟨hw, tg_good hw⟩

theorem Ki.of {g : Gd} {y : MethodName} {cc : ByteArray} {maxL d mc ms : Nat} {As : List Value} {wc : va_W} {post : Int32 → va_W → Prop} (hy : plainName y.cls = true) (hlen : (lg_sl As).length ≤ maxL) (body : ∀ X : Bd, Cx g X y.cls cc maxL d mc ms → (y.name = "<init>" → isI X) → (∀ (v : Int32) (ws : va_W) (pc : Nat) (L : List (Nat × Value)), decode cc pc = .ok (.ireturn, 1) → post v ws → V g X mc ms ws pc L [.int v]) → V g X 0 0 wc 0 (lv_args 0 As) []) : Ki g y cc maxL (some .int) d mc ms As wc post := by
  intro l sz
  refine Met.ofW (ws := wsy y cc maxL (some .int)) (ws' := tg) hy rfl ?_
  intro p e s m args below meth c s₁ B hml hv
  obtain ⟨rfl, hsz, hP, hK, hD0⟩ := hv
  subst hsz
  have hts : ∀ w ∈ tg, w.before As.toArray s = true := fun w hw => atoms_spec (ws := wsy y cc maxL (some .int)) B.pre w (List.mem_cons_of_mem _ hw)
  have hown : s.vm.findClass y.cls = some m.cls := findClass_of_methodNamed B.named
  have hV := body (p, l, e, (headSpec (wsy y cc maxL (some .int)) (rmd d mc ms)).room, s, m, As.toArray, below, meth, c, MQ below (va_Qi post (fun w t => va_P g.1 vwCl w t.heap ∧ va_D (va_A wc s.heap.size) w) (va_A wc s.heap.size)) As.toArray s mc ms (va_A wc s.heap.size), va_A wc s.heap.size, maxL) ⟨B.exec, B.bytes, hml, hts, hown, hK, fun q h => Or.inr h, rfl, Nat.le_refl _, Nat.le_refl _, Nat.le_refl _, Nat.le_refl _⟩ (fun hi => (name_of_methodNamed B.named B.method).1.trans hi) ?_
  · have h1 := hV s.heap [] _ hP (hD0.self (sz := s.heap.size)) va_S.rf (lv_entry As hlen)
    rw [lg_entry_eq]
    exact h1
  · intro v ws pc L hd hp H locs ls hP1 hD1 hS1 hl
    exact W.iret B.exec B.bytes B.returns (fun t ht hW => ⟨⟨v, ws, rfl, hp, by rw [ht]; exact hP1, hD1⟩, hS1.F ht⟩) hS1.2.2 hd B.notSynchronized

theorem Kz.of {g : Gd} {y : MethodName} {cc : ByteArray} {maxL d mc ms : Nat} {ty : FieldType} {As : List Value} {wc : va_W} {post : Int32 → va_W → Prop} (hy : plainName y.cls = true) (hlen : (lg_sl As).length ≤ maxL) (body : ∀ X : Bd, Cx g X y.cls cc maxL d mc ms → (y.name = "<init>" → isI X) → (∀ (v : Int32) (ws : va_W) (pc : Nat) (L : List (Nat × Value)), decode cc pc = .ok (.ireturn, 1) → narrow ty (.int v) = .int v → post v ws → V g X mc ms ws pc L [.int v]) → V g X 0 0 wc 0 (lv_args 0 As) []) : Ki g y cc maxL (some ty) d mc ms As wc post := by
  intro l sz
  refine Met.ofW (ws := wsy y cc maxL (some ty)) (ws' := tg) hy rfl ?_
  intro p e s m args below meth c s₁ B hml hv
  obtain ⟨rfl, hsz, hP, hK, hD0⟩ := hv
  subst hsz
  have hts : ∀ w ∈ tg, w.before As.toArray s = true := fun w hw => atoms_spec (ws := wsy y cc maxL (some ty)) B.pre w (List.mem_cons_of_mem _ hw)
  have hown : s.vm.findClass y.cls = some m.cls := findClass_of_methodNamed B.named
  have hV := body (p, l, e, (headSpec (wsy y cc maxL (some ty)) (rmd d mc ms)).room, s, m, As.toArray, below, meth, c, MQ below (va_Qi post (fun w t => va_P g.1 vwCl w t.heap ∧ va_D (va_A wc s.heap.size) w) (va_A wc s.heap.size)) As.toArray s mc ms (va_A wc s.heap.size), va_A wc s.heap.size, maxL) ⟨B.exec, B.bytes, hml, hts, hown, hK, fun q h => Or.inr h, rfl, Nat.le_refl _, Nat.le_refl _, Nat.le_refl _, Nat.le_refl _⟩ (fun hi => (name_of_methodNamed B.named B.method).1.trans hi) ?_
  · have h1 := hV s.heap [] _ hP (hD0.self (sz := s.heap.size)) va_S.rf (lv_entry As hlen)
    rw [lg_entry_eq]
    exact h1
  · intro v ws pc L hd hn hp H locs ls hP1 hD1 hS1 hl
    exact W.zret B.exec B.bytes B.returns hn (fun t ht hW => ⟨⟨v, ws, rfl, hp, by rw [ht]; exact hP1, hD1⟩, hS1.F ht⟩) hS1.2.2 hd B.notSynchronized

theorem Kv.of {g : Gd} {y : MethodName} {cc : ByteArray} {maxL d mc ms : Nat} {As : List Value} {wc : va_W} {post : va_W → Prop} (hy : plainName y.cls = true) (hlen : (lg_sl As).length ≤ maxL) (body : ∀ X : Bd, Cx g X y.cls cc maxL d mc ms → (y.name = "<init>" → isI X) → (∀ (ws : va_W) (pc : Nat) (L : List (Nat × Value)), decode cc pc = .ok (.return_, 1) → post ws → V g X mc ms ws pc L []) → V g X 0 0 wc 0 (lv_args 0 As) []) : Kv g y cc maxL none d mc ms As wc post := by
  intro l sz
  refine Met.ofW (ws := wsy y cc maxL none) (ws' := tg) hy rfl ?_
  intro p e s m args below meth c s₁ B hml hv
  obtain ⟨rfl, hsz, hP, hK, hD0⟩ := hv
  subst hsz
  have hts : ∀ w ∈ tg, w.before As.toArray s = true := fun w hw => atoms_spec (ws := wsy y cc maxL none) B.pre w (List.mem_cons_of_mem _ hw)
  have hown : s.vm.findClass y.cls = some m.cls := findClass_of_methodNamed B.named
  have hV := body (p, l, e, (headSpec (wsy y cc maxL none) (rmd d mc ms)).room, s, m, As.toArray, below, meth, c, MQ below (va_Qv post (fun w t => va_P g.1 vwCl w t.heap ∧ va_D (va_A wc s.heap.size) w) (va_A wc s.heap.size)) As.toArray s mc ms (va_A wc s.heap.size), va_A wc s.heap.size, maxL) ⟨B.exec, B.bytes, hml, hts, hown, hK, fun q h => Or.inr h, rfl, Nat.le_refl _, Nat.le_refl _, Nat.le_refl _, Nat.le_refl _⟩ (fun hi => (name_of_methodNamed B.named B.method).1.trans hi) ?_
  · have h1 := hV s.heap [] _ hP (hD0.self (sz := s.heap.size)) va_S.rf (lv_entry As hlen)
    rw [lg_entry_eq]
    exact h1
  · intro ws pc L hd hp H locs ls hP1 hD1 hS1 hl
    exact W.vret B.exec B.bytes B.returns (fun t ht hW => ⟨⟨ws, rfl, hp, by rw [ht]; exact hP1, hD1⟩, hS1.F ht⟩) hS1.2.2 hd B.notSynchronized

theorem Kr.of {g : Gd} {y : MethodName} {cc : ByteArray} {maxL d mc ms : Nat} {cn : String} {As : List Value} {wc : va_W} {post : Nat → va_W → Prop} (hy : plainName y.cls = true) (hlen : (lg_sl As).length ≤ maxL) (body : ∀ X : Bd, Cx g X y.cls cc maxL d mc ms → (y.name = "<init>" → isI X) → (∀ (v : Nat) (ws : va_W) (pc : Nat) (L : List (Nat × Value)), decode cc pc = .ok (.areturn, 1) → post v ws → V g X mc ms ws pc L [.ref v]) → V g X 0 0 wc 0 (lv_args 0 As) []) : Kr g y cc maxL (some (.object cn)) d mc ms As wc post := by
  intro l sz
  refine Met.ofW (ws := wsy y cc maxL (some (.object cn))) (ws' := tg) hy rfl ?_
  intro p e s m args below meth c s₁ B hml hv
  obtain ⟨rfl, hsz, hP, hK, hD0⟩ := hv
  subst hsz
  have hts : ∀ w ∈ tg, w.before As.toArray s = true := fun w hw => atoms_spec (ws := wsy y cc maxL (some (.object cn))) B.pre w (List.mem_cons_of_mem _ hw)
  have hown : s.vm.findClass y.cls = some m.cls := findClass_of_methodNamed B.named
  have hV := body (p, l, e, (headSpec (wsy y cc maxL (some (.object cn))) (rmd d mc ms)).room, s, m, As.toArray, below, meth, c, MQ below (va_Qr (fun u : Nat × va_W => post u.1 u.2) (fun u a t => a = u.1 ∧ va_P g.1 vwCl u.2 t.heap ∧ va_D (va_A wc s.heap.size) u.2) (va_A wc s.heap.size)) As.toArray s mc ms (va_A wc s.heap.size), va_A wc s.heap.size, maxL) ⟨B.exec, B.bytes, hml, hts, hown, hK, fun q h => Or.inr h, rfl, Nat.le_refl _, Nat.le_refl _, Nat.le_refl _, Nat.le_refl _⟩ (fun hi => (name_of_methodNamed B.named B.method).1.trans hi) ?_
  · have h1 := hV s.heap [] _ hP (hD0.self (sz := s.heap.size)) va_S.rf (lv_entry As hlen)
    rw [lg_entry_eq]
    exact h1
  · intro v ws pc L hd hp H locs ls hP1 hD1 hS1 hl
    exact W.aret B.exec B.bytes B.returns (Or.inl ⟨cn, rfl⟩) (Or.inr ⟨v, rfl⟩) (fun t ht hW => ⟨⟨(v, ws), v, rfl, hp, rfl, by rw [ht]; exact hP1, hD1⟩, hS1.F ht⟩) hS1.2.2 hd B.notSynchronized

theorem V_iconst {g : Gd} {X : Bd} {own : String} {cc : ByteArray} {n d mc ms cs ss pc : Nat} {ws : va_W} {L : List (Nat × Value)} {st : List Value} {n0 : Int} {v : Int32} (C : Cx g X own cc n d mc ms) (hdg : decode cc pc = .ok (.iconst n0, 1)) (hv : Int32.ofInt n0 = v) (kk : V g X cs ss ws (pc + 1) L (.int v :: st)) : V g X cs ss ws pc L (st) := by
  obtain ⟨p, l, e, R, s, m, args, below, meth, c, Q, A, n'⟩ := X
  obtain ⟨hx, hb, hml, hts, hown, ⟨hK, hNK, hZS⟩, hA, hn, hd1, hd2, hd3, hd4⟩ := C
  subst hn
  intro H locs ls hP hD hS hl
  exact lv_iconst hx hb hdg hv (kk H locs ls hP hD hS hl)
theorem V_bipush {g : Gd} {X : Bd} {own : String} {cc : ByteArray} {n d mc ms cs ss pc : Nat} {ws : va_W} {L : List (Nat × Value)} {st : List Value} {n0 : Int} {v : Int32} (C : Cx g X own cc n d mc ms) (hdg : decode cc pc = .ok (.bipush n0, 2)) (hv : (Int8.ofInt n0).toInt32 = v) (kk : V g X cs ss ws (pc + 2) L (.int v :: st)) : V g X cs ss ws pc L (st) := by
  obtain ⟨p, l, e, R, s, m, args, below, meth, c, Q, A, n'⟩ := X
  obtain ⟨hx, hb, hml, hts, hown, ⟨hK, hNK, hZS⟩, hA, hn, hd1, hd2, hd3, hd4⟩ := C
  subst hn
  intro H locs ls hP hD hS hl
  exact lv_bipush hx hb hdg hv (kk H locs ls hP hD hS hl)
theorem V_sipush {g : Gd} {X : Bd} {own : String} {cc : ByteArray} {n d mc ms cs ss pc : Nat} {ws : va_W} {L : List (Nat × Value)} {st : List Value} {n0 : Int} {v : Int32} (C : Cx g X own cc n d mc ms) (hdg : decode cc pc = .ok (.sipush n0, 3)) (hv : (Int16.ofInt n0).toInt32 = v) (kk : V g X cs ss ws (pc + 3) L (.int v :: st)) : V g X cs ss ws pc L (st) := by
  obtain ⟨p, l, e, R, s, m, args, below, meth, c, Q, A, n'⟩ := X
  obtain ⟨hx, hb, hml, hts, hown, ⟨hK, hNK, hZS⟩, hA, hn, hd1, hd2, hd3, hd4⟩ := C
  subst hn
  intro H locs ls hP hD hS hl
  exact lv_sipush hx hb hdg hv (kk H locs ls hP hD hS hl)
theorem V_lconst {g : Gd} {X : Bd} {own : String} {cc : ByteArray} {n d mc ms cs ss pc : Nat} {ws : va_W} {L : List (Nat × Value)} {st : List Value} {n0 : Fin 2} {v : Int64} (C : Cx g X own cc n d mc ms) (hdg : decode cc pc = .ok (.lconst n0, 1)) (hv : Int64.ofNat (n0 : Nat) = v) (kk : V g X cs ss ws (pc + 1) L (.long v :: st)) : V g X cs ss ws pc L (st) := by
  obtain ⟨p, l, e, R, s, m, args, below, meth, c, Q, A, n'⟩ := X
  obtain ⟨hx, hb, hml, hts, hown, ⟨hK, hNK, hZS⟩, hA, hn, hd1, hd2, hd3, hd4⟩ := C
  subst hn
  intro H locs ls hP hD hS hl
  exact lv_lconst hx hb hdg hv (kk H locs ls hP hD hS hl)
theorem V_iload_n {g : Gd} {X : Bd} {own : String} {cc : ByteArray} {n d mc ms cs ss pc : Nat} {ws : va_W} {L : List (Nat × Value)} {st : List Value} {k : Fin 4} {i : Nat} {x : Int32} (C : Cx g X own cc n d mc ms) (k0 : Nat) (hdg : decode cc pc = .ok (.iload_n k, 1)) (hi : (k : Nat) = i) (hk : L[k0]? = some (i, .int x)) (kk : V g X cs ss ws (pc + 1) L (.int x :: st)) : V g X cs ss ws pc L (st) := by
  obtain ⟨p, l, e, R, s, m, args, below, meth, c, Q, A, n'⟩ := X
  obtain ⟨hx, hb, hml, hts, hown, ⟨hK, hNK, hZS⟩, hA, hn, hd1, hd2, hd3, hd4⟩ := C
  subst hn
  intro H locs ls hP hD hS hl
  exact lv_iload_n hx hb hdg hi (lv_at hl k0 hk) (kk H locs ls hP hD hS hl)
theorem V_iload {g : Gd} {X : Bd} {own : String} {cc : ByteArray} {n d mc ms cs ss pc : Nat} {ws : va_W} {L : List (Nat × Value)} {st : List Value} {i : Nat} {x : Int32} (C : Cx g X own cc n d mc ms) (k0 : Nat) (hdg : decode cc pc = .ok (.iload i, 2)) (hk : L[k0]? = some (i, .int x)) (kk : V g X cs ss ws (pc + 2) L (.int x :: st)) : V g X cs ss ws pc L (st) := by
  obtain ⟨p, l, e, R, s, m, args, below, meth, c, Q, A, n'⟩ := X
  obtain ⟨hx, hb, hml, hts, hown, ⟨hK, hNK, hZS⟩, hA, hn, hd1, hd2, hd3, hd4⟩ := C
  subst hn
  intro H locs ls hP hD hS hl
  exact lv_iload hx hb hdg (lv_at hl k0 hk) (kk H locs ls hP hD hS hl)
theorem V_lload_n {g : Gd} {X : Bd} {own : String} {cc : ByteArray} {n d mc ms cs ss pc : Nat} {ws : va_W} {L : List (Nat × Value)} {st : List Value} {k : Fin 4} {i : Nat} {x : Int64} (C : Cx g X own cc n d mc ms) (k0 : Nat) (hdg : decode cc pc = .ok (.lload_n k, 1)) (hi : (k : Nat) = i) (hk : L[k0]? = some (i, .long x)) (kk : V g X cs ss ws (pc + 1) L (.long x :: st)) : V g X cs ss ws pc L (st) := by
  obtain ⟨p, l, e, R, s, m, args, below, meth, c, Q, A, n'⟩ := X
  obtain ⟨hx, hb, hml, hts, hown, ⟨hK, hNK, hZS⟩, hA, hn, hd1, hd2, hd3, hd4⟩ := C
  subst hn
  intro H locs ls hP hD hS hl
  exact lv_lload_n hx hb hdg hi (lv_at hl k0 hk) (kk H locs ls hP hD hS hl)
theorem V_lload {g : Gd} {X : Bd} {own : String} {cc : ByteArray} {n d mc ms cs ss pc : Nat} {ws : va_W} {L : List (Nat × Value)} {st : List Value} {i : Nat} {x : Int64} (C : Cx g X own cc n d mc ms) (k0 : Nat) (hdg : decode cc pc = .ok (.lload i, 2)) (hk : L[k0]? = some (i, .long x)) (kk : V g X cs ss ws (pc + 2) L (.long x :: st)) : V g X cs ss ws pc L (st) := by
  obtain ⟨p, l, e, R, s, m, args, below, meth, c, Q, A, n'⟩ := X
  obtain ⟨hx, hb, hml, hts, hown, ⟨hK, hNK, hZS⟩, hA, hn, hd1, hd2, hd3, hd4⟩ := C
  subst hn
  intro H locs ls hP hD hS hl
  exact lv_lload hx hb hdg (lv_at hl k0 hk) (kk H locs ls hP hD hS hl)
theorem V_aload_n {g : Gd} {X : Bd} {own : String} {cc : ByteArray} {n d mc ms cs ss pc : Nat} {ws : va_W} {L : List (Nat × Value)} {st : List Value} {k : Fin 4} {i : Nat} {x : Nat} (C : Cx g X own cc n d mc ms) (k0 : Nat) (hdg : decode cc pc = .ok (.aload_n k, 1)) (hi : (k : Nat) = i) (hk : L[k0]? = some (i, .ref x)) (kk : V g X cs ss ws (pc + 1) L (.ref x :: st)) : V g X cs ss ws pc L (st) := by
  obtain ⟨p, l, e, R, s, m, args, below, meth, c, Q, A, n'⟩ := X
  obtain ⟨hx, hb, hml, hts, hown, ⟨hK, hNK, hZS⟩, hA, hn, hd1, hd2, hd3, hd4⟩ := C
  subst hn
  intro H locs ls hP hD hS hl
  exact lv_aload_n hx hb hdg hi (lv_at hl k0 hk) (kk H locs ls hP hD hS hl)
theorem V_aload {g : Gd} {X : Bd} {own : String} {cc : ByteArray} {n d mc ms cs ss pc : Nat} {ws : va_W} {L : List (Nat × Value)} {st : List Value} {i : Nat} {x : Nat} (C : Cx g X own cc n d mc ms) (k0 : Nat) (hdg : decode cc pc = .ok (.aload i, 2)) (hk : L[k0]? = some (i, .ref x)) (kk : V g X cs ss ws (pc + 2) L (.ref x :: st)) : V g X cs ss ws pc L (st) := by
  obtain ⟨p, l, e, R, s, m, args, below, meth, c, Q, A, n'⟩ := X
  obtain ⟨hx, hb, hml, hts, hown, ⟨hK, hNK, hZS⟩, hA, hn, hd1, hd2, hd3, hd4⟩ := C
  subst hn
  intro H locs ls hP hD hS hl
  exact lv_aload hx hb hdg (lv_at hl k0 hk) (kk H locs ls hP hD hS hl)
theorem V_iadd {g : Gd} {X : Bd} {own : String} {cc : ByteArray} {n d mc ms cs ss pc : Nat} {ws : va_W} {L : List (Nat × Value)} {st : List Value} {x y : Int32} (C : Cx g X own cc n d mc ms) (hdg : decode cc pc = .ok (.iadd, 1)) (kk : V g X cs ss ws (pc + 1) L (.int (x + y) :: st)) : V g X cs ss ws pc L (.int y :: .int x :: st) := by
  obtain ⟨p, l, e, R, s, m, args, below, meth, c, Q, A, n'⟩ := X
  obtain ⟨hx, hb, hml, hts, hown, ⟨hK, hNK, hZS⟩, hA, hn, hd1, hd2, hd3, hd4⟩ := C
  subst hn
  intro H locs ls hP hD hS hl
  exact lv_iadd hx hb hdg (kk H locs ls hP hD hS hl)
theorem V_isub {g : Gd} {X : Bd} {own : String} {cc : ByteArray} {n d mc ms cs ss pc : Nat} {ws : va_W} {L : List (Nat × Value)} {st : List Value} {x y : Int32} (C : Cx g X own cc n d mc ms) (hdg : decode cc pc = .ok (.isub, 1)) (kk : V g X cs ss ws (pc + 1) L (.int (x - y) :: st)) : V g X cs ss ws pc L (.int y :: .int x :: st) := by
  obtain ⟨p, l, e, R, s, m, args, below, meth, c, Q, A, n'⟩ := X
  obtain ⟨hx, hb, hml, hts, hown, ⟨hK, hNK, hZS⟩, hA, hn, hd1, hd2, hd3, hd4⟩ := C
  subst hn
  intro H locs ls hP hD hS hl
  exact lv_isub hx hb hdg (kk H locs ls hP hD hS hl)
theorem V_imul {g : Gd} {X : Bd} {own : String} {cc : ByteArray} {n d mc ms cs ss pc : Nat} {ws : va_W} {L : List (Nat × Value)} {st : List Value} {x y : Int32} (C : Cx g X own cc n d mc ms) (hdg : decode cc pc = .ok (.imul, 1)) (kk : V g X cs ss ws (pc + 1) L (.int (x * y) :: st)) : V g X cs ss ws pc L (.int y :: .int x :: st) := by
  obtain ⟨p, l, e, R, s, m, args, below, meth, c, Q, A, n'⟩ := X
  obtain ⟨hx, hb, hml, hts, hown, ⟨hK, hNK, hZS⟩, hA, hn, hd1, hd2, hd3, hd4⟩ := C
  subst hn
  intro H locs ls hP hD hS hl
  exact lv_imul hx hb hdg (kk H locs ls hP hD hS hl)
theorem V_iand {g : Gd} {X : Bd} {own : String} {cc : ByteArray} {n d mc ms cs ss pc : Nat} {ws : va_W} {L : List (Nat × Value)} {st : List Value} {x y : Int32} (C : Cx g X own cc n d mc ms) (hdg : decode cc pc = .ok (.iand, 1)) (kk : V g X cs ss ws (pc + 1) L (.int (x &&& y) :: st)) : V g X cs ss ws pc L (.int y :: .int x :: st) := by
  obtain ⟨p, l, e, R, s, m, args, below, meth, c, Q, A, n'⟩ := X
  obtain ⟨hx, hb, hml, hts, hown, ⟨hK, hNK, hZS⟩, hA, hn, hd1, hd2, hd3, hd4⟩ := C
  subst hn
  intro H locs ls hP hD hS hl
  exact lv_iand hx hb hdg (kk H locs ls hP hD hS hl)
theorem V_ior {g : Gd} {X : Bd} {own : String} {cc : ByteArray} {n d mc ms cs ss pc : Nat} {ws : va_W} {L : List (Nat × Value)} {st : List Value} {x y : Int32} (C : Cx g X own cc n d mc ms) (hdg : decode cc pc = .ok (.ior, 1)) (kk : V g X cs ss ws (pc + 1) L (.int (x ||| y) :: st)) : V g X cs ss ws pc L (.int y :: .int x :: st) := by
  obtain ⟨p, l, e, R, s, m, args, below, meth, c, Q, A, n'⟩ := X
  obtain ⟨hx, hb, hml, hts, hown, ⟨hK, hNK, hZS⟩, hA, hn, hd1, hd2, hd3, hd4⟩ := C
  subst hn
  intro H locs ls hP hD hS hl
  exact lv_ior hx hb hdg (kk H locs ls hP hD hS hl)
theorem V_ixor {g : Gd} {X : Bd} {own : String} {cc : ByteArray} {n d mc ms cs ss pc : Nat} {ws : va_W} {L : List (Nat × Value)} {st : List Value} {x y : Int32} (C : Cx g X own cc n d mc ms) (hdg : decode cc pc = .ok (.ixor, 1)) (kk : V g X cs ss ws (pc + 1) L (.int (x ^^^ y) :: st)) : V g X cs ss ws pc L (.int y :: .int x :: st) := by
  obtain ⟨p, l, e, R, s, m, args, below, meth, c, Q, A, n'⟩ := X
  obtain ⟨hx, hb, hml, hts, hown, ⟨hK, hNK, hZS⟩, hA, hn, hd1, hd2, hd3, hd4⟩ := C
  subst hn
  intro H locs ls hP hD hS hl
  exact lv_ixor hx hb hdg (kk H locs ls hP hD hS hl)
theorem V_ladd {g : Gd} {X : Bd} {own : String} {cc : ByteArray} {n d mc ms cs ss pc : Nat} {ws : va_W} {L : List (Nat × Value)} {st : List Value} {x y : Int64} (C : Cx g X own cc n d mc ms) (hdg : decode cc pc = .ok (.ladd, 1)) (kk : V g X cs ss ws (pc + 1) L (.long (x + y) :: st)) : V g X cs ss ws pc L (.long y :: .long x :: st) := by
  obtain ⟨p, l, e, R, s, m, args, below, meth, c, Q, A, n'⟩ := X
  obtain ⟨hx, hb, hml, hts, hown, ⟨hK, hNK, hZS⟩, hA, hn, hd1, hd2, hd3, hd4⟩ := C
  subst hn
  intro H locs ls hP hD hS hl
  exact lv_ladd hx hb hdg (kk H locs ls hP hD hS hl)
theorem V_lsub {g : Gd} {X : Bd} {own : String} {cc : ByteArray} {n d mc ms cs ss pc : Nat} {ws : va_W} {L : List (Nat × Value)} {st : List Value} {x y : Int64} (C : Cx g X own cc n d mc ms) (hdg : decode cc pc = .ok (.lsub, 1)) (kk : V g X cs ss ws (pc + 1) L (.long (x - y) :: st)) : V g X cs ss ws pc L (.long y :: .long x :: st) := by
  obtain ⟨p, l, e, R, s, m, args, below, meth, c, Q, A, n'⟩ := X
  obtain ⟨hx, hb, hml, hts, hown, ⟨hK, hNK, hZS⟩, hA, hn, hd1, hd2, hd3, hd4⟩ := C
  subst hn
  intro H locs ls hP hD hS hl
  exact lv_lsub hx hb hdg (kk H locs ls hP hD hS hl)
theorem V_lmul {g : Gd} {X : Bd} {own : String} {cc : ByteArray} {n d mc ms cs ss pc : Nat} {ws : va_W} {L : List (Nat × Value)} {st : List Value} {x y : Int64} (C : Cx g X own cc n d mc ms) (hdg : decode cc pc = .ok (.lmul, 1)) (kk : V g X cs ss ws (pc + 1) L (.long (x * y) :: st)) : V g X cs ss ws pc L (.long y :: .long x :: st) := by
  obtain ⟨p, l, e, R, s, m, args, below, meth, c, Q, A, n'⟩ := X
  obtain ⟨hx, hb, hml, hts, hown, ⟨hK, hNK, hZS⟩, hA, hn, hd1, hd2, hd3, hd4⟩ := C
  subst hn
  intro H locs ls hP hD hS hl
  exact lv_lmul hx hb hdg (kk H locs ls hP hD hS hl)
theorem V_land {g : Gd} {X : Bd} {own : String} {cc : ByteArray} {n d mc ms cs ss pc : Nat} {ws : va_W} {L : List (Nat × Value)} {st : List Value} {x y : Int64} (C : Cx g X own cc n d mc ms) (hdg : decode cc pc = .ok (.land, 1)) (kk : V g X cs ss ws (pc + 1) L (.long (x &&& y) :: st)) : V g X cs ss ws pc L (.long y :: .long x :: st) := by
  obtain ⟨p, l, e, R, s, m, args, below, meth, c, Q, A, n'⟩ := X
  obtain ⟨hx, hb, hml, hts, hown, ⟨hK, hNK, hZS⟩, hA, hn, hd1, hd2, hd3, hd4⟩ := C
  subst hn
  intro H locs ls hP hD hS hl
  exact lv_land hx hb hdg (kk H locs ls hP hD hS hl)
theorem V_lor {g : Gd} {X : Bd} {own : String} {cc : ByteArray} {n d mc ms cs ss pc : Nat} {ws : va_W} {L : List (Nat × Value)} {st : List Value} {x y : Int64} (C : Cx g X own cc n d mc ms) (hdg : decode cc pc = .ok (.lor, 1)) (kk : V g X cs ss ws (pc + 1) L (.long (x ||| y) :: st)) : V g X cs ss ws pc L (.long y :: .long x :: st) := by
  obtain ⟨p, l, e, R, s, m, args, below, meth, c, Q, A, n'⟩ := X
  obtain ⟨hx, hb, hml, hts, hown, ⟨hK, hNK, hZS⟩, hA, hn, hd1, hd2, hd3, hd4⟩ := C
  subst hn
  intro H locs ls hP hD hS hl
  exact lv_lor hx hb hdg (kk H locs ls hP hD hS hl)
theorem V_idiv {g : Gd} {X : Bd} {own : String} {cc : ByteArray} {n d mc ms cs ss pc : Nat} {ws : va_W} {L : List (Nat × Value)} {st : List Value} {x y : Int32} (C : Cx g X own cc n d mc ms) (hdg : decode cc pc = .ok (.idiv, 1)) (hne : ¬ y = 0) (kk : V g X cs ss ws (pc + 1) L (.int (x / y) :: st)) : V g X cs ss ws pc L (.int y :: .int x :: st) := by
  obtain ⟨p, l, e, R, s, m, args, below, meth, c, Q, A, n'⟩ := X
  obtain ⟨hx, hb, hml, hts, hown, ⟨hK, hNK, hZS⟩, hA, hn, hd1, hd2, hd3, hd4⟩ := C
  subst hn
  intro H locs ls hP hD hS hl
  exact lv_idiv hx hb hdg hne (kk H locs ls hP hD hS hl)
theorem V_irem {g : Gd} {X : Bd} {own : String} {cc : ByteArray} {n d mc ms cs ss pc : Nat} {ws : va_W} {L : List (Nat × Value)} {st : List Value} {x y : Int32} (C : Cx g X own cc n d mc ms) (hdg : decode cc pc = .ok (.irem, 1)) (hne : ¬ y = 0) (kk : V g X cs ss ws (pc + 1) L (.int (x - x / y * y) :: st)) : V g X cs ss ws pc L (.int y :: .int x :: st) := by
  obtain ⟨p, l, e, R, s, m, args, below, meth, c, Q, A, n'⟩ := X
  obtain ⟨hx, hb, hml, hts, hown, ⟨hK, hNK, hZS⟩, hA, hn, hd1, hd2, hd3, hd4⟩ := C
  subst hn
  intro H locs ls hP hD hS hl
  exact lv_irem hx hb hdg hne (kk H locs ls hP hD hS hl)
theorem V_ldiv {g : Gd} {X : Bd} {own : String} {cc : ByteArray} {n d mc ms cs ss pc : Nat} {ws : va_W} {L : List (Nat × Value)} {st : List Value} {x y : Int64} (C : Cx g X own cc n d mc ms) (hdg : decode cc pc = .ok (.ldiv, 1)) (hne : ¬ y = 0) (kk : V g X cs ss ws (pc + 1) L (.long (x / y) :: st)) : V g X cs ss ws pc L (.long y :: .long x :: st) := by
  obtain ⟨p, l, e, R, s, m, args, below, meth, c, Q, A, n'⟩ := X
  obtain ⟨hx, hb, hml, hts, hown, ⟨hK, hNK, hZS⟩, hA, hn, hd1, hd2, hd3, hd4⟩ := C
  subst hn
  intro H locs ls hP hD hS hl
  exact lv_ldiv hx hb hdg hne (kk H locs ls hP hD hS hl)
theorem V_i2l {g : Gd} {X : Bd} {own : String} {cc : ByteArray} {n d mc ms cs ss pc : Nat} {ws : va_W} {L : List (Nat × Value)} {st : List Value} {x : Int32} (C : Cx g X own cc n d mc ms) (hdg : decode cc pc = .ok (.i2l, 1)) (kk : V g X cs ss ws (pc + 1) L (.long x.toInt64 :: st)) : V g X cs ss ws pc L (.int x :: st) := by
  obtain ⟨p, l, e, R, s, m, args, below, meth, c, Q, A, n'⟩ := X
  obtain ⟨hx, hb, hml, hts, hown, ⟨hK, hNK, hZS⟩, hA, hn, hd1, hd2, hd3, hd4⟩ := C
  subst hn
  intro H locs ls hP hD hS hl
  exact lv_i2l hx hb hdg rfl (kk H locs ls hP hD hS hl)
theorem V_l2i {g : Gd} {X : Bd} {own : String} {cc : ByteArray} {n d mc ms cs ss pc : Nat} {ws : va_W} {L : List (Nat × Value)} {st : List Value} {x : Int64} (C : Cx g X own cc n d mc ms) (hdg : decode cc pc = .ok (.l2i, 1)) (kk : V g X cs ss ws (pc + 1) L (.int x.toInt32 :: st)) : V g X cs ss ws pc L (.long x :: st) := by
  obtain ⟨p, l, e, R, s, m, args, below, meth, c, Q, A, n'⟩ := X
  obtain ⟨hx, hb, hml, hts, hown, ⟨hK, hNK, hZS⟩, hA, hn, hd1, hd2, hd3, hd4⟩ := C
  subst hn
  intro H locs ls hP hD hS hl
  exact lv_l2i hx hb hdg rfl (kk H locs ls hP hD hS hl)
theorem V_i2c {g : Gd} {X : Bd} {own : String} {cc : ByteArray} {n d mc ms cs ss pc : Nat} {ws : va_W} {L : List (Nat × Value)} {st : List Value} {x : Int32} (C : Cx g X own cc n d mc ms) (hdg : decode cc pc = .ok (.i2c, 1)) (kk : V g X cs ss ws (pc + 1) L (.int (x.toUInt32 % 65536).toInt32 :: st)) : V g X cs ss ws pc L (.int x :: st) := by
  obtain ⟨p, l, e, R, s, m, args, below, meth, c, Q, A, n'⟩ := X
  obtain ⟨hx, hb, hml, hts, hown, ⟨hK, hNK, hZS⟩, hA, hn, hd1, hd2, hd3, hd4⟩ := C
  subst hn
  intro H locs ls hP hD hS hl
  exact lv_i2c hx hb hdg rfl (kk H locs ls hP hD hS hl)
theorem V_lushr {g : Gd} {X : Bd} {own : String} {cc : ByteArray} {n d mc ms cs ss pc : Nat} {ws : va_W} {L : List (Nat × Value)} {st : List Value} {x : Int64} {y : Int32} (C : Cx g X own cc n d mc ms) (hdg : decode cc pc = .ok (.lushr, 1)) (kk : V g X cs ss ws (pc + 1) L (.long (x.toUInt64 >>> (y.toInt64.toUInt64 &&& Int64.toUInt64 63)).toInt64 :: st)) : V g X cs ss ws pc L (.int y :: .long x :: st) := by
  obtain ⟨p, l, e, R, s, m, args, below, meth, c, Q, A, n'⟩ := X
  obtain ⟨hx, hb, hml, hts, hown, ⟨hK, hNK, hZS⟩, hA, hn, hd1, hd2, hd3, hd4⟩ := C
  subst hn
  intro H locs ls hP hD hS hl
  exact lv_lushr hx hb hdg rfl (kk H locs ls hP hD hS hl)
theorem V_lshl {g : Gd} {X : Bd} {own : String} {cc : ByteArray} {n d mc ms cs ss pc : Nat} {ws : va_W} {L : List (Nat × Value)} {st : List Value} {x : Int64} {y : Int32} (C : Cx g X own cc n d mc ms) (hdg : decode cc pc = .ok (.lshl, 1)) (kk : V g X cs ss ws (pc + 1) L (.long (x <<< (y.toInt64 &&& 63)) :: st)) : V g X cs ss ws pc L (.int y :: .long x :: st) := by
  obtain ⟨p, l, e, R, s, m, args, below, meth, c, Q, A, n'⟩ := X
  obtain ⟨hx, hb, hml, hts, hown, ⟨hK, hNK, hZS⟩, hA, hn, hd1, hd2, hd3, hd4⟩ := C
  subst hn
  intro H locs ls hP hD hS hl
  exact lv_lshl hx hb hdg rfl (kk H locs ls hP hD hS hl)
theorem V_lcmp {g : Gd} {X : Bd} {own : String} {cc : ByteArray} {n d mc ms cs ss pc : Nat} {ws : va_W} {L : List (Nat × Value)} {st : List Value} {x y : Int64} (C : Cx g X own cc n d mc ms) (hdg : decode cc pc = .ok (.lcmp, 1)) (kk : V g X cs ss ws (pc + 1) L (.int (lg_cmp x y) :: st)) : V g X cs ss ws pc L (.long y :: .long x :: st) := by
  obtain ⟨p, l, e, R, s, m, args, below, meth, c, Q, A, n'⟩ := X
  obtain ⟨hx, hb, hml, hts, hown, ⟨hK, hNK, hZS⟩, hA, hn, hd1, hd2, hd3, hd4⟩ := C
  subst hn
  intro H locs ls hP hD hS hl
  exact W.lcmp hx hb hdg (kk H locs ls hP hD hS hl)
theorem V_dup {g : Gd} {X : Bd} {own : String} {cc : ByteArray} {n d mc ms cs ss pc : Nat} {ws : va_W} {L : List (Nat × Value)} {st : List Value} {va : Value} (C : Cx g X own cc n d mc ms) (hdg : decode cc pc = .ok (.dup, 1)) (h1 : va.category = 1) (kk : V g X cs ss ws (pc + 1) L (va :: va :: st)) : V g X cs ss ws pc L (va :: st) := by
  obtain ⟨p, l, e, R, s, m, args, below, meth, c, Q, A, n'⟩ := X
  obtain ⟨hx, hb, hml, hts, hown, ⟨hK, hNK, hZS⟩, hA, hn, hd1, hd2, hd3, hd4⟩ := C
  subst hn
  intro H locs ls hP hD hS hl
  exact lv_dup hx hb hdg h1 (kk H locs ls hP hD hS hl)
theorem V_pop {g : Gd} {X : Bd} {own : String} {cc : ByteArray} {n d mc ms cs ss pc : Nat} {ws : va_W} {L : List (Nat × Value)} {st : List Value} {va : Value} (C : Cx g X own cc n d mc ms) (hdg : decode cc pc = .ok (.pop, 1)) (h1 : va.category = 1) (kk : V g X cs ss ws (pc + 1) L (st)) : V g X cs ss ws pc L (va :: st) := by
  obtain ⟨p, l, e, R, s, m, args, below, meth, c, Q, A, n'⟩ := X
  obtain ⟨hx, hb, hml, hts, hown, ⟨hK, hNK, hZS⟩, hA, hn, hd1, hd2, hd3, hd4⟩ := C
  subst hn
  intro H locs ls hP hD hS hl
  exact lv_pop hx hb hdg h1 (kk H locs ls hP hD hS hl)
theorem V_dup_x1 {g : Gd} {X : Bd} {own : String} {cc : ByteArray} {n d mc ms cs ss pc : Nat} {ws : va_W} {L : List (Nat × Value)} {st : List Value} {va vb : Value} (C : Cx g X own cc n d mc ms) (hdg : decode cc pc = .ok (.dup_x1, 1)) (h1 : va.category = 1) (h2 : vb.category = 1) (kk : V g X cs ss ws (pc + 1) L (va :: vb :: va :: st)) : V g X cs ss ws pc L (va :: vb :: st) := by
  obtain ⟨p, l, e, R, s, m, args, below, meth, c, Q, A, n'⟩ := X
  obtain ⟨hx, hb, hml, hts, hown, ⟨hK, hNK, hZS⟩, hA, hn, hd1, hd2, hd3, hd4⟩ := C
  subst hn
  intro H locs ls hP hD hS hl
  exact lv_dup_x1 hx hb hdg h1 h2 (kk H locs ls hP hD hS hl)
theorem V_dup2 {g : Gd} {X : Bd} {own : String} {cc : ByteArray} {n d mc ms cs ss pc : Nat} {ws : va_W} {L : List (Nat × Value)} {st : List Value} {va vb : Value} (C : Cx g X own cc n d mc ms) (hdg : decode cc pc = .ok (.dup2, 1)) (h1 : va.category = 1) (h2 : vb.category = 1) (kk : V g X cs ss ws (pc + 1) L (va :: vb :: va :: vb :: st)) : V g X cs ss ws pc L (va :: vb :: st) := by
  obtain ⟨p, l, e, R, s, m, args, below, meth, c, Q, A, n'⟩ := X
  obtain ⟨hx, hb, hml, hts, hown, ⟨hK, hNK, hZS⟩, hA, hn, hd1, hd2, hd3, hd4⟩ := C
  subst hn
  intro H locs ls hP hD hS hl
  exact lv_dup2_11 hx hb hdg h1 h2 (kk H locs ls hP hD hS hl)
theorem V_goto {g : Gd} {X : Bd} {own : String} {cc : ByteArray} {n d mc ms cs ss pc : Nat} {ws : va_W} {L : List (Nat × Value)} {st : List Value} {off : Int} {tgt : Nat} (C : Cx g X own cc n d mc ms) (hdg : decode cc pc = .ok (.goto off, 3)) (ht : (pc : Int) + off = (tgt : Int)) (kk : V g X cs ss ws tgt L (st)) : V g X cs ss ws pc L (st) := by
  obtain ⟨p, l, e, R, s, m, args, below, meth, c, Q, A, n'⟩ := X
  obtain ⟨hx, hb, hml, hts, hown, ⟨hK, hNK, hZS⟩, hA, hn, hd1, hd2, hd3, hd4⟩ := C
  subst hn
  intro H locs ls hP hD hS hl
  exact lv_goto hx hb hdg ht (kk H locs ls hP hD hS hl)
theorem V_if_eq {g : Gd} {X : Bd} {own : String} {cc : ByteArray} {n d mc ms cs ss pc : Nat} {ws : va_W} {L : List (Nat × Value)} {st : List Value} {x : Int32} {off : Int} {tgt : Nat} (C : Cx g X own cc n d mc ms) (hdg : decode cc pc = .ok (.ifCond .eq off, 3)) (ht : (pc : Int) + off = (tgt : Int)) (kt : x = 0 → V g X cs ss ws tgt L st) (kf : ¬ x = 0 → V g X cs ss ws (pc + 3) L st) : V g X cs ss ws pc L (.int x :: st) := by
  obtain ⟨p, l, e, R, s, m, args, below, meth, c, Q, A, n'⟩ := X
  obtain ⟨hx, hb, hml, hts, hown, ⟨hK, hNK, hZS⟩, hA, hn, hd1, hd2, hd3, hd4⟩ := C
  subst hn
  intro H locs ls hP hD hS hl
  exact lv_if_eq hx hb hdg ht (fun h => kt h H locs ls hP hD hS hl) (fun h => kf h H locs ls hP hD hS hl)
theorem V_icmp_eq {g : Gd} {X : Bd} {own : String} {cc : ByteArray} {n d mc ms cs ss pc : Nat} {ws : va_W} {L : List (Nat × Value)} {st : List Value} {x y : Int32} {off : Int} {tgt : Nat} (C : Cx g X own cc n d mc ms) (hdg : decode cc pc = .ok (.if_icmp .eq off, 3)) (ht : (pc : Int) + off = (tgt : Int)) (kt : x = y → V g X cs ss ws tgt L st) (kf : ¬ x = y → V g X cs ss ws (pc + 3) L st) : V g X cs ss ws pc L (.int y :: .int x :: st) := by
  obtain ⟨p, l, e, R, s, m, args, below, meth, c, Q, A, n'⟩ := X
  obtain ⟨hx, hb, hml, hts, hown, ⟨hK, hNK, hZS⟩, hA, hn, hd1, hd2, hd3, hd4⟩ := C
  subst hn
  intro H locs ls hP hD hS hl
  exact lv_icmp_eq hx hb hdg ht (fun h => kt h H locs ls hP hD hS hl) (fun h => kf h H locs ls hP hD hS hl)
theorem V_if_ne {g : Gd} {X : Bd} {own : String} {cc : ByteArray} {n d mc ms cs ss pc : Nat} {ws : va_W} {L : List (Nat × Value)} {st : List Value} {x : Int32} {off : Int} {tgt : Nat} (C : Cx g X own cc n d mc ms) (hdg : decode cc pc = .ok (.ifCond .ne off, 3)) (ht : (pc : Int) + off = (tgt : Int)) (kt : ¬ x = 0 → V g X cs ss ws tgt L st) (kf : x = 0 → V g X cs ss ws (pc + 3) L st) : V g X cs ss ws pc L (.int x :: st) := by
  obtain ⟨p, l, e, R, s, m, args, below, meth, c, Q, A, n'⟩ := X
  obtain ⟨hx, hb, hml, hts, hown, ⟨hK, hNK, hZS⟩, hA, hn, hd1, hd2, hd3, hd4⟩ := C
  subst hn
  intro H locs ls hP hD hS hl
  exact lv_if_ne hx hb hdg ht (fun h => kt h H locs ls hP hD hS hl) (fun h => kf h H locs ls hP hD hS hl)
theorem V_icmp_ne {g : Gd} {X : Bd} {own : String} {cc : ByteArray} {n d mc ms cs ss pc : Nat} {ws : va_W} {L : List (Nat × Value)} {st : List Value} {x y : Int32} {off : Int} {tgt : Nat} (C : Cx g X own cc n d mc ms) (hdg : decode cc pc = .ok (.if_icmp .ne off, 3)) (ht : (pc : Int) + off = (tgt : Int)) (kt : ¬ x = y → V g X cs ss ws tgt L st) (kf : x = y → V g X cs ss ws (pc + 3) L st) : V g X cs ss ws pc L (.int y :: .int x :: st) := by
  obtain ⟨p, l, e, R, s, m, args, below, meth, c, Q, A, n'⟩ := X
  obtain ⟨hx, hb, hml, hts, hown, ⟨hK, hNK, hZS⟩, hA, hn, hd1, hd2, hd3, hd4⟩ := C
  subst hn
  intro H locs ls hP hD hS hl
  exact lv_icmp_ne hx hb hdg ht (fun h => kt h H locs ls hP hD hS hl) (fun h => kf h H locs ls hP hD hS hl)
theorem V_if_lt {g : Gd} {X : Bd} {own : String} {cc : ByteArray} {n d mc ms cs ss pc : Nat} {ws : va_W} {L : List (Nat × Value)} {st : List Value} {x : Int32} {off : Int} {tgt : Nat} (C : Cx g X own cc n d mc ms) (hdg : decode cc pc = .ok (.ifCond .lt off, 3)) (ht : (pc : Int) + off = (tgt : Int)) (kt : x < 0 → V g X cs ss ws tgt L st) (kf : ¬ x < 0 → V g X cs ss ws (pc + 3) L st) : V g X cs ss ws pc L (.int x :: st) := by
  obtain ⟨p, l, e, R, s, m, args, below, meth, c, Q, A, n'⟩ := X
  obtain ⟨hx, hb, hml, hts, hown, ⟨hK, hNK, hZS⟩, hA, hn, hd1, hd2, hd3, hd4⟩ := C
  subst hn
  intro H locs ls hP hD hS hl
  exact lv_if_lt hx hb hdg ht (fun h => kt h H locs ls hP hD hS hl) (fun h => kf h H locs ls hP hD hS hl)
theorem V_icmp_lt {g : Gd} {X : Bd} {own : String} {cc : ByteArray} {n d mc ms cs ss pc : Nat} {ws : va_W} {L : List (Nat × Value)} {st : List Value} {x y : Int32} {off : Int} {tgt : Nat} (C : Cx g X own cc n d mc ms) (hdg : decode cc pc = .ok (.if_icmp .lt off, 3)) (ht : (pc : Int) + off = (tgt : Int)) (kt : x < y → V g X cs ss ws tgt L st) (kf : ¬ x < y → V g X cs ss ws (pc + 3) L st) : V g X cs ss ws pc L (.int y :: .int x :: st) := by
  obtain ⟨p, l, e, R, s, m, args, below, meth, c, Q, A, n'⟩ := X
  obtain ⟨hx, hb, hml, hts, hown, ⟨hK, hNK, hZS⟩, hA, hn, hd1, hd2, hd3, hd4⟩ := C
  subst hn
  intro H locs ls hP hD hS hl
  exact lv_icmp_lt hx hb hdg ht (fun h => kt h H locs ls hP hD hS hl) (fun h => kf h H locs ls hP hD hS hl)
theorem V_if_ge {g : Gd} {X : Bd} {own : String} {cc : ByteArray} {n d mc ms cs ss pc : Nat} {ws : va_W} {L : List (Nat × Value)} {st : List Value} {x : Int32} {off : Int} {tgt : Nat} (C : Cx g X own cc n d mc ms) (hdg : decode cc pc = .ok (.ifCond .ge off, 3)) (ht : (pc : Int) + off = (tgt : Int)) (kt : 0 ≤ x → V g X cs ss ws tgt L st) (kf : ¬ 0 ≤ x → V g X cs ss ws (pc + 3) L st) : V g X cs ss ws pc L (.int x :: st) := by
  obtain ⟨p, l, e, R, s, m, args, below, meth, c, Q, A, n'⟩ := X
  obtain ⟨hx, hb, hml, hts, hown, ⟨hK, hNK, hZS⟩, hA, hn, hd1, hd2, hd3, hd4⟩ := C
  subst hn
  intro H locs ls hP hD hS hl
  exact lv_if_ge hx hb hdg ht (fun h => kt h H locs ls hP hD hS hl) (fun h => kf h H locs ls hP hD hS hl)
theorem V_icmp_ge {g : Gd} {X : Bd} {own : String} {cc : ByteArray} {n d mc ms cs ss pc : Nat} {ws : va_W} {L : List (Nat × Value)} {st : List Value} {x y : Int32} {off : Int} {tgt : Nat} (C : Cx g X own cc n d mc ms) (hdg : decode cc pc = .ok (.if_icmp .ge off, 3)) (ht : (pc : Int) + off = (tgt : Int)) (kt : y ≤ x → V g X cs ss ws tgt L st) (kf : ¬ y ≤ x → V g X cs ss ws (pc + 3) L st) : V g X cs ss ws pc L (.int y :: .int x :: st) := by
  obtain ⟨p, l, e, R, s, m, args, below, meth, c, Q, A, n'⟩ := X
  obtain ⟨hx, hb, hml, hts, hown, ⟨hK, hNK, hZS⟩, hA, hn, hd1, hd2, hd3, hd4⟩ := C
  subst hn
  intro H locs ls hP hD hS hl
  exact lv_icmp_ge hx hb hdg ht (fun h => kt h H locs ls hP hD hS hl) (fun h => kf h H locs ls hP hD hS hl)
theorem V_if_gt {g : Gd} {X : Bd} {own : String} {cc : ByteArray} {n d mc ms cs ss pc : Nat} {ws : va_W} {L : List (Nat × Value)} {st : List Value} {x : Int32} {off : Int} {tgt : Nat} (C : Cx g X own cc n d mc ms) (hdg : decode cc pc = .ok (.ifCond .gt off, 3)) (ht : (pc : Int) + off = (tgt : Int)) (kt : 0 < x → V g X cs ss ws tgt L st) (kf : ¬ 0 < x → V g X cs ss ws (pc + 3) L st) : V g X cs ss ws pc L (.int x :: st) := by
  obtain ⟨p, l, e, R, s, m, args, below, meth, c, Q, A, n'⟩ := X
  obtain ⟨hx, hb, hml, hts, hown, ⟨hK, hNK, hZS⟩, hA, hn, hd1, hd2, hd3, hd4⟩ := C
  subst hn
  intro H locs ls hP hD hS hl
  exact lv_if_gt hx hb hdg ht (fun h => kt h H locs ls hP hD hS hl) (fun h => kf h H locs ls hP hD hS hl)
theorem V_icmp_gt {g : Gd} {X : Bd} {own : String} {cc : ByteArray} {n d mc ms cs ss pc : Nat} {ws : va_W} {L : List (Nat × Value)} {st : List Value} {x y : Int32} {off : Int} {tgt : Nat} (C : Cx g X own cc n d mc ms) (hdg : decode cc pc = .ok (.if_icmp .gt off, 3)) (ht : (pc : Int) + off = (tgt : Int)) (kt : y < x → V g X cs ss ws tgt L st) (kf : ¬ y < x → V g X cs ss ws (pc + 3) L st) : V g X cs ss ws pc L (.int y :: .int x :: st) := by
  obtain ⟨p, l, e, R, s, m, args, below, meth, c, Q, A, n'⟩ := X
  obtain ⟨hx, hb, hml, hts, hown, ⟨hK, hNK, hZS⟩, hA, hn, hd1, hd2, hd3, hd4⟩ := C
  subst hn
  intro H locs ls hP hD hS hl
  exact lv_icmp_gt hx hb hdg ht (fun h => kt h H locs ls hP hD hS hl) (fun h => kf h H locs ls hP hD hS hl)
theorem V_if_le {g : Gd} {X : Bd} {own : String} {cc : ByteArray} {n d mc ms cs ss pc : Nat} {ws : va_W} {L : List (Nat × Value)} {st : List Value} {x : Int32} {off : Int} {tgt : Nat} (C : Cx g X own cc n d mc ms) (hdg : decode cc pc = .ok (.ifCond .le off, 3)) (ht : (pc : Int) + off = (tgt : Int)) (kt : x ≤ 0 → V g X cs ss ws tgt L st) (kf : ¬ x ≤ 0 → V g X cs ss ws (pc + 3) L st) : V g X cs ss ws pc L (.int x :: st) := by
  obtain ⟨p, l, e, R, s, m, args, below, meth, c, Q, A, n'⟩ := X
  obtain ⟨hx, hb, hml, hts, hown, ⟨hK, hNK, hZS⟩, hA, hn, hd1, hd2, hd3, hd4⟩ := C
  subst hn
  intro H locs ls hP hD hS hl
  exact lv_if_le hx hb hdg ht (fun h => kt h H locs ls hP hD hS hl) (fun h => kf h H locs ls hP hD hS hl)
theorem V_icmp_le {g : Gd} {X : Bd} {own : String} {cc : ByteArray} {n d mc ms cs ss pc : Nat} {ws : va_W} {L : List (Nat × Value)} {st : List Value} {x y : Int32} {off : Int} {tgt : Nat} (C : Cx g X own cc n d mc ms) (hdg : decode cc pc = .ok (.if_icmp .le off, 3)) (ht : (pc : Int) + off = (tgt : Int)) (kt : x ≤ y → V g X cs ss ws tgt L st) (kf : ¬ x ≤ y → V g X cs ss ws (pc + 3) L st) : V g X cs ss ws pc L (.int y :: .int x :: st) := by
  obtain ⟨p, l, e, R, s, m, args, below, meth, c, Q, A, n'⟩ := X
  obtain ⟨hx, hb, hml, hts, hown, ⟨hK, hNK, hZS⟩, hA, hn, hd1, hd2, hd3, hd4⟩ := C
  subst hn
  intro H locs ls hP hD hS hl
  exact lv_icmp_le hx hb hdg ht (fun h => kt h H locs ls hP hD hS hl) (fun h => kf h H locs ls hP hD hS hl)
theorem V_istore_n {g : Gd} {X : Bd} {own : String} {cc : ByteArray} {n d mc ms cs ss pc : Nat} {ws : va_W} {L : List (Nat × Value)} {st : List Value} {k : Fin 4} {i : Nat} {x : Int32} {L2 : List (Nat × Value)} (C : Cx g X own cc n d mc ms) (hdg : decode cc pc = .ok (.istore_n k, 1)) (hi : (k : Nat) = i) (hn2 : i < n) (hl2 : (i, .int x) :: L.filter (fun q => !(q.1 == i) && !(q.1 + 1 == i && q.2.category == 2)) = L2) (kk : V g X cs ss ws (pc + 1) L2 st) : V g X cs ss ws pc L (.int x :: st) := by
  obtain ⟨p, l, e, R, s, m, args, below, meth, c, Q, A, n'⟩ := X
  obtain ⟨hx, hb, hml, hts, hown, ⟨hK, hNK, hZS⟩, hA, hn, hd1, hd2, hd3, hd4⟩ := C
  subst hn
  intro H locs ls hP hD hS hl
  exact lv_istore_n hx hb hdg hi hl hn2 hl2 (fun ls2 hl3 => kk H locs ls2 hP hD hS hl3)
theorem V_istore {g : Gd} {X : Bd} {own : String} {cc : ByteArray} {n d mc ms cs ss pc : Nat} {ws : va_W} {L : List (Nat × Value)} {st : List Value} {i : Nat} {x : Int32} {L2 : List (Nat × Value)} (C : Cx g X own cc n d mc ms) (hdg : decode cc pc = .ok (.istore i, 2)) (hn2 : i < n) (hl2 : (i, .int x) :: L.filter (fun q => !(q.1 == i) && !(q.1 + 1 == i && q.2.category == 2)) = L2) (kk : V g X cs ss ws (pc + 2) L2 st) : V g X cs ss ws pc L (.int x :: st) := by
  obtain ⟨p, l, e, R, s, m, args, below, meth, c, Q, A, n'⟩ := X
  obtain ⟨hx, hb, hml, hts, hown, ⟨hK, hNK, hZS⟩, hA, hn, hd1, hd2, hd3, hd4⟩ := C
  subst hn
  intro H locs ls hP hD hS hl
  exact lv_istore hx hb hdg hl hn2 hl2 (fun ls2 hl3 => kk H locs ls2 hP hD hS hl3)
theorem V_astore_n {g : Gd} {X : Bd} {own : String} {cc : ByteArray} {n d mc ms cs ss pc : Nat} {ws : va_W} {L : List (Nat × Value)} {st : List Value} {k : Fin 4} {i : Nat} {x : Nat} {L2 : List (Nat × Value)} (C : Cx g X own cc n d mc ms) (hdg : decode cc pc = .ok (.astore_n k, 1)) (hi : (k : Nat) = i) (hn2 : i < n) (hl2 : (i, .ref x) :: L.filter (fun q => !(q.1 == i) && !(q.1 + 1 == i && q.2.category == 2)) = L2) (kk : V g X cs ss ws (pc + 1) L2 st) : V g X cs ss ws pc L (.ref x :: st) := by
  obtain ⟨p, l, e, R, s, m, args, below, meth, c, Q, A, n'⟩ := X
  obtain ⟨hx, hb, hml, hts, hown, ⟨hK, hNK, hZS⟩, hA, hn, hd1, hd2, hd3, hd4⟩ := C
  subst hn
  intro H locs ls hP hD hS hl
  exact lv_astore_n hx hb hdg hi hl hn2 hl2 (fun ls2 hl3 => kk H locs ls2 hP hD hS hl3)
theorem V_astore {g : Gd} {X : Bd} {own : String} {cc : ByteArray} {n d mc ms cs ss pc : Nat} {ws : va_W} {L : List (Nat × Value)} {st : List Value} {i : Nat} {x : Nat} {L2 : List (Nat × Value)} (C : Cx g X own cc n d mc ms) (hdg : decode cc pc = .ok (.astore i, 2)) (hn2 : i < n) (hl2 : (i, .ref x) :: L.filter (fun q => !(q.1 == i) && !(q.1 + 1 == i && q.2.category == 2)) = L2) (kk : V g X cs ss ws (pc + 2) L2 st) : V g X cs ss ws pc L (.ref x :: st) := by
  obtain ⟨p, l, e, R, s, m, args, below, meth, c, Q, A, n'⟩ := X
  obtain ⟨hx, hb, hml, hts, hown, ⟨hK, hNK, hZS⟩, hA, hn, hd1, hd2, hd3, hd4⟩ := C
  subst hn
  intro H locs ls hP hD hS hl
  exact lv_astore hx hb hdg hl hn2 hl2 (fun ls2 hl3 => kk H locs ls2 hP hD hS hl3)
theorem V_lstore_n {g : Gd} {X : Bd} {own : String} {cc : ByteArray} {n d mc ms cs ss pc : Nat} {ws : va_W} {L : List (Nat × Value)} {st : List Value} {k : Fin 4} {i : Nat} {x : Int64} {L2 : List (Nat × Value)} (C : Cx g X own cc n d mc ms) (hdg : decode cc pc = .ok (.lstore_n k, 1)) (hi : (k : Nat) = i) (hn2 : i + 1 < n) (hl2 : (i, .long x) :: L.filter (fun q => !(q.1 == i) && (!(q.1 == i + 1) && !(q.1 + 1 == i && q.2.category == 2))) = L2) (kk : V g X cs ss ws (pc + 1) L2 st) : V g X cs ss ws pc L (.long x :: st) := by
  obtain ⟨p, l, e, R, s, m, args, below, meth, c, Q, A, n'⟩ := X
  obtain ⟨hx, hb, hml, hts, hown, ⟨hK, hNK, hZS⟩, hA, hn, hd1, hd2, hd3, hd4⟩ := C
  subst hn
  intro H locs ls hP hD hS hl
  exact lv_lstore_n hx hb hdg hi hl hn2 hl2 (fun ls2 hl3 => kk H locs ls2 hP hD hS hl3)
theorem V_lstore {g : Gd} {X : Bd} {own : String} {cc : ByteArray} {n d mc ms cs ss pc : Nat} {ws : va_W} {L : List (Nat × Value)} {st : List Value} {i : Nat} {x : Int64} {L2 : List (Nat × Value)} (C : Cx g X own cc n d mc ms) (hdg : decode cc pc = .ok (.lstore i, 2)) (hn2 : i + 1 < n) (hl2 : (i, .long x) :: L.filter (fun q => !(q.1 == i) && (!(q.1 == i + 1) && !(q.1 + 1 == i && q.2.category == 2))) = L2) (kk : V g X cs ss ws (pc + 2) L2 st) : V g X cs ss ws pc L (.long x :: st) := by
  obtain ⟨p, l, e, R, s, m, args, below, meth, c, Q, A, n'⟩ := X
  obtain ⟨hx, hb, hml, hts, hown, ⟨hK, hNK, hZS⟩, hA, hn, hd1, hd2, hd3, hd4⟩ := C
  subst hn
  intro H locs ls hP hD hS hl
  exact lv_lstore hx hb hdg hl hn2 hl2 (fun ls2 hl3 => kk H locs ls2 hP hD hS hl3)
theorem V_iinc {g : Gd} {X : Bd} {own : String} {cc : ByteArray} {n d mc ms cs ss pc : Nat} {ws : va_W} {L : List (Nat × Value)} {st : List Value} {i : Nat} {n0 : Int} {x v : Int32} {L2 : List (Nat × Value)} (C : Cx g X own cc n d mc ms) (k : Nat) (hdg : decode cc pc = .ok (.iinc i n0, 3)) (hk : L[k]? = some (i, .int x)) (hv : x + Int32.ofInt n0 = v) (hn2 : i < n) (hl2 : (i, .int v) :: L.filter (fun q => !(q.1 == i) && !(q.1 + 1 == i && q.2.category == 2)) = L2) (kk : V g X cs ss ws (pc + 3) L2 st) : V g X cs ss ws pc L st := by
  obtain ⟨p, l, e, R, s, m, args, below, meth, c, Q, A, n'⟩ := X
  obtain ⟨hx, hb, hml, hts, hown, ⟨hK, hNK, hZS⟩, hA, hn, hd1, hd2, hd3, hd4⟩ := C
  subst hn
  intro H locs ls hP hD hS hl
  exact lv_iinc hx hb hdg hl hk hv hn2 hl2 (fun ls2 hl3 => kk H locs ls2 hP hD hS hl3)
theorem V_ldc {g : Gd} {X : Bd} {own : String} {cc : ByteArray} {n d mc ms cs ss pc : Nat} {ws : va_W} {L : List (Nat × Value)} {st : List Value} {index : Nat} {v : Int32} (C : Cx g X own cc n d mc ms) (hc : Cond.constant own index v ∈ tg) (hdg : decode cc pc = .ok (.ldc index, 2)) (kk : V g X cs ss ws (pc + 2) L (.int v :: st)) : V g X cs ss ws pc L (st) := by
  obtain ⟨p, l, e, R, s, m, args, below, meth, c, Q, A, n'⟩ := X
  obtain ⟨hx, hb, hml, hts, hown, ⟨hK, hNK, hZS⟩, hA, hn, hd1, hd2, hd3, hd4⟩ := C
  subst hn
  intro H locs ls hP hD hS hl
  exact lv_ldc hx hb hown (hts _ hc) hdg (kk H locs ls hP hD hS hl)
theorem V_ldc2 {g : Gd} {X : Bd} {own : String} {cc : ByteArray} {n d mc ms cs ss pc : Nat} {ws : va_W} {L : List (Nat × Value)} {st : List Value} {index : Nat} {v : Int64} (C : Cx g X own cc n d mc ms) (hc : Cond.constantLong own index v ∈ tg) (hdg : decode cc pc = .ok (.ldc2_w index, 3)) (kk : V g X cs ss ws (pc + 3) L (.long v :: st)) : V g X cs ss ws pc L (st) := by
  obtain ⟨p, l, e, R, s, m, args, below, meth, c, Q, A, n'⟩ := X
  obtain ⟨hx, hb, hml, hts, hown, ⟨hK, hNK, hZS⟩, hA, hn, hd1, hd2, hd3, hd4⟩ := C
  subst hn
  intro H locs ls hP hD hS hl
  exact lv_ldc2 hx hb hown (hts _ hc) hdg (kk H locs ls hP hD hS hl)
theorem V_locs {g : Gd} {X : Bd} {cs ss pc : Nat} {ws : va_W} {L : List (Nat × Value)} {st : List Value} {L2 : List (Nat × Value)} (ks : List Nat) (hl2 : lv_pick L ks = L2) (kk : V g X cs ss ws pc L2 st) : V g X cs ss ws pc L st := by
  obtain ⟨p, l, e, R, s, m, args, below, meth, c, Q, A, n'⟩ := X
  intro H locs ls hP hD hS hl
  exact kk H locs ls hP hD hS (lv_sub hl ks hl2)
theorem V_perm {g : Gd} {X : Bd} {cs ss pc : Nat} {ws : va_W} {L : List (Nat × Value)} {st : List Value} {ws2 : va_W} (is : List Nat) (hn2 : va_nd is = true) (hs : is.map (fun i => ws[i]?) = ws2.map some) (kk : V g X cs ss ws2 pc L st) : V g X cs ss ws pc L st := by
  obtain ⟨p, l, e, R, s, m, args, below, meth, c, Q, A, n'⟩ := X
  intro H locs ls hP hD hS hl
  refine kk H locs ls (hP.sub is ?_) (hD.sub is hn2 hs) hS hl
  have h2 := congrArg (List.filterMap id) hs
  simpa [List.filterMap_map, Function.comp_def] using h2
theorem V_to {g : Gd} {X : Bd} {cs ss pc : Nat} {ws : va_W} {L : List (Nat × Value)} {st : List Value} {ws2 : va_W} (kk : V g X cs ss ws2 pc L st) (h : ws = ws2) : V g X cs ss ws pc L st := by
  subst h
  exact kk
theorem V_wid {g : Gd} {X : Bd} {cs ss pc : Nat} {ws : va_W} {L : List (Nat × Value)} {st : List Value} {k n2 : Nat} (h1 : cs ≤ k) (h2 : ss ≤ n2) (kk : V g X k n2 ws pc L st) : V g X cs ss ws pc L st := by
  obtain ⟨p, l, e, R, s, m, args, below, meth, c, Q, A, n'⟩ := X
  intro H locs ls hP hD hS hl
  exact W.widen h1 h2 (kk H locs ls hP hD hS hl)
theorem V_ev {g : Gd} {X : Bd} {cs ss pc : Nat} {ws : va_W} {L : List (Nat × Value)} {st : List Value} {x y : Int32} (h : x = y) (kk : V g X cs ss ws pc L (.int y :: st)) : V g X cs ss ws pc L (.int x :: st) := by
  subst h
  exact kk
theorem cell_ext (cA : ClassId) (n : Nat) {f f2 : Nat → Int32} (h : ∀ j, j < n → f j = f2 j) : vp_cell cA (n, .inl f) = vp_cell cA (n, .inl f2) := by
  rw [vp_cell_i, vp_cell_i]
  unfold arrV
  congr 1
  apply Array.ext
  · simp
  · intro i h1 h2
    have hi : i < n := by simpa using h1
    simp [h i hi]
theorem V_ext {g : Gd} {X : Bd} {cs ss pc : Nat} {ws : va_W} {L : List (Nat × Value)} {st : List Value} {a nn : Nat} {cA : ClassId} {f f2 : Nat → Int32} {ws2 : va_W} (q0 : Nat) (he : ws[q0]? = some (a, .inl (cA, nn, .inl f))) (h : ∀ j, j < nn → f j = f2 j) (hw : ws.set q0 (a, .inl (cA, nn, .inl f2)) = ws2) (kk : V g X cs ss ws2 pc L st) : V g X cs ss ws pc L st := by
  obtain ⟨p, l, e, R, s, m, args, below, meth, c, Q, A, n'⟩ := X
  subst hw
  intro H locs ls hP hD hS hl
  refine kk H locs ls (hP.set hD he ?_ (fun _ _ => rfl)) (hD.set he) hS hl
  show H[a]? = some (vp_cell cA (nn, .inl f2))
  rw [← cell_ext cA nn h]
  exact hP q0 _ he
theorem V_get {g : Gd} {X : Bd} {own : String} {cc : ByteArray} {n d mc ms cs ss pc : Nat} {ws : va_W} {L : List (Nat × Value)} {st : List Value} {ref Cn : String} {T : u_T} {N ci index a : Nat} {fs : List Value} {v : Value} (C : Cx g X own cc n d mc ms) (q0 : Nat) (he : ws[q0]? = some (a, .inr (ci, fs))) (hc : vwCl[ci]? = some (Cn, T, N)) (hin2 : ∀ w ∈ u_ws Cn T N, w ∈ tg) (k : Nat) (hk : k < N) (hlink : Cond.fieldLink own index ref (T k).2.1 (T k).2.2.1 ∈ tg) (hr : ref = (T k).1) (hv : fs[k]? = some v) (hdg : decode cc pc = .ok (.getfield index, 3)) (kk : V g X cs ss ws (pc + 3) L (v :: st)) : V g X cs ss ws pc L (.ref a :: st) := by
  obtain ⟨p, l, e, R, s, m, args, below, meth, c, Q, A, n'⟩ := X
  obtain ⟨hx, hb, hml, hts, hown, ⟨hK, hNK, hZS⟩, hA, hn, hd1, hd2, hd3, hd4⟩ := C
  subst hn
  intro H locs ls hP hD hS hl
  exact va_get hx hb hts hin2 hown hK hP q0 he hc k hk (hts _ hlink) (fun x h9 => by rw [hr]; exact h9) hv hdg (kk H locs ls hP hD hS hl)
theorem V_put {g : Gd} {X : Bd} {own : String} {cc : ByteArray} {n d mc ms cs ss pc : Nat} {ws : va_W} {L : List (Nat × Value)} {st : List Value} {ref Cn : String} {T : u_T} {N ci index a : Nat} {fs : List Value} {v : Value} {ty : FieldType} {ws2 : va_W} (C : Cx g X own cc n d mc ms) (q0 : Nat) (he : ws[q0]? = some (a, .inr (ci, fs))) (hc : vwCl[ci]? = some (Cn, T, N)) (hin2 : ∀ w ∈ u_ws Cn T N, w ∈ tg) (ty0 : Nat → FieldType) (hty : ∀ k, k < N → parseFieldDescriptor (T k).2.2.1 = some (ty0 k)) (hnm : ∀ a, a < N → ∀ b, b < N → a ≠ b → (T a).2.1 ≠ (T b).2.1) (k : Nat) (hk : k < N) (hlink : Cond.fieldLink own index ref (T k).2.1 (T k).2.2.1 ∈ tg) (hr : ref = (T k).1) (hfin : (T k).2.2.2 = false) (hd0 : parseFieldDescriptor (T k).2.2.1 = some ty) (hnr : narrow ty v = v) (hfit : fits ty v = true) (hlen : k < fs.length) (hdg : decode cc pc = .ok (.putfield index, 3)) (hw : ws.set q0 (a, .inr (ci, fs.set k v)) = ws2) (kk : V g X cs ss ws2 (pc + 3) L st) : V g X cs ss ws pc L (v :: .ref a :: st) := by
  obtain ⟨p, l, e, R, s, m, args, below, meth, c, Q, A, n'⟩ := X
  obtain ⟨hx, hb, hml, hts, hown, ⟨hK, hNK, hZS⟩, hA, hn, hd1, hd2, hd3, hd4⟩ := C
  subst hn
  subst hw
  intro H locs ls hP hD hS hl
  exact va_put hx hb hts hin2 ty0 hty hnm hown hK hP hD hS q0 he hc k hk (hts _ hlink) (fun x h9 => by rw [hr]; exact h9) hfin hd0 hnr hfit hlen hdg (fun H1 locs1 hP1 hD1 hS1 => kk H1 locs1 ls hP1 hD1 hS1 hl)
theorem V_putF {g : Gd} {X : Bd} {own : String} {cc : ByteArray} {n d mc ms cs ss pc : Nat} {ws : va_W} {L : List (Nat × Value)} {st : List Value} {ref Cn : String} {T : u_T} {N ci index a : Nat} {fs : List Value} {v : Value} {ty : FieldType} {ws2 : va_W} (C : Cx g X own cc n d mc ms) (hI : isI X) (q0 : Nat) (he : ws[q0]? = some (a, .inr (ci, fs))) (hc : vwCl[ci]? = some (Cn, T, N)) (hin2 : ∀ w ∈ u_ws Cn T N, w ∈ tg) (ty0 : Nat → FieldType) (hty : ∀ k, k < N → parseFieldDescriptor (T k).2.2.1 = some (ty0 k)) (hnm : ∀ a, a < N → ∀ b, b < N → a ≠ b → (T a).2.1 ≠ (T b).2.1) (k : Nat) (hk : k < N) (hlink : Cond.fieldLink own index ref (T k).2.1 (T k).2.2.1 ∈ tg) (hr : ref = (T k).1) (hfin : (T k).2.2.2 = true) (hdecl : (T k).1 = own) (hd0 : parseFieldDescriptor (T k).2.2.1 = some ty) (hnr : narrow ty v = v) (hfit : fits ty v = true) (hlen : k < fs.length) (hdg : decode cc pc = .ok (.putfield index, 3)) (hw : ws.set q0 (a, .inr (ci, fs.set k v)) = ws2) (kk : V g X cs ss ws2 (pc + 3) L st) : V g X cs ss ws pc L (v :: .ref a :: st) := by
  obtain ⟨p, l, e, R, s, m, args, below, meth, c, Q, A, n'⟩ := X
  obtain ⟨hx, hb, hml, hts, hown, ⟨hK, hNK, hZS⟩, hA, hn, hd1, hd2, hd3, hd4⟩ := C
  subst hn
  subst hw
  intro H locs ls hP hD hS hl
  exact va_putF hx hb hts hin2 ty0 hty hnm hown hK hP hD hS q0 he hc k hk (hts _ hlink) (fun x h9 => by rw [hr]; exact h9) hfin hI hdecl hd0 hnr hfit hlen hdg (fun H1 locs1 hP1 hD1 hS1 => kk H1 locs1 ls hP1 hD1 hS1 hl)
def ix (i : Int32) (k nn : Nat) : Prop := vp_in i nn ∧ i.toNatClampNeg = k
theorem ix_nI {k nn : Nat} (h : k < nn) (h2 : nn < 2 ^ 31) : ix (nI k) k nn := ⟨vp_in_nI h h2, nI_clamp (by omega)⟩
theorem ix_of {i : Int32} {nn : Nat} (h : vp_in i nn) : ix i i.toNatClampNeg nn := ⟨h, rfl⟩
theorem V_iald {g : Gd} {X : Bd} {own : String} {cc : ByteArray} {n d mc ms cs ss pc : Nat} {ws : va_W} {L : List (Nat × Value)} {st : List Value} {a nn k : Nat} {f : Nat → Int32} {i : Int32} (C : Cx g X own cc n d mc ms) (q0 : Nat) (he : ws[q0]? = some (a, .inl (gI g, nn, .inl f))) (hin2 : ix i k nn) (hdg : decode cc pc = .ok (.iaload, 1)) (kk : V g X cs ss ws (pc + 1) L (.int (f k) :: st)) : V g X cs ss ws pc L (.int i :: .ref a :: st) := by
  obtain ⟨p, l, e, R, s, m, args, below, meth, c, Q, A, n'⟩ := X
  obtain ⟨hx, hb, hml, hts, hown, ⟨hK, hNK, hZS⟩, hA, hn, hd1, hd2, hd3, hd4⟩ := C
  subst hn
  intro H locs ls hP hD hS hl
  obtain ⟨hin3, rfl⟩ := hin2
  exact va_iald hx hb hK hP q0 0 he rfl hin3 hdg (kk H locs ls hP hD hS hl)
theorem V_cald {g : Gd} {X : Bd} {own : String} {cc : ByteArray} {n d mc ms cs ss pc : Nat} {ws : va_W} {L : List (Nat × Value)} {st : List Value} {a nn k : Nat} {f : Nat → Int32} {i : Int32} (C : Cx g X own cc n d mc ms) (q0 : Nat) (he : ws[q0]? = some (a, .inl (gC g, nn, .inl f))) (hin2 : ix i k nn) (hdg : decode cc pc = .ok (.caload, 1)) (kk : V g X cs ss ws (pc + 1) L (.int (f k) :: st)) : V g X cs ss ws pc L (.int i :: .ref a :: st) := by
  obtain ⟨p, l, e, R, s, m, args, below, meth, c, Q, A, n'⟩ := X
  obtain ⟨hx, hb, hml, hts, hown, ⟨hK, hNK, hZS⟩, hA, hn, hd1, hd2, hd3, hd4⟩ := C
  subst hn
  intro H locs ls hP hD hS hl
  obtain ⟨hin3, rfl⟩ := hin2
  exact va_cald hx hb hK hP q0 1 he rfl hin3 hdg (kk H locs ls hP hD hS hl)
theorem V_zald {g : Gd} {X : Bd} {own : String} {cc : ByteArray} {n d mc ms cs ss pc : Nat} {ws : va_W} {L : List (Nat × Value)} {st : List Value} {a nn k : Nat} {f : Nat → Int32} {i : Int32} (C : Cx g X own cc n d mc ms) (q0 : Nat) (he : ws[q0]? = some (a, .inl (gZ g, nn, .inl f))) (hin2 : ix i k nn) (hdg : decode cc pc = .ok (.baload, 1)) (kk : V g X cs ss ws (pc + 1) L (.int (f k) :: st)) : V g X cs ss ws pc L (.int i :: .ref a :: st) := by
  obtain ⟨p, l, e, R, s, m, args, below, meth, c, Q, A, n'⟩ := X
  obtain ⟨hx, hb, hml, hts, hown, ⟨hK, hNK, hZS⟩, hA, hn, hd1, hd2, hd3, hd4⟩ := C
  subst hn
  intro H locs ls hP hD hS hl
  obtain ⟨hin3, rfl⟩ := hin2
  exact va_zald hx hb hK hP q0 2 he rfl hin3 hdg (kk H locs ls hP hD hS hl)
theorem V_iast {g : Gd} {X : Bd} {own : String} {cc : ByteArray} {n d mc ms cs ss pc : Nat} {ws : va_W} {L : List (Nat × Value)} {st : List Value} {a nn k : Nat} {f : Nat → Int32} {i x : Int32} {ws2 : va_W} (C : Cx g X own cc n d mc ms) (q0 : Nat) (he : ws[q0]? = some (a, .inl (gI g, nn, .inl f))) (hin2 : ix i k nn) (hdg : decode cc pc = .ok (.iastore, 1)) (hw : ws.set q0 (a, .inl (gI g, nn, .inl (upd f k x))) = ws2) (kk : V g X cs ss ws2 (pc + 1) L st) : V g X cs ss ws pc L (.int x :: .int i :: .ref a :: st) := by
  obtain ⟨p, l, e, R, s, m, args, below, meth, c, Q, A, n'⟩ := X
  obtain ⟨hx, hb, hml, hts, hown, ⟨hK, hNK, hZS⟩, hA, hn, hd1, hd2, hd3, hd4⟩ := C
  subst hn
  subst hw
  intro H locs ls hP hD hS hl
  obtain ⟨hin3, rfl⟩ := hin2
  exact va_iast hx hb hK hP hD hS q0 0 he rfl hin3 hdg (fun H1 locs1 hP1 hD1 hS1 => kk H1 locs1 ls hP1 hD1 hS1 hl)
theorem V_cast {g : Gd} {X : Bd} {own : String} {cc : ByteArray} {n d mc ms cs ss pc : Nat} {ws : va_W} {L : List (Nat × Value)} {st : List Value} {a nn k : Nat} {f : Nat → Int32} {i x : Int32} {ws2 : va_W} (C : Cx g X own cc n d mc ms) (q0 : Nat) (he : ws[q0]? = some (a, .inl (gC g, nn, .inl f))) (hin2 : ix i k nn) (hdg : decode cc pc = .ok (.castore, 1)) (hw : ws.set q0 (a, .inl (gC g, nn, .inl (upd f k (vp_nar .char x)))) = ws2) (kk : V g X cs ss ws2 (pc + 1) L st) : V g X cs ss ws pc L (.int x :: .int i :: .ref a :: st) := by
  obtain ⟨p, l, e, R, s, m, args, below, meth, c, Q, A, n'⟩ := X
  obtain ⟨hx, hb, hml, hts, hown, ⟨hK, hNK, hZS⟩, hA, hn, hd1, hd2, hd3, hd4⟩ := C
  subst hn
  subst hw
  intro H locs ls hP hD hS hl
  obtain ⟨hin3, rfl⟩ := hin2
  exact va_cast hx hb hK hP hD hS q0 1 he rfl hin3 hdg (fun H1 locs1 hP1 hD1 hS1 => kk H1 locs1 ls hP1 hD1 hS1 hl)
theorem V_zast {g : Gd} {X : Bd} {own : String} {cc : ByteArray} {n d mc ms cs ss pc : Nat} {ws : va_W} {L : List (Nat × Value)} {st : List Value} {a nn k : Nat} {f : Nat → Int32} {i x : Int32} {ws2 : va_W} (C : Cx g X own cc n d mc ms) (q0 : Nat) (he : ws[q0]? = some (a, .inl (gZ g, nn, .inl f))) (hin2 : ix i k nn) (hdg : decode cc pc = .ok (.bastore, 1)) (hw : ws.set q0 (a, .inl (gZ g, nn, .inl (upd f k (vp_nar .boolean x)))) = ws2) (kk : V g X cs ss ws2 (pc + 1) L st) : V g X cs ss ws pc L (.int x :: .int i :: .ref a :: st) := by
  obtain ⟨p, l, e, R, s, m, args, below, meth, c, Q, A, n'⟩ := X
  obtain ⟨hx, hb, hml, hts, hown, ⟨hK, hNK, hZS⟩, hA, hn, hd1, hd2, hd3, hd4⟩ := C
  subst hn
  subst hw
  intro H locs ls hP hD hS hl
  obtain ⟨hin3, rfl⟩ := hin2
  exact va_zast hx hb hK hP hD hS q0 2 he rfl hin3 hdg (fun H1 locs1 hP1 hD1 hS1 => kk H1 locs1 ls hP1 hD1 hS1 hl)
theorem V_aald {g : Gd} {X : Bd} {own : String} {cc : ByteArray} {n d mc ms cs ss pc : Nat} {ws : va_W} {L : List (Nat × Value)} {st : List Value} {a nn k : Nat} {f : Nat → Option Nat} {i : Int32} {v : Nat} (C : Cx g X own cc n d mc ms) (q0 : Nat) (he : ws[q0]? = some (a, .inl (gM g, nn, .inr (.inr (.inr (.inr f)))))) (hin2 : ix i k nn) (hf : f k = some v) (hdg : decode cc pc = .ok (.aaload, 1)) (kk : V g X cs ss ws (pc + 1) L (.ref v :: st)) : V g X cs ss ws pc L (.int i :: .ref a :: st) := by
  obtain ⟨p, l, e, R, s, m, args, below, meth, c, Q, A, n'⟩ := X
  obtain ⟨hx, hb, hml, hts, hown, ⟨hK, hNK, hZS⟩, hA, hn, hd1, hd2, hd3, hd4⟩ := C
  subst hn
  intro H locs ls hP hD hS hl
  obtain ⟨hin3, rfl⟩ := hin2
  refine va_aldq (C := "FareDrops$Meter") hx hb hK hP q0 3 he rfl hin3 hdg ?_
  rw [hf]
  exact kk H locs ls hP hD hS hl
theorem V_aast {g : Gd} {X : Bd} {own : String} {cc : ByteArray} {n d mc ms cs ss pc : Nat} {ws : va_W} {L : List (Nat × Value)} {st : List Value} {a nn v ci k : Nat} {f : Nat → Option Nat} {i : Int32} {vs : List Value} {T : u_T} {N : Nat} {ws2 : va_W} (C : Cx g X own cc n d mc ms) (q0 qk : Nat) (he : ws[q0]? = some (a, .inl (gM g, nn, .inr (.inr (.inr (.inr f)))))) (hv : ws[qk]? = some (v, .inr (ci, vs))) (hc : vwCl[ci]? = some ("FareDrops$Meter", T, N)) (hin2 : ix i k nn) (hdg : decode cc pc = .ok (.aastore, 1)) (hw : ws.set q0 (a, .inl (gM g, nn, .inr (.inr (.inr (.inr (va_up f k (some v))))))) = ws2) (kk : V g X cs ss ws2 (pc + 1) L st) : V g X cs ss ws pc L (.ref v :: .int i :: .ref a :: st) := by
  obtain ⟨p, l, e, R, s, m, args, below, meth, c, Q, A, n'⟩ := X
  obtain ⟨hx, hb, hml, hts, hown, ⟨hK, hNK, hZS⟩, hA, hn, hd1, hd2, hd3, hd4⟩ := C
  subst hn
  subst hw
  intro H locs ls hP hD hS hl
  obtain ⟨hin3, rfl⟩ := hin2
  exact va_astq hx hb hK hP hD hS q0 3 qk ci he rfl hv hc hin3 hdg (fun H1 locs1 hP1 hD1 hS1 => kk H1 locs1 ls hP1 hD1 hS1 hl)
theorem V_alenI {g : Gd} {X : Bd} {own : String} {cc : ByteArray} {n d mc ms cs ss pc : Nat} {ws : va_W} {L : List (Nat × Value)} {st : List Value} {a : Nat} {x : vp_A} {v : Int32} (C : Cx g X own cc n d mc ms) (q0 : Nat) (he : ws[q0]? = some (a, .inl (gI g, x))) (hv : Int32.ofNat x.1 = v) (hdg : decode cc pc = .ok (.arraylength, 1)) (kk : V g X cs ss ws (pc + 1) L (.int v :: st)) : V g X cs ss ws pc L (.ref a :: st) := by
  obtain ⟨p, l, e, R, s, m, args, below, meth, c, Q, A, n'⟩ := X
  obtain ⟨hx, hb, hml, hts, hown, ⟨hK, hNK, hZS⟩, hA, hn, hd1, hd2, hd3, hd4⟩ := C
  subst hn
  intro H locs ls hP hD hS hl
  exact va_alen hx hb hK hP q0 0 he rfl hv hdg (kk H locs ls hP hD hS hl)
theorem V_alenC {g : Gd} {X : Bd} {own : String} {cc : ByteArray} {n d mc ms cs ss pc : Nat} {ws : va_W} {L : List (Nat × Value)} {st : List Value} {a : Nat} {x : vp_A} {v : Int32} (C : Cx g X own cc n d mc ms) (q0 : Nat) (he : ws[q0]? = some (a, .inl (gC g, x))) (hv : Int32.ofNat x.1 = v) (hdg : decode cc pc = .ok (.arraylength, 1)) (kk : V g X cs ss ws (pc + 1) L (.int v :: st)) : V g X cs ss ws pc L (.ref a :: st) := by
  obtain ⟨p, l, e, R, s, m, args, below, meth, c, Q, A, n'⟩ := X
  obtain ⟨hx, hb, hml, hts, hown, ⟨hK, hNK, hZS⟩, hA, hn, hd1, hd2, hd3, hd4⟩ := C
  subst hn
  intro H locs ls hP hD hS hl
  exact va_alen hx hb hK hP q0 1 he rfl hv hdg (kk H locs ls hP hD hS hl)
theorem V_alenZ {g : Gd} {X : Bd} {own : String} {cc : ByteArray} {n d mc ms cs ss pc : Nat} {ws : va_W} {L : List (Nat × Value)} {st : List Value} {a : Nat} {x : vp_A} {v : Int32} (C : Cx g X own cc n d mc ms) (q0 : Nat) (he : ws[q0]? = some (a, .inl (gZ g, x))) (hv : Int32.ofNat x.1 = v) (hdg : decode cc pc = .ok (.arraylength, 1)) (kk : V g X cs ss ws (pc + 1) L (.int v :: st)) : V g X cs ss ws pc L (.ref a :: st) := by
  obtain ⟨p, l, e, R, s, m, args, below, meth, c, Q, A, n'⟩ := X
  obtain ⟨hx, hb, hml, hts, hown, ⟨hK, hNK, hZS⟩, hA, hn, hd1, hd2, hd3, hd4⟩ := C
  subst hn
  intro H locs ls hP hD hS hl
  exact va_alen hx hb hK hP q0 2 he rfl hv hdg (kk H locs ls hP hD hS hl)
theorem V_alenM {g : Gd} {X : Bd} {own : String} {cc : ByteArray} {n d mc ms cs ss pc : Nat} {ws : va_W} {L : List (Nat × Value)} {st : List Value} {a : Nat} {x : vp_A} {v : Int32} (C : Cx g X own cc n d mc ms) (q0 : Nat) (he : ws[q0]? = some (a, .inl (gM g, x))) (hv : Int32.ofNat x.1 = v) (hdg : decode cc pc = .ok (.arraylength, 1)) (kk : V g X cs ss ws (pc + 1) L (.int v :: st)) : V g X cs ss ws pc L (.ref a :: st) := by
  obtain ⟨p, l, e, R, s, m, args, below, meth, c, Q, A, n'⟩ := X
  obtain ⟨hx, hb, hml, hts, hown, ⟨hK, hNK, hZS⟩, hA, hn, hd1, hd2, hd3, hd4⟩ := C
  subst hn
  intro H locs ls hP hD hS hl
  exact va_alen hx hb hK hP q0 3 he rfl hv hdg (kk H locs ls hP hD hS hl)
theorem V_ifnonnull {g : Gd} {X : Bd} {own : String} {cc : ByteArray} {n d mc ms cs ss pc : Nat} {ws : va_W} {L : List (Nat × Value)} {st : List Value} {x : Nat} {off : Int} {tgt : Nat} (C : Cx g X own cc n d mc ms) (hdg : decode cc pc = .ok (.ifnonnull off, 3)) (ht : (pc : Int) + off = (tgt : Int)) (kk : V g X cs ss ws tgt L st) : V g X cs ss ws pc L (.ref x :: st) := by
  obtain ⟨p, l, e, R, s, m, args, below, meth, c, Q, A, n'⟩ := X
  obtain ⟨hx, hb, hml, hts, hown, ⟨hK, hNK, hZS⟩, hA, hn, hd1, hd2, hd3, hd4⟩ := C
  subst hn
  intro H locs ls hP hD hS hl
  exact lv_ifnonnull hx hb hdg ht (kk H locs ls hP hD hS hl)
theorem V_ifnull {g : Gd} {X : Bd} {own : String} {cc : ByteArray} {n d mc ms cs ss pc : Nat} {ws : va_W} {L : List (Nat × Value)} {st : List Value} {x : Nat} {off : Int} (C : Cx g X own cc n d mc ms) (hdg : decode cc pc = .ok (.ifnull off, 3)) (kk : V g X cs ss ws (pc + 3) L st) : V g X cs ss ws pc L (.ref x :: st) := by
  obtain ⟨p, l, e, R, s, m, args, below, meth, c, Q, A, n'⟩ := X
  obtain ⟨hx, hb, hml, hts, hown, ⟨hK, hNK, hZS⟩, hA, hn, hd1, hd2, hd3, hd4⟩ := C
  subst hn
  intro H locs ls hP hD hS hl
  exact lv_ifnull hx hb hdg (kk H locs ls hP hD hS hl)
