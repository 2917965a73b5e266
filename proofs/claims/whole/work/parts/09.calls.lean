
/-! calls of V -/
def CB (y : MethodName) (cb : ByteArray) (maxL : Nat) (rt : Option FieldType) (na : Nat) : Prop := Cond.initialized y.cls ∈ tg ∧ Cond.code y cb maxL rt ∈ tg ∧ (y.cls ≠ "java/lang/invoke/MethodHandle" ∧ y.cls ≠ "java/lang/invoke/VarHandle" ∧ (parseMethodDescriptor y.desc).map (fun d => d.parameters.length) = some na) ∧ maxL ≤ 21
def CV (own : String) (index : Nat) (y : MethodName) (cb : ByteArray) (maxL : Nat) (rt : Option FieldType) (na : Nat) : Prop := CB y cb maxL rt na ∧ Cond.methodLink own index y ∈ tg ∧ Cond.instanceMethod y ∈ tg ∧ Cond.selects y.cls y y ∈ tg
def CS (own : String) (index : Nat) (y : MethodName) (cb : ByteArray) (maxL : Nat) (rt : Option FieldType) (na : Nat) : Prop := CB y cb maxL rt na ∧ Cond.methodLink own index y ∈ tg ∧ Cond.static y ∈ tg
def CSN (own : String) (index : Nat) (y : MethodName) (cb : ByteArray) (maxL : Nat) (rt : Option FieldType) (na : Nat) : Prop := CB y cb maxL rt na ∧ (∃ host, Cond.methodLinkNest own index y host ∈ nw) ∧ Cond.static y ∈ tg
def CI (own : String) (index : Nat) (y : MethodName) (cb : ByteArray) (maxL : Nat) (rt : Option FieldType) (na : Nat) : Prop := CB y cb maxL rt na ∧ Cond.methodLink own index y ∈ tg ∧ Cond.instanceMethod y ∈ tg ∧ y.name = "<init>" ∧ rt = none
def CIN (own : String) (index : Nat) (y : MethodName) (cb : ByteArray) (maxL : Nat) (rt : Option FieldType) (na : Nat) : Prop := CB y cb maxL rt na ∧ (∃ host, Cond.methodLinkNest own index y host ∈ nw) ∧ Cond.instanceMethod y ∈ tg ∧ y.name = "<init>" ∧ rt = none
section
variable {R : Room} {s : State} {args : Array Value} {own : String} {index : Nat} {y : MethodName} {cb : ByteArray} {maxL : Nat} {rt : Option FieldType} {na d mc ms d0 : Nat}
theorem room_ok (hm : maxL ≤ 21) (h1 : d0 ≤ R.frames) (h2 : 40 * d0 ≤ R.locals) (hd : d + 1 ≤ d0) : (rmd d mc ms).frames + 1 ≤ R.frames ∧ 8 + (maxL + 11) + (rmd d mc ms).locals ≤ R.locals := by
  refine ⟨?_, ?_⟩
  · show d + 1 ≤ R.frames
    omega
  · show 8 + (maxL + 11) + 40 * d ≤ R.locals
    omega
theorem cb_of (hts : ∀ w ∈ tg, w.before args s = true) (h : CB y cb maxL rt na) (hl : (Cond.methodLink own index y).before args s = true) (h1 : d0 ≤ R.frames) (h2 : 40 * d0 ≤ R.locals) (hd : d + 1 ≤ d0) : CallB R s args own index y cb maxL rt (wsy y cb maxL rt) (rmd d mc ms) mc ms na := by
  obtain ⟨hi, hc, hy, hm⟩ := h
  exact callB_of na hts (good_tg hc) rfl rfl rfl (hts _ hi) hl hy (room_ok hm h1 h2 hd)
theorem cn_of (hts : ∀ w ∈ tg, w.before args s = true) (h : CB y cb maxL rt na) {host : String} (hl : va_Nw (.methodLinkNest own index y host) s) (h1 : d0 ≤ R.frames) (h2 : 40 * d0 ≤ R.locals) (hd : d + 1 ≤ d0) : va_CN R s args own index y host cb maxL rt (wsy y cb maxL rt) (rmd d mc ms) mc ms na := by
  obtain ⟨hi, hc, hy, hm⟩ := h
  exact va_cnB na hts (good_tg hc) rfl rfl rfl hl (hts _ hi) hy (room_ok hm h1 h2 hd)
end

theorem V_callVi {g : Gd} {X : Bd} {own : String} {cc : ByteArray} {n d mc ms cs ss pc : Nat} {ws : va_W} {L : List (Nat × Value)} {st : List Value} {b ci q0 : Nat} {fs : List Value} {T : u_T} {N : Nat} {y : MethodName} {cb : ByteArray} {maxL : Nat} {rt : Option FieldType} {na index d2 mc2 ms2 : Nat} {As rest : List Value} {wc wr : va_W} {post : Int32 → va_W → Prop} (C : Cx g X own cc n d mc ms) (K : Ki g y cb maxL rt d2 mc2 ms2 (.ref b :: As) wc post) (cw : CV own index y cb maxL rt na) (isC isR : List Nat) (hC : isC.map (fun i => ws[i]?) = wc.map some) (hR : isR.map (fun i => ws[i]?) = wr.map some) (hnC : va_nd isC = true) (hnR : va_nd isR = true) (hdis : ∀ i ∈ isR, i ∉ isC) (he : ws[q0]? = some (b, .inr (ci, fs))) (hcl : vwCl[ci]? = some (y.cls, T, N)) (hst : st = As.reverse ++ .ref b :: rest) (hna : As.length = na) (hrest : (rest.map fun v => v.category).sum ≤ 8) (hd : d2 + 1 ≤ d) (hcells : cs + mc2 ≤ mc ∧ ss + ms2 ≤ ms) (hdg : decode cc pc = .ok (.invokevirtual index, 3)) (kk : ∀ (r : Int32) (w1 : va_W), post r w1 → V g X (cs + mc2) (ss + ms2) (wr ++ w1) (pc + 3) L (.int r :: rest)) : V g X cs ss ws pc L st := by
  subst hst
  obtain ⟨p, l, e, R, s, m, args, below, meth, c, Q, A, n'⟩ := X
  obtain ⟨hx, hb, hml, hts, hown, hKX, hA, hn, hd1, hd2, hd3, hd4⟩ := C
  subst hn
  intro H locs ls hP hD hS hl
  have hPc := hP.sub (ws' := wc) isC (by have h2 := congrArg (List.filterMap id) hC; simpa [List.filterMap_map, Function.comp_def] using h2)
  have hDc := hD.sub (ws' := wc) isC hnC hC
  have hFc := va_free (wc := wc) hD hS hA isC hC
  obtain ⟨hB, hlk, hin, hse⟩ := cw
  have hrun := va_runV (As := As) (rest := rest) (H := H) (locs := locs) (cells := cs) (slots := ss) (below := below) (meth := meth) (e := e) (g := F0 m pc ls (As.reverse ++ .ref b :: rest)) ⟨hx, hb, hml, hown, hts⟩ (K l H.size) ⟨cb_of (d0 := d) hts hB (hts _ hlk) hd1 hd2 hd, hts _ hin, hts _ hse⟩ ⟨pre_blind _ _ _ _, va_recv hKX.1 hP hcl he, fun U hU hW => ⟨rfl, by rw [hU], by rw [hU]; exact hPc, hKX.call hS hFc hW hU, hDc.weaken (fun _ _ _ _ => trivial)⟩⟩ rfl hna hl.1 rfl (lv_room hrest) hdg ⟨by omega, by omega⟩
  refine va_calli hrun hS (fun q _ h => hFc q h) hFc (fun r w1 t H1 locs1 ht hvm hw hB hz1 hk1 hS1 => ?_)
  obtain ⟨hP1, hD1⟩ := hB
  rw [ht] at hP1
  obtain ⟨hP2, hD2⟩ := va_join (wr := wr) hP hD isC isR hC hR hnR hdis hk1 hFc hP1 hD1
  exact kk r w1 hw H1 locs1 ls hP2 hD2 hS1 hl
theorem V_callVv {g : Gd} {X : Bd} {own : String} {cc : ByteArray} {n d mc ms cs ss pc : Nat} {ws : va_W} {L : List (Nat × Value)} {st : List Value} {b ci q0 : Nat} {fs : List Value} {T : u_T} {N : Nat} {y : MethodName} {cb : ByteArray} {maxL : Nat} {rt : Option FieldType} {na index d2 mc2 ms2 : Nat} {As rest : List Value} {wc wr : va_W} {post : va_W → Prop} (C : Cx g X own cc n d mc ms) (K : Kv g y cb maxL rt d2 mc2 ms2 (.ref b :: As) wc post) (cw : CV own index y cb maxL rt na) (isC isR : List Nat) (hC : isC.map (fun i => ws[i]?) = wc.map some) (hR : isR.map (fun i => ws[i]?) = wr.map some) (hnC : va_nd isC = true) (hnR : va_nd isR = true) (hdis : ∀ i ∈ isR, i ∉ isC) (he : ws[q0]? = some (b, .inr (ci, fs))) (hcl : vwCl[ci]? = some (y.cls, T, N)) (hst : st = As.reverse ++ .ref b :: rest) (hna : As.length = na) (hrest : (rest.map fun v => v.category).sum ≤ 8) (hd : d2 + 1 ≤ d) (hcells : cs + mc2 ≤ mc ∧ ss + ms2 ≤ ms) (hdg : decode cc pc = .ok (.invokevirtual index, 3)) (kk : ∀ (w1 : va_W), post w1 → V g X (cs + mc2) (ss + ms2) (wr ++ w1) (pc + 3) L rest) : V g X cs ss ws pc L st := by
  subst hst
  obtain ⟨p, l, e, R, s, m, args, below, meth, c, Q, A, n'⟩ := X
  obtain ⟨hx, hb, hml, hts, hown, hKX, hA, hn, hd1, hd2, hd3, hd4⟩ := C
  subst hn
  intro H locs ls hP hD hS hl
  have hPc := hP.sub (ws' := wc) isC (by have h2 := congrArg (List.filterMap id) hC; simpa [List.filterMap_map, Function.comp_def] using h2)
  have hDc := hD.sub (ws' := wc) isC hnC hC
  have hFc := va_free (wc := wc) hD hS hA isC hC
  obtain ⟨hB, hlk, hin, hse⟩ := cw
  have hrun := va_runV (As := As) (rest := rest) (H := H) (locs := locs) (cells := cs) (slots := ss) (below := below) (meth := meth) (e := e) (g := F0 m pc ls (As.reverse ++ .ref b :: rest)) ⟨hx, hb, hml, hown, hts⟩ (K l H.size) ⟨cb_of (d0 := d) hts hB (hts _ hlk) hd1 hd2 hd, hts _ hin, hts _ hse⟩ ⟨pre_blind _ _ _ _, va_recv hKX.1 hP hcl he, fun U hU hW => ⟨rfl, by rw [hU], by rw [hU]; exact hPc, hKX.call hS hFc hW hU, hDc.weaken (fun _ _ _ _ => trivial)⟩⟩ rfl hna hl.1 rfl (lv_room hrest) hdg ⟨by omega, by omega⟩
  refine va_callv hrun hS (fun q _ h => hFc q h) hFc (fun w1 t H1 locs1 ht hvm hw hB hz1 hk1 hS1 => ?_)
  obtain ⟨hP1, hD1⟩ := hB
  rw [ht] at hP1
  obtain ⟨hP2, hD2⟩ := va_join (wr := wr) hP hD isC isR hC hR hnR hdis hk1 hFc hP1 hD1
  exact kk w1 hw H1 locs1 ls hP2 hD2 hS1 hl
theorem V_callVr {g : Gd} {X : Bd} {own : String} {cc : ByteArray} {n d mc ms cs ss pc : Nat} {ws : va_W} {L : List (Nat × Value)} {st : List Value} {b ci q0 : Nat} {fs : List Value} {T : u_T} {N : Nat} {y : MethodName} {cb : ByteArray} {maxL : Nat} {rt : Option FieldType} {na index d2 mc2 ms2 : Nat} {As rest : List Value} {wc wr : va_W} {post : Nat → va_W → Prop} (C : Cx g X own cc n d mc ms) (K : Kr g y cb maxL rt d2 mc2 ms2 (.ref b :: As) wc post) (cw : CV own index y cb maxL rt na) (isC isR : List Nat) (hC : isC.map (fun i => ws[i]?) = wc.map some) (hR : isR.map (fun i => ws[i]?) = wr.map some) (hnC : va_nd isC = true) (hnR : va_nd isR = true) (hdis : ∀ i ∈ isR, i ∉ isC) (he : ws[q0]? = some (b, .inr (ci, fs))) (hcl : vwCl[ci]? = some (y.cls, T, N)) (hst : st = As.reverse ++ .ref b :: rest) (hna : As.length = na) (hrest : (rest.map fun v => v.category).sum ≤ 8) (hd : d2 + 1 ≤ d) (hcells : cs + mc2 ≤ mc ∧ ss + ms2 ≤ ms) (hdg : decode cc pc = .ok (.invokevirtual index, 3)) (kk : ∀ (r : Nat) (w1 : va_W), post r w1 → V g X (cs + mc2) (ss + ms2) (wr ++ w1) (pc + 3) L (.ref r :: rest)) : V g X cs ss ws pc L st := by
  subst hst
  obtain ⟨p, l, e, R, s, m, args, below, meth, c, Q, A, n'⟩ := X
  obtain ⟨hx, hb, hml, hts, hown, hKX, hA, hn, hd1, hd2, hd3, hd4⟩ := C
  subst hn
  intro H locs ls hP hD hS hl
  have hPc := hP.sub (ws' := wc) isC (by have h2 := congrArg (List.filterMap id) hC; simpa [List.filterMap_map, Function.comp_def] using h2)
  have hDc := hD.sub (ws' := wc) isC hnC hC
  have hFc := va_free (wc := wc) hD hS hA isC hC
  obtain ⟨hB, hlk, hin, hse⟩ := cw
  have hrun := va_runV (As := As) (rest := rest) (H := H) (locs := locs) (cells := cs) (slots := ss) (below := below) (meth := meth) (e := e) (g := F0 m pc ls (As.reverse ++ .ref b :: rest)) ⟨hx, hb, hml, hown, hts⟩ (K l H.size) ⟨cb_of (d0 := d) hts hB (hts _ hlk) hd1 hd2 hd, hts _ hin, hts _ hse⟩ ⟨pre_blind _ _ _ _, va_recv hKX.1 hP hcl he, fun U hU hW => ⟨rfl, by rw [hU], by rw [hU]; exact hPc, hKX.call hS hFc hW hU, hDc.weaken (fun _ _ _ _ => trivial)⟩⟩ rfl hna hl.1 rfl (lv_room hrest) hdg ⟨by omega, by omega⟩
  refine va_callr hrun hS (fun q _ h => hFc q h) hFc (fun u ra t H1 locs1 ht hvm hw hB hz1 hk1 hS1 => ?_)
  obtain ⟨rfl, hP1, hD1⟩ := hB
  rw [ht] at hP1
  obtain ⟨hP2, hD2⟩ := va_join (wr := wr) hP hD isC isR hC hR hnR hdis hk1 hFc hP1 hD1
  exact kk u.1 u.2 hw H1 locs1 ls hP2 hD2 hS1 hl
theorem V_callSi {g : Gd} {X : Bd} {own : String} {cc : ByteArray} {n d mc ms cs ss pc : Nat} {ws : va_W} {L : List (Nat × Value)} {st : List Value} {y : MethodName} {cb : ByteArray} {maxL : Nat} {rt : Option FieldType} {na index d2 mc2 ms2 : Nat} {As rest : List Value} {wc wr : va_W} {post : Int32 → va_W → Prop} (C : Cx g X own cc n d mc ms) (K : Ki g y cb maxL rt d2 mc2 ms2 As wc post) (cw : CS own index y cb maxL rt na) (isC isR : List Nat) (hC : isC.map (fun i => ws[i]?) = wc.map some) (hR : isR.map (fun i => ws[i]?) = wr.map some) (hnC : va_nd isC = true) (hnR : va_nd isR = true) (hdis : ∀ i ∈ isR, i ∉ isC) (hst : st = As.reverse ++ rest) (hna : As.length = na) (hrest : (rest.map fun v => v.category).sum ≤ 8) (hd : d2 + 1 ≤ d) (hcells : cs + mc2 ≤ mc ∧ ss + ms2 ≤ ms) (hdg : decode cc pc = .ok (.invokestatic index, 3)) (kk : ∀ (r : Int32) (w1 : va_W), post r w1 → V g X (cs + mc2) (ss + ms2) (wr ++ w1) (pc + 3) L (.int r :: rest)) : V g X cs ss ws pc L st := by
  subst hst
  obtain ⟨p, l, e, R, s, m, args, below, meth, c, Q, A, n'⟩ := X
  obtain ⟨hx, hb, hml, hts, hown, hKX, hA, hn, hd1, hd2, hd3, hd4⟩ := C
  subst hn
  intro H locs ls hP hD hS hl
  have hPc := hP.sub (ws' := wc) isC (by have h2 := congrArg (List.filterMap id) hC; simpa [List.filterMap_map, Function.comp_def] using h2)
  have hDc := hD.sub (ws' := wc) isC hnC hC
  have hFc := va_free (wc := wc) hD hS hA isC hC
  obtain ⟨hB, hlk, hse⟩ := cw
  have hrun := va_runS (As := As) (rest := rest) (H := H) (locs := locs) (cells := cs) (slots := ss) (below := below) (meth := meth) (e := e) (g := F0 m pc ls (As.reverse ++ rest)) ⟨hx, hb, hml, hown, hts⟩ (K l H.size) ⟨cb_of (d0 := d) hts hB (hts _ hlk) hd1 hd2 hd, hts _ hse⟩ ⟨pre_blind _ _ _ _, fun U hU hW => ⟨rfl, by rw [hU], by rw [hU]; exact hPc, hKX.call hS hFc hW hU, hDc.weaken (fun _ _ _ _ => trivial)⟩⟩ rfl hna hl.1 rfl (lv_room hrest) hdg ⟨by omega, by omega⟩
  refine va_calli hrun hS (fun q _ h => hFc q h) hFc (fun r w1 t H1 locs1 ht hvm hw hB hz1 hk1 hS1 => ?_)
  obtain ⟨hP1, hD1⟩ := hB
  rw [ht] at hP1
  obtain ⟨hP2, hD2⟩ := va_join (wr := wr) hP hD isC isR hC hR hnR hdis hk1 hFc hP1 hD1
  exact kk r w1 hw H1 locs1 ls hP2 hD2 hS1 hl
theorem V_callSv {g : Gd} {X : Bd} {own : String} {cc : ByteArray} {n d mc ms cs ss pc : Nat} {ws : va_W} {L : List (Nat × Value)} {st : List Value} {y : MethodName} {cb : ByteArray} {maxL : Nat} {rt : Option FieldType} {na index d2 mc2 ms2 : Nat} {As rest : List Value} {wc wr : va_W} {post : va_W → Prop} (C : Cx g X own cc n d mc ms) (K : Kv g y cb maxL rt d2 mc2 ms2 As wc post) (cw : CS own index y cb maxL rt na) (isC isR : List Nat) (hC : isC.map (fun i => ws[i]?) = wc.map some) (hR : isR.map (fun i => ws[i]?) = wr.map some) (hnC : va_nd isC = true) (hnR : va_nd isR = true) (hdis : ∀ i ∈ isR, i ∉ isC) (hst : st = As.reverse ++ rest) (hna : As.length = na) (hrest : (rest.map fun v => v.category).sum ≤ 8) (hd : d2 + 1 ≤ d) (hcells : cs + mc2 ≤ mc ∧ ss + ms2 ≤ ms) (hdg : decode cc pc = .ok (.invokestatic index, 3)) (kk : ∀ (w1 : va_W), post w1 → V g X (cs + mc2) (ss + ms2) (wr ++ w1) (pc + 3) L rest) : V g X cs ss ws pc L st := by
  subst hst
  obtain ⟨p, l, e, R, s, m, args, below, meth, c, Q, A, n'⟩ := X
  obtain ⟨hx, hb, hml, hts, hown, hKX, hA, hn, hd1, hd2, hd3, hd4⟩ := C
  subst hn
  intro H locs ls hP hD hS hl
  have hPc := hP.sub (ws' := wc) isC (by have h2 := congrArg (List.filterMap id) hC; simpa [List.filterMap_map, Function.comp_def] using h2)
  have hDc := hD.sub (ws' := wc) isC hnC hC
  have hFc := va_free (wc := wc) hD hS hA isC hC
  obtain ⟨hB, hlk, hse⟩ := cw
  have hrun := va_runS (As := As) (rest := rest) (H := H) (locs := locs) (cells := cs) (slots := ss) (below := below) (meth := meth) (e := e) (g := F0 m pc ls (As.reverse ++ rest)) ⟨hx, hb, hml, hown, hts⟩ (K l H.size) ⟨cb_of (d0 := d) hts hB (hts _ hlk) hd1 hd2 hd, hts _ hse⟩ ⟨pre_blind _ _ _ _, fun U hU hW => ⟨rfl, by rw [hU], by rw [hU]; exact hPc, hKX.call hS hFc hW hU, hDc.weaken (fun _ _ _ _ => trivial)⟩⟩ rfl hna hl.1 rfl (lv_room hrest) hdg ⟨by omega, by omega⟩
  refine va_callv hrun hS (fun q _ h => hFc q h) hFc (fun w1 t H1 locs1 ht hvm hw hB hz1 hk1 hS1 => ?_)
  obtain ⟨hP1, hD1⟩ := hB
  rw [ht] at hP1
  obtain ⟨hP2, hD2⟩ := va_join (wr := wr) hP hD isC isR hC hR hnR hdis hk1 hFc hP1 hD1
  exact kk w1 hw H1 locs1 ls hP2 hD2 hS1 hl
theorem V_callNi {g : Gd} {X : Bd} {own : String} {cc : ByteArray} {n d mc ms cs ss pc : Nat} {ws : va_W} {L : List (Nat × Value)} {st : List Value} {y : MethodName} {cb : ByteArray} {maxL : Nat} {rt : Option FieldType} {na index d2 mc2 ms2 : Nat} {As rest : List Value} {wc wr : va_W} {post : Int32 → va_W → Prop} (C : Cx g X own cc n d mc ms) (K : Ki g y cb maxL rt d2 mc2 ms2 As wc post) (cw : CSN own index y cb maxL rt na) (isC isR : List Nat) (hC : isC.map (fun i => ws[i]?) = wc.map some) (hR : isR.map (fun i => ws[i]?) = wr.map some) (hnC : va_nd isC = true) (hnR : va_nd isR = true) (hdis : ∀ i ∈ isR, i ∉ isC) (hst : st = As.reverse ++ rest) (hna : As.length = na) (hrest : (rest.map fun v => v.category).sum ≤ 8) (hd : d2 + 1 ≤ d) (hcells : cs + mc2 ≤ mc ∧ ss + ms2 ≤ ms) (hdg : decode cc pc = .ok (.invokestatic index, 3)) (kk : ∀ (r : Int32) (w1 : va_W), post r w1 → V g X (cs + mc2) (ss + ms2) (wr ++ w1) (pc + 3) L (.int r :: rest)) : V g X cs ss ws pc L st := by
  subst hst
  obtain ⟨p, l, e, R, s, m, args, below, meth, c, Q, A, n'⟩ := X
  obtain ⟨hx, hb, hml, hts, hown, hKX, hA, hn, hd1, hd2, hd3, hd4⟩ := C
  subst hn
  intro H locs ls hP hD hS hl
  have hPc := hP.sub (ws' := wc) isC (by have h2 := congrArg (List.filterMap id) hC; simpa [List.filterMap_map, Function.comp_def] using h2)
  have hDc := hD.sub (ws' := wc) isC hnC hC
  have hFc := va_free (wc := wc) hD hS hA isC hC
  obtain ⟨hB, ⟨host, hlk⟩, hse⟩ := cw
  have hrun := va_runSN (host := host) (As := As) (rest := rest) (H := H) (locs := locs) (cells := cs) (slots := ss) (below := below) (meth := meth) (e := e) (g := F0 m pc ls (As.reverse ++ rest)) ⟨hx, hb, hml, hown, hts⟩ (K l H.size) ⟨cn_of (d0 := d) hts hB (hKX.2.1 _ hlk) hd1 hd2 hd, hts _ hse, trivial⟩ ⟨pre_blind _ _ _ _, fun U hU hW => ⟨rfl, by rw [hU], by rw [hU]; exact hPc, hKX.call hS hFc hW hU, hDc.weaken (fun _ _ _ _ => trivial)⟩⟩ rfl hna hl.1 rfl (lv_room hrest) hdg ⟨by omega, by omega⟩
  refine va_calli hrun hS (fun q _ h => hFc q h) hFc (fun r w1 t H1 locs1 ht hvm hw hB hz1 hk1 hS1 => ?_)
  obtain ⟨hP1, hD1⟩ := hB
  rw [ht] at hP1
  obtain ⟨hP2, hD2⟩ := va_join (wr := wr) hP hD isC isR hC hR hnR hdis hk1 hFc hP1 hD1
  exact kk r w1 hw H1 locs1 ls hP2 hD2 hS1 hl
theorem V_callNv {g : Gd} {X : Bd} {own : String} {cc : ByteArray} {n d mc ms cs ss pc : Nat} {ws : va_W} {L : List (Nat × Value)} {st : List Value} {y : MethodName} {cb : ByteArray} {maxL : Nat} {rt : Option FieldType} {na index d2 mc2 ms2 : Nat} {As rest : List Value} {wc wr : va_W} {post : va_W → Prop} (C : Cx g X own cc n d mc ms) (K : Kv g y cb maxL rt d2 mc2 ms2 As wc post) (cw : CSN own index y cb maxL rt na) (isC isR : List Nat) (hC : isC.map (fun i => ws[i]?) = wc.map some) (hR : isR.map (fun i => ws[i]?) = wr.map some) (hnC : va_nd isC = true) (hnR : va_nd isR = true) (hdis : ∀ i ∈ isR, i ∉ isC) (hst : st = As.reverse ++ rest) (hna : As.length = na) (hrest : (rest.map fun v => v.category).sum ≤ 8) (hd : d2 + 1 ≤ d) (hcells : cs + mc2 ≤ mc ∧ ss + ms2 ≤ ms) (hdg : decode cc pc = .ok (.invokestatic index, 3)) (kk : ∀ (w1 : va_W), post w1 → V g X (cs + mc2) (ss + ms2) (wr ++ w1) (pc + 3) L rest) : V g X cs ss ws pc L st := by
  subst hst
  obtain ⟨p, l, e, R, s, m, args, below, meth, c, Q, A, n'⟩ := X
  obtain ⟨hx, hb, hml, hts, hown, hKX, hA, hn, hd1, hd2, hd3, hd4⟩ := C
  subst hn
  intro H locs ls hP hD hS hl
  have hPc := hP.sub (ws' := wc) isC (by have h2 := congrArg (List.filterMap id) hC; simpa [List.filterMap_map, Function.comp_def] using h2)
  have hDc := hD.sub (ws' := wc) isC hnC hC
  have hFc := va_free (wc := wc) hD hS hA isC hC
  obtain ⟨hB, ⟨host, hlk⟩, hse⟩ := cw
  have hrun := va_runSN (host := host) (As := As) (rest := rest) (H := H) (locs := locs) (cells := cs) (slots := ss) (below := below) (meth := meth) (e := e) (g := F0 m pc ls (As.reverse ++ rest)) ⟨hx, hb, hml, hown, hts⟩ (K l H.size) ⟨cn_of (d0 := d) hts hB (hKX.2.1 _ hlk) hd1 hd2 hd, hts _ hse, trivial⟩ ⟨pre_blind _ _ _ _, fun U hU hW => ⟨rfl, by rw [hU], by rw [hU]; exact hPc, hKX.call hS hFc hW hU, hDc.weaken (fun _ _ _ _ => trivial)⟩⟩ rfl hna hl.1 rfl (lv_room hrest) hdg ⟨by omega, by omega⟩
  refine va_callv hrun hS (fun q _ h => hFc q h) hFc (fun w1 t H1 locs1 ht hvm hw hB hz1 hk1 hS1 => ?_)
  obtain ⟨hP1, hD1⟩ := hB
  rw [ht] at hP1
  obtain ⟨hP2, hD2⟩ := va_join (wr := wr) hP hD isC isR hC hR hnR hdis hk1 hFc hP1 hD1
  exact kk w1 hw H1 locs1 ls hP2 hD2 hS1 hl
theorem V_callIv {g : Gd} {X : Bd} {own : String} {cc : ByteArray} {n d mc ms cs ss pc : Nat} {ws : va_W} {L : List (Nat × Value)} {st : List Value} {b : Nat} {y : MethodName} {cb : ByteArray} {maxL : Nat} {rt : Option FieldType} {na index d2 mc2 ms2 : Nat} {As rest : List Value} {wc wr : va_W} {post : va_W → Prop} (C : Cx g X own cc n d mc ms) (K : Kv g y cb maxL rt d2 mc2 ms2 (.ref b :: As) wc post) (cw : CI own index y cb maxL rt na) (isC isR : List Nat) (hC : isC.map (fun i => ws[i]?) = wc.map some) (hR : isR.map (fun i => ws[i]?) = wr.map some) (hnC : va_nd isC = true) (hnR : va_nd isR = true) (hdis : ∀ i ∈ isR, i ∉ isC) (hst : st = As.reverse ++ .ref b :: rest) (hna : As.length = na) (hrest : (rest.map fun v => v.category).sum ≤ 8) (hd : d2 + 1 ≤ d) (hcells : cs + mc2 ≤ mc ∧ ss + ms2 ≤ ms) (hdg : decode cc pc = .ok (.invokespecial index, 3)) (kk : ∀ (w1 : va_W), post w1 → V g X (cs + mc2) (ss + ms2) (wr ++ w1) (pc + 3) L rest) : V g X cs ss ws pc L st := by
  subst hst
  obtain ⟨p, l, e, R, s, m, args, below, meth, c, Q, A, n'⟩ := X
  obtain ⟨hx, hb, hml, hts, hown, hKX, hA, hn, hd1, hd2, hd3, hd4⟩ := C
  subst hn
  intro H locs ls hP hD hS hl
  have hPc := hP.sub (ws' := wc) isC (by have h2 := congrArg (List.filterMap id) hC; simpa [List.filterMap_map, Function.comp_def] using h2)
  have hDc := hD.sub (ws' := wc) isC hnC hC
  have hFc := va_free (wc := wc) hD hS hA isC hC
  obtain ⟨hB, hlk, hin, hnm, rfl⟩ := cw
  have hrun := va_runI (As := As) (b := b) (rest := rest) (H := H) (locs := locs) (cells := cs) (slots := ss) (below := below) (meth := meth) (e := e) (g := F0 m pc ls (As.reverse ++ .ref b :: rest)) ⟨hx, hb, hml, hown, hts⟩ (K l H.size) ⟨cb_of (d0 := d) hts hB (hts _ hlk) hd1 hd2 hd, hnm, hts _ hin⟩ ⟨pre_blind _ _ _ _, fun U hU hW => ⟨rfl, by rw [hU], by rw [hU]; exact hPc, hKX.call hS hFc hW hU, hDc.weaken (fun _ _ _ _ => trivial)⟩⟩ rfl hna hl.1 rfl (lv_room hrest) hdg ⟨by omega, by omega⟩
  refine va_callv hrun hS (fun q _ h => hFc q h) hFc (fun w1 t H1 locs1 ht hvm hw hB hz1 hk1 hS1 => ?_)
  obtain ⟨hP1, hD1⟩ := hB
  rw [ht] at hP1
  obtain ⟨hP2, hD2⟩ := va_join (wr := wr) hP hD isC isR hC hR hnR hdis hk1 hFc hP1 hD1
  exact kk w1 hw H1 locs1 ls hP2 hD2 hS1 hl
theorem V_callJv {g : Gd} {X : Bd} {own : String} {cc : ByteArray} {n d mc ms cs ss pc : Nat} {ws : va_W} {L : List (Nat × Value)} {st : List Value} {b : Nat} {y : MethodName} {cb : ByteArray} {maxL : Nat} {rt : Option FieldType} {na index d2 mc2 ms2 : Nat} {As rest : List Value} {wc wr : va_W} {post : va_W → Prop} (C : Cx g X own cc n d mc ms) (K : Kv g y cb maxL rt d2 mc2 ms2 (.ref b :: As) wc post) (cw : CIN own index y cb maxL rt na) (isC isR : List Nat) (hC : isC.map (fun i => ws[i]?) = wc.map some) (hR : isR.map (fun i => ws[i]?) = wr.map some) (hnC : va_nd isC = true) (hnR : va_nd isR = true) (hdis : ∀ i ∈ isR, i ∉ isC) (hst : st = As.reverse ++ .ref b :: rest) (hna : As.length = na) (hrest : (rest.map fun v => v.category).sum ≤ 8) (hd : d2 + 1 ≤ d) (hcells : cs + mc2 ≤ mc ∧ ss + ms2 ≤ ms) (hdg : decode cc pc = .ok (.invokespecial index, 3)) (kk : ∀ (w1 : va_W), post w1 → V g X (cs + mc2) (ss + ms2) (wr ++ w1) (pc + 3) L rest) : V g X cs ss ws pc L st := by
  subst hst
  obtain ⟨p, l, e, R, s, m, args, below, meth, c, Q, A, n'⟩ := X
  obtain ⟨hx, hb, hml, hts, hown, hKX, hA, hn, hd1, hd2, hd3, hd4⟩ := C
  subst hn
  intro H locs ls hP hD hS hl
  have hPc := hP.sub (ws' := wc) isC (by have h2 := congrArg (List.filterMap id) hC; simpa [List.filterMap_map, Function.comp_def] using h2)
  have hDc := hD.sub (ws' := wc) isC hnC hC
  have hFc := va_free (wc := wc) hD hS hA isC hC
  obtain ⟨hB, ⟨host, hlk⟩, hin, hnm, rfl⟩ := cw
  have hrun := va_runIN (host := host) (As := As) (b := b) (rest := rest) (H := H) (locs := locs) (cells := cs) (slots := ss) (below := below) (meth := meth) (e := e) (g := F0 m pc ls (As.reverse ++ .ref b :: rest)) ⟨hx, hb, hml, hown, hts⟩ (K l H.size) ⟨cn_of (d0 := d) hts hB (hKX.2.1 _ hlk) hd1 hd2 hd, hnm, hts _ hin⟩ ⟨pre_blind _ _ _ _, fun U hU hW => ⟨rfl, by rw [hU], by rw [hU]; exact hPc, hKX.call hS hFc hW hU, hDc.weaken (fun _ _ _ _ => trivial)⟩⟩ rfl hna hl.1 rfl (lv_room hrest) hdg ⟨by omega, by omega⟩
  refine va_callv hrun hS (fun q _ h => hFc q h) hFc (fun w1 t H1 locs1 ht hvm hw hB hz1 hk1 hS1 => ?_)
  obtain ⟨hP1, hD1⟩ := hB
  rw [ht] at hP1
  obtain ⟨hP2, hD2⟩ := va_join (wr := wr) hP hD isC isR hC hR hnR hdis hk1 hFc hP1 hD1
  exact kk w1 hw H1 locs1 ls hP2 hD2 hS1 hl
theorem V_max {g : Gd} {X : Bd} {own : String} {cc : ByteArray} {n d mc ms cs ss pc : Nat} {ws : va_W} {L : List (Nat × Value)} {st : List Value} {index : Nat} {x y : Int32} (C : Cx g X own cc n d mc ms) (hlink : Cond.methodLink own index Lib.Math.max.name ∈ tg) (hst2 : Cond.static Lib.Math.max.name ∈ tg) (hini : Cond.initialized "java/lang/Math" ∈ tg) (hco : Cond.code Lib.Math.max.name Lib.Math.max.code 2 (some .int) ∈ tg) (hrest : (st.map fun v => v.category).sum ≤ 8) (hd : 1 ≤ d) (hcs : cs ≤ mc ∧ ss ≤ ms) (hdg : decode cc pc = .ok (.invokestatic index, 3)) (kk : V g X cs ss ws (pc + 3) L (.int (if x < y then y else x) :: st)) : V g X cs ss ws pc L (.int y :: .int x :: st) := by
  obtain ⟨p, l, e, R, s, m, args, below, meth, c, Q, A, n'⟩ := X
  obtain ⟨hx, hb, hml, hts, hown, ⟨hK, hNK, hZS⟩, hA, hn, hd1, hd2, hd3, hd4⟩ := C
  subst hn
  intro H locs ls hP hD hS hl
  exact va_mmax hx hb (hml.trans hl.1.symm) hown (hts _ hlink) (hts _ hst2) (hts _ hini) (hts _ hco) (by omega) (by omega) (by omega) (by omega) hdg (kk H locs ls hP hD hS hl)
theorem V_min {g : Gd} {X : Bd} {own : String} {cc : ByteArray} {n d mc ms cs ss pc : Nat} {ws : va_W} {L : List (Nat × Value)} {st : List Value} {index : Nat} {x y : Int32} (C : Cx g X own cc n d mc ms) (hlink : Cond.methodLink own index Lib.Math.min.name ∈ tg) (hst2 : Cond.static Lib.Math.min.name ∈ tg) (hini : Cond.initialized "java/lang/Math" ∈ tg) (hco : Cond.code Lib.Math.min.name Lib.Math.min.code 2 (some .int) ∈ tg) (hrest : (st.map fun v => v.category).sum ≤ 8) (hd : 1 ≤ d) (hcs : cs ≤ mc ∧ ss ≤ ms) (hdg : decode cc pc = .ok (.invokestatic index, 3)) (kk : V g X cs ss ws (pc + 3) L (.int (if y < x then y else x) :: st)) : V g X cs ss ws pc L (.int y :: .int x :: st) := by
  obtain ⟨p, l, e, R, s, m, args, below, meth, c, Q, A, n'⟩ := X
  obtain ⟨hx, hb, hml, hts, hown, ⟨hK, hNK, hZS⟩, hA, hn, hd1, hd2, hd3, hd4⟩ := C
  subst hn
  intro H locs ls hP hD hS hl
  exact va_mmin hx hb (hml.trans hl.1.symm) hown (hts _ hlink) (hts _ hst2) (hts _ hini) (hts _ hco) (by omega) (by omega) (by omega) (by omega) hdg (kk H locs ls hP hD hS hl)
theorem V_copy {g : Gd} {X : Bd} {own : String} {cc : ByteArray} {n d mc ms cs ss pc : Nat} {ws : va_W} {L : List (Nat × Value)} {st : List Value} {index a0 a n0 n1 : Nat} {f h2 : Nat → Int32} {sp dp nn : Int32} {ws2 : va_W} (C : Cx g X own cc n d mc ms) (q0 q1 : Nat) (hlink : Cond.methodLink own index arraycopyName ∈ tg) (hnat : Cond.native arraycopyName ∈ tg) (hstat : Cond.static arraycopyName ∈ tg) (hini : Cond.initialized "java/lang/System" ∈ tg) (ha0 : ws[q0]? = some (a0, .inl (gI g, n0, .inl f))) (ha1 : ws[q1]? = some (a, .inl (gI g, n1, .inl h2))) (h1 : ¬ sp < 0) (h20 : ¬ dp < 0) (h3 : ¬ nn < 0) (h4 : sp.toNatClampNeg + nn.toNatClampNeg ≤ n0) (h5 : dp.toNatClampNeg + nn.toNatClampNeg ≤ n1) (hrest : (st.map fun v => v.category).sum ≤ 8) (hd : 1 ≤ d) (hdg : decode cc pc = .ok (.invokestatic index, 3)) (hw : ws.set q1 (a, .inl (gI g, n1, .inl (va_cpy f h2 sp.toNatClampNeg dp.toNatClampNeg nn.toNatClampNeg))) = ws2) (kk : V g X cs ss ws2 (pc + 3) L st) : V g X cs ss ws pc L (.int nn :: .int dp :: .ref a :: .int sp :: .ref a0 :: st) := by
  obtain ⟨p, l, e, R, s, m, args, below, meth, c, Q, A, n'⟩ := X
  obtain ⟨hx, hb, hml, hts, hown, ⟨hK, hNK, hZS⟩, hA, hn, hd1, hd2, hd3, hd4⟩ := C
  subst hn
  subst hw
  intro H locs ls hP hD hS hl
  have hnf : nativeFrameWords "java/lang/System" "arraycopy" 5 ≤ 20 := by decide +kernel
  exact va_copyi hx hb (hml.trans hl.1.symm) hown (hts _ hlink) (hts _ hnat) (hts _ hstat) (hts _ hini) hK hP hD hS q0 q1 0 0 ha0 ha1 rfl rfl rfl h1 h20 h3 h4 h5 (fun _ _ => rfl) (by omega) (by omega) hdg (fun H1 locs1 hP1 hD1 hS1 => kk H1 locs1 ls hP1 hD1 hS1 hl)
theorem V_new {g : Gd} {X : Bd} {own : String} {cc : ByteArray} {n d mc ms cs ss pc : Nat} {ws : va_W} {L : List (Nat × Value)} {st : List Value} {Cn : String} {T : u_T} {N ci index : Nat} {fs : List Value} (C : Cx g X own cc n d mc ms) (hc : vwCl[ci]? = some (Cn, T, N)) (hin2 : ∀ w ∈ u_ws Cn T N, w ∈ tg) (ty : Nat → FieldType) (hty : ∀ k, k < N → parseFieldDescriptor (T k).2.2.1 = some (ty k)) (hcl : Cond.classLink own index Cn ∈ tg) (hinst : Cond.instantiable Cn N ∈ tg) (hini : Cond.initialized Cn ∈ tg) (hfs : ∀ j, j < N → defaultValue (ty j) = vp_V fs j) (hcs : cs + 1 ≤ mc ∧ ss + N ≤ ms) (hdg : decode cc pc = .ok (.new index, 3)) (kk : ∀ q : Nat, V g X (cs + 1) (ss + N) (ws ++ [(q, .inr (ci, fs))]) (pc + 3) L (.ref q :: st)) : V g X cs ss ws pc L st := by
  obtain ⟨p, l, e, R, s, m, args, below, meth, c, Q, A, n'⟩ := X
  obtain ⟨hx, hb, hml, hts, hown, ⟨hK, hNK, hZS⟩, hA, hn, hd1, hd2, hd3, hd4⟩ := C
  subst hn
  intro H locs ls hP hD hS hl
  exact va_new hx hb hts hin2 ty hty hown (hts _ hcl) (hts _ hinst) (hts _ hini) hK hP hD hS hA hc hfs (by omega) (by omega) hdg (fun q H1 hP1 hD1 hS1 => kk q H1 locs ls hP1 hD1 hS1 hl)
theorem V_newaI {g : Gd} {X : Bd} {own : String} {cc : ByteArray} {n d mc ms cs ss pc : Nat} {ws : va_W} {L : List (Nat × Value)} {st : List Value} {nn : Int32} {N : Nat} (C : Cx g X own cc n d mc ms) (harr : Cond.arrayClass .int ∈ tg) (hn0 : ¬ nn < 0) (hN : nn.toNatClampNeg = N) (hby : N ≤ 65536) (hcs : cs + 1 ≤ mc ∧ ss + N ≤ ms) (hdg : decode cc pc = .ok (.newarray .int, 2)) (kk : ∀ q : Nat, V g X (cs + 1) (ss + N) (ws ++ [(q, .inl (gI g, N, .inl (fun _ => 0)))]) (pc + 2) L (.ref q :: st)) : V g X cs ss ws pc L (.int nn :: st) := by
  obtain ⟨p, l, e, R, s, m, args, below, meth, c, Q, A, n'⟩ := X
  obtain ⟨hx, hb, hml, hts, hown, ⟨hK, hNK, hZS⟩, hA, hn, hd1, hd2, hd3, hd4⟩ := C
  subst hn
  intro H locs ls hP hD hS hl
  refine va_newa (atype := .int) (ty := .int) (a0 := (N, .inl (fun _ => 0))) hx hb (hts _ harr) rfl hK hP hD hS hA (fun cA => rfl) hn0 hN (by show N * 4 ≤ 536870912; omega) (by omega) (by omega) hdg (fun q cA H1 hK1 hP1 hD1 hS1 => ?_)
  have h1 := (hK1.2 4 (cA, .int) rfl).2
  have h2 := (hK.2 0 _ rfl).2
  have h3 : some cA = some (gI g) := h1.symm.trans h2
  cases h3
  exact kk q H1 locs ls hP1 hD1 hS1 hl
theorem V_newaC {g : Gd} {X : Bd} {own : String} {cc : ByteArray} {n d mc ms cs ss pc : Nat} {ws : va_W} {L : List (Nat × Value)} {st : List Value} {nn : Int32} {N : Nat} (C : Cx g X own cc n d mc ms) (harr : Cond.arrayClass .char ∈ tg) (hn0 : ¬ nn < 0) (hN : nn.toNatClampNeg = N) (hby : N ≤ 65536) (hcs : cs + 1 ≤ mc ∧ ss + N ≤ ms) (hdg : decode cc pc = .ok (.newarray .char, 2)) (kk : ∀ q : Nat, V g X (cs + 1) (ss + N) (ws ++ [(q, .inl (gC g, N, .inl (fun _ => 0)))]) (pc + 2) L (.ref q :: st)) : V g X cs ss ws pc L (.int nn :: st) := by
  obtain ⟨p, l, e, R, s, m, args, below, meth, c, Q, A, n'⟩ := X
  obtain ⟨hx, hb, hml, hts, hown, ⟨hK, hNK, hZS⟩, hA, hn, hd1, hd2, hd3, hd4⟩ := C
  subst hn
  intro H locs ls hP hD hS hl
  refine va_newa (atype := .char) (ty := .char) (a0 := (N, .inl (fun _ => 0))) hx hb (hts _ harr) rfl hK hP hD hS hA (fun cA => rfl) hn0 hN (by show N * 2 ≤ 536870912; omega) (by omega) (by omega) hdg (fun q cA H1 hK1 hP1 hD1 hS1 => ?_)
  have h1 := (hK1.2 4 (cA, .char) rfl).2
  have h2 := (hK.2 1 _ rfl).2
  have h3 : some cA = some (gC g) := h1.symm.trans h2
  cases h3
  exact kk q H1 locs ls hP1 hD1 hS1 hl
theorem V_newaZ {g : Gd} {X : Bd} {own : String} {cc : ByteArray} {n d mc ms cs ss pc : Nat} {ws : va_W} {L : List (Nat × Value)} {st : List Value} {nn : Int32} {N : Nat} (C : Cx g X own cc n d mc ms) (harr : Cond.arrayClass .boolean ∈ tg) (hn0 : ¬ nn < 0) (hN : nn.toNatClampNeg = N) (hby : N ≤ 65536) (hcs : cs + 1 ≤ mc ∧ ss + N ≤ ms) (hdg : decode cc pc = .ok (.newarray .boolean, 2)) (kk : ∀ q : Nat, V g X (cs + 1) (ss + N) (ws ++ [(q, .inl (gZ g, N, .inl (fun _ => 0)))]) (pc + 2) L (.ref q :: st)) : V g X cs ss ws pc L (.int nn :: st) := by
  obtain ⟨p, l, e, R, s, m, args, below, meth, c, Q, A, n'⟩ := X
  obtain ⟨hx, hb, hml, hts, hown, ⟨hK, hNK, hZS⟩, hA, hn, hd1, hd2, hd3, hd4⟩ := C
  subst hn
  intro H locs ls hP hD hS hl
  refine va_newa (atype := .boolean) (ty := .boolean) (a0 := (N, .inl (fun _ => 0))) hx hb (hts _ harr) rfl hK hP hD hS hA (fun cA => rfl) hn0 hN (by show N * 1 ≤ 536870912; omega) (by omega) (by omega) hdg (fun q cA H1 hK1 hP1 hD1 hS1 => ?_)
  have h1 := (hK1.2 4 (cA, .boolean) rfl).2
  have h2 := (hK.2 2 _ rfl).2
  have h3 : some cA = some (gZ g) := h1.symm.trans h2
  cases h3
  exact kk q H1 locs ls hP1 hD1 hS1 hl
theorem V_newq {g : Gd} {X : Bd} {own : String} {cc : ByteArray} {n d mc ms cs ss pc : Nat} {ws : va_W} {L : List (Nat × Value)} {st : List Value} {index : Nat} {nn : Int32} {N : Nat} (C : Cx g X own cc n d mc ms) (hcl : Cond.classLink own index "FareDrops$Meter" ∈ tg) (hn0 : ¬ nn < 0) (hN : nn.toNatClampNeg = N) (hby : N ≤ 65536) (hcs : cs + 1 ≤ mc ∧ ss + N ≤ ms) (hdg : decode cc pc = .ok (.anewarray index, 3)) (kk : ∀ q : Nat, V g X (cs + 1) (ss + N) (ws ++ [(q, .inl (gM g, N, .inr (.inr (.inr (.inr (fun _ => none))))))]) (pc + 3) L (.ref q :: st)) : V g X cs ss ws pc L (.int nn :: st) := by
  obtain ⟨p, l, e, R, s, m, args, below, meth, c, Q, A, n'⟩ := X
  obtain ⟨hx, hb, hml, hts, hown, ⟨hK, hNK, hZS⟩, hA, hn, hd1, hd2, hd3, hd4⟩ := C
  subst hn
  intro H locs ls hP hD hS hl
  refine va_newq (C := "FareDrops$Meter") hx hb hown (hts _ hcl) hZS.2.2.2 hK hP hD hS hA hn0 hN (by omega) (by omega) (by omega) hdg (fun q cA H1 hK1 hP1 hD1 hS1 => ?_)
  obtain ⟨kA, comp, -, -, -, h1⟩ := (hK1.2 4 (cA, .object "FareDrops$Meter") rfl).2
  obtain ⟨kB, comp2, -, -, -, h2⟩ := (hK.2 3 _ rfl).2
  have h3 : some cA = some (gM g) := h1.symm.trans h2
  cases h3
  exact kk q H1 locs ls hP1 hD1 hS1 hl
theorem V_obj {g : Gd} {X : Bd} {own : String} {cc : ByteArray} {n d mc ms cs ss pc : Nat} {ws : va_W} {L : List (Nat × Value)} {st : List Value} {index a : Nat} (C : Cx g X own cc n d mc ms) (hlink : Cond.methodLink own index Lib.objectInit ∈ tg) (hinst : Cond.instanceMethod Lib.objectInit ∈ tg) (hcode : Cond.code Lib.objectInit ⟨#[0xb1]⟩ 1 none ∈ tg) (hrest : (st.map fun v => v.category).sum ≤ 8) (hd : 1 ≤ d) (hdg : decode cc pc = .ok (.invokespecial index, 3)) (kk : V g X cs ss ws (pc + 3) L st) : V g X cs ss ws pc L (.ref a :: st) := by
  obtain ⟨p, l, e, R, s, m, args, below, meth, c, Q, A, n'⟩ := X
  obtain ⟨hx, hb, hml, hts, hown, ⟨hK, hNK, hZS⟩, hA, hn, hd1, hd2, hd3, hd4⟩ := C
  subst hn
  intro H locs ls hP hD hS hl
  refine W.objInit (g := F0 m pc ls (.ref a :: st)) hx hb hown (hts _ hlink) (hts _ hinst) (hts _ hcode) rfl (hl.1.trans hml.symm) rfl hdg (by omega) ?_ (kk H locs ls hP hD hS hl)
  show 2 * 0 + _ + 12 ≤ _
  omega
