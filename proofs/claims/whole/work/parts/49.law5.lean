
set_option maxRecDepth 100000 in
set_option maxHeartbeats 1000000 in
theorem kx_start {s : State} {args : Array Value} (hts : ∀ w ∈ lw_tbl, w.before args s = true) (hgv : (Jvm.Cond.and given_1 narrow_1).before args s = true) : ∃ g : Gd, KX g (fun q : Nat => s.heap.size ≤ q) s s.heap := by
  have htg : ∀ w ∈ tg, w.before args s = true := fun w hw => hts w (List.mem_filter.mp hw).1
  have hs := flat_of_before _ hgv
  have hA : ∀ a : Nat, a < s.heap.size → ¬ s.heap.size ≤ a := fun a h => Nat.not_le.mpr h
  obtain ⟨c0, i0, k0⟩ := u_known (C := RX0) (T := TX0) (N := 11) (n := 11) htg in_X0 (htg _ ins_X0)
  obtain ⟨c1, i1, k1⟩ := u_known (C := RX1) (T := TX1) (N := 3) (n := 3) htg in_X1 (htg _ ins_X1)
  obtain ⟨c2, i2, k2⟩ := u_known (C := RX2) (T := TX2) (N := 3) (n := 3) htg in_X2 (htg _ ins_X2)
  obtain ⟨c3, i3, k3⟩ := u_known (C := RX3) (T := TX3) (N := 8) (n := 8) htg in_X3 (htg _ ins_X3)
  obtain ⟨c4, i4, k4⟩ := u_known (C := RX4) (T := TX4) (N := 4) (n := 4) htg in_X4 (htg _ ins_X4)
  obtain ⟨c5, i5, k5⟩ := u_known (C := RX5) (T := TX5) (N := 2) (n := 2) htg in_X5 (htg _ ins_X5)
  obtain ⟨c6, i6, k6⟩ := u_known (C := RX6) (T := TX6) (N := 11) (n := 11) htg in_X6 (htg _ ins_X6)
  obtain ⟨c7, i7, k7⟩ := u_known (C := RX7) (T := TX7) (N := 4) (n := 4) htg in_X7 (htg _ ins_X7)
  obtain ⟨c8, i8, k8⟩ := u_known (C := RX8) (T := TX8) (N := 2) (n := 2) htg in_X8 (htg _ ins_X8)
  obtain ⟨c9, i9, k9⟩ := u_known (C := RX9) (T := TX9) (N := 6) (n := 6) htg in_X9 (htg _ ins_X9)
  obtain ⟨c10, i10, k10⟩ := u_known (C := RX10) (T := TX10) (N := 12) (n := 12) htg in_X10 (htg _ ins_X10)
  have hcl : ∃ (dC : Nat → ClassId) (dI : Nat → Nat → Nat), ∀ (k : Nat) (q : vw_C), vwCl[k]? = some q → u_Kn s q.1 q.2.1 q.2.2 (dC k) (dI k) := by
    refine ⟨fun k => if k = 0 then c0 else if k = 1 then c1 else if k = 2 then c2 else if k = 3 then c3 else if k = 4 then c4 else if k = 5 then c5 else if k = 6 then c6 else if k = 7 then c7 else if k = 8 then c8 else if k = 9 then c9 else c10, fun k => if k = 0 then i0 else if k = 1 then i1 else if k = 2 then i2 else if k = 3 then i3 else if k = 4 then i4 else if k = 5 then i5 else if k = 6 then i6 else if k = 7 then i7 else if k = 8 then i8 else if k = 9 then i9 else i10, ?_⟩
    intro k q hq
    match k, hq with
    | 0, hq => cases hq; exact k0
    | 1, hq => cases hq; exact k1
    | 2, hq => cases hq; exact k2
    | 3, hq => cases hq; exact k3
    | 4, hq => cases hq; exact k4
    | 5, hq => cases hq; exact k5
    | 6, hq => cases hq; exact k6
    | 7, hq => cases hq; exact k7
    | 8, hq => cases hq; exact k8
    | 9, hq => cases hq; exact k9
    | 10, hq => cases hq; exact k10
    | k + 11, hq => simp [vwCl] at hq
  obtain ⟨dC, dI, hcl⟩ := hcl
  obtain ⟨cI, kI, pI, nI1, nI2, nI3⟩ := Cond.arrayClass_spec (args := args) (first := s) (o := none) (s := s) (idx := []) (type := .int) (htg _ ac_int)
  obtain ⟨cC, kC, pC, nC1, nC2, nC3⟩ := Cond.arrayClass_spec (args := args) (first := s) (o := none) (s := s) (idx := []) (type := .char) (htg _ ac_char)
  obtain ⟨cZ, kZ, pZ, nZ1, nZ2, nZ3⟩ := Cond.arrayClass_spec (args := args) (first := s) (o := none) (s := s) (idx := []) (type := .boolean) (htg _ ac_boolean)
  have hAO : (Cond.arrayOver (.object "FareDrops$Meter")).before args s = true := hts _ (List.mem_of_getElem? (i := 213) (by decide +kernel))
  obtain ⟨comp, cM, kM, m1, m2, m3, m4, m5⟩ := Cond.arrayOver_spec (args := args) (first := s) (s := s) (o := none) (idx := []) (n := "FareDrops$Meter") hAO
  have q1 : (Cond.exactly (.string "FareDrops$Orders" 48) "java/lang/String").before args s = true := hs _ (by decide +kernel)
  have q2 : (Cond.eq (.field (.string "FareDrops$Orders" 48) "java/lang/String" "coder" "B") (.int 0)).before args s = true := hs _ (by decide +kernel)
  have q3 : (Cond.arrayOf (.field (.string "FareDrops$Orders" 48) "java/lang/String" "value" "[B") .byte).before args s = true := hs _ (by decide +kernel)
  have q4 : (Cond.eq (.length (.field (.string "FareDrops$Orders" 48) "java/lang/String" "value" "[B")) (.int 6)).before args s = true := hs _ (by decide +kernel)
  have e0 : (Cond.eq (.elem (.field (.string "FareDrops$Orders" 48) "java/lang/String" "value" "[B") (.int 0)) (.int 104)).before args s = true := hs _ (by decide +kernel)
  have e1 : (Cond.eq (.elem (.field (.string "FareDrops$Orders" 48) "java/lang/String" "value" "[B") (.int 1)) (.int 100)).before args s = true := hs _ (by decide +kernel)
  have e2 : (Cond.eq (.elem (.field (.string "FareDrops$Orders" 48) "java/lang/String" "value" "[B") (.int 2)) (.int 119)).before args s = true := hs _ (by decide +kernel)
  have e3 : (Cond.eq (.elem (.field (.string "FareDrops$Orders" 48) "java/lang/String" "value" "[B") (.int 3)) (.int 115)).before args s = true := hs _ (by decide +kernel)
  have e4 : (Cond.eq (.elem (.field (.string "FareDrops$Orders" 48) "java/lang/String" "value" "[B") (.int 4)) (.int 120)).before args s = true := hs _ (by decide +kernel)
  have e5 : (Cond.eq (.elem (.field (.string "FareDrops$Orders" 48) "java/lang/String" "value" "[B") (.int 5)) (.int 101)).before args s = true := hs _ (by decide +kernel)
  have q5 : (Cond.eq (.static "java/lang/String" "COMPACT_STRINGS" "Z") (.int 1)).before args s = true := hs _ (by decide +kernel)
  obtain ⟨adK, adV, hSS, hev⟩ := vk_Sof (args := args) (s := s) (N := 1) (tm := fun _ => (.string "FareDrops$Orders" 48)) (len := [6]) (byt := [[104, 100, 119, 115, 120, 101]]) (A := fun q : Nat => s.heap.size ≤ q) (fun i hi => by
      obtain rfl : i = 0 := by omega
      decide)
    (fun _ _ => q1) (fun _ _ => q2) (fun _ _ => q3) (fun i hi => by
      obtain rfl : i = 0 := by omega
      exact q4)
    (fun i hi j hj => by
      obtain rfl : i = 0 := by omega
      have hj6 : j < 6 := hj
      rcases (show j = 0 ∨ j = 1 ∨ j = 2 ∨ j = 3 ∨ j = 4 ∨ j = 5 by omega) with rfl | rfl | rfl | rfl | rfl | rfl
      · exact e0
      · exact e1
      · exact e2
      · exact e3
      · exact e4
      · exact e5)
    (fun i j hi hj hij => absurd (show i = j by omega) hij) hA
  have hSR : (Cond.stringRef "FareDrops$Orders" 48 "hdwsxe").before args s = true := hts _ (List.mem_of_getElem? (i := 633) (by decide +kernel))
  have hLS : (Cond.laysStatic "java/lang/String" "COMPACT_STRINGS" "Z").before args s = true := hts _ (List.mem_of_getElem? (i := 647) (by decide +kernel))
  have hIS : (Cond.initialized "java/lang/String").before args s = true := hts _ (List.mem_of_getElem? (i := 52) (by decide +kernel))
  refine ⟨((dC, dI), (cI, cC, cZ, cM), adK, adV), ⟨hcl, fun k q hk => ?_⟩, fun w hw => ?_, vk_R.of hSR (hev 0 (by omega)), hSS, va_Zof hLS hIS (va_eqi q5) hA, va_AO.of hAO⟩
  · match k, hk with
    | 0, hk => cases hk; exact ⟨fun n z => ⟨fun k9 h9 => (by cases h9), kI, nI2, pI, nI3⟩, nI1⟩
    | 1, hk => cases hk; exact ⟨fun n z => ⟨fun k9 h9 => (by cases h9), kC, nC2, pC, nC3⟩, nC1⟩
    | 2, hk => cases hk; exact ⟨fun n z => ⟨fun k9 h9 => (by cases h9), kZ, nZ2, pZ, nZ3⟩, nZ1⟩
    | 3, hk => cases hk; exact ⟨fun n z => ⟨fun k9 h9 => (by cases h9), kM, m3, comp, m4⟩, kM, comp, m3, m4, m1, m5⟩
    | k + 4, hk => simp at hk
  · have h1 : w.before args s = true := hts w (List.mem_append_right _ (List.mem_filter.mp hw).1)
    obtain ⟨a, i, y, b, rfl⟩ := nw_form hw
    exact va_Nw.of rfl h1

def ad7 (x0 x1 x2 x3 x4 x5 x6 : Nat) : Nat → Nat := fun k => match k with
  | 0 => x0
  | 1 => x1
  | 2 => x2
  | 3 => x3
  | 4 => x4
  | 5 => x5
  | _ => x6
theorem zM_0 {k : Nat} (h : 12 ≤ k) (h2 : k ≠ 36) : zM k = 0 := by
  unfold zM
  rw [upd_n (by omega), upd_n (by omega), upd_n (by omega), upd_n (by omega), upd_n (by omega), upd_n (by omega), upd_n (by omega), upd_n (by omega), upd_n (by omega), upd_n (by omega), upd_n (by omega), upd_n (by omega), upd_n (by omega)]
theorem G0_0 {k : Nat} (h2 : k ≠ 36) : G0 k = 0 := by
  unfold G0
  rw [upd_n h2]
  rfl
theorem zM_36 : zM 36 = nI 5 := by
  unfold zM
  rw [upd_s]
  rfl
theorem RM_start : RM N0 Z0 G0 Z0 zM := by
  refine ⟨fun k hk => ?_, fun k hk => (zM_0 (by omega) (by omega)).symm, fun k h1 h2 h3 => ?_, Or.inl ((G0_0 (by omega)).trans (zM_0 (by omega) (by omega)).symm), 0, by omega, G0_0 (by omega), fun a q ha hq => (zM_0 (by omega) (by omega)).symm⟩
  · unfold zM
    rw [upd_n (by omega)]
    rfl
  · by_cases e : k = 36
    · subst e
      rw [zM_36]
      exact upd_s
    · rw [G0_0 e, zM_0 (by omega) e]
theorem IZ_start : IZ zM 0 := by
  refine ⟨⟨⟨0, by omega, zM_0 (by omega) (by omega)⟩, fun i hi => ⟨0, by omega, zM_0 (by omega) (by omega)⟩, fun t ht => ?_⟩, fun t ht => ?_, fun t ht => ?_, ⟨5, by omega, zM_36⟩, Or.inl (zM_0 (by omega) (by omega)), fun h9 => absurd (zM_0 (by omega) (by omega)) h9, ⟨0, 0, by omega, by omega, zM_0 (by omega) (by omega), zM_0 (by omega) (by omega)⟩, ⟨0, by omega, zM_0 (by omega) (by omega)⟩, ⟨0, by omega, zM_0 (by omega) (by omega)⟩⟩
  · rcases (show t = 0 ∨ t = 1 ∨ t = 2 by omega) with rfl | rfl | rfl <;> decide
  · unfold TP
    rcases (show t = 0 ∨ t = 1 ∨ t = 2 by omega) with rfl | rfl | rfl
    · exact ⟨2, 100, 20, by decide⟩
    · exact ⟨2, 90, 20, by decide⟩
    · exact ⟨2, 80, 20, by decide⟩
  · rcases (show t = 0 ∨ t = 1 ∨ t = 2 by omega) with rfl | rfl | rfl <;> exact ⟨30, by decide⟩

theorem REL_start {rf : Nat → Option Nat} {ba0 ba1 ba2 ba3 ba4 ba5 ba6 bb0 bb1 bb2 bb3 bb4 bb5 bb6 bc0 bc1 bc2 bc3 bc4 bc5 bc6 bd0 bd1 bd2 bd3 bd4 bd5 bd6 be0 be1 be2 be3 be4 be5 be6 bf0 bf1 bf2 bf3 bf4 bf5 bf6 bg0 bg1 bg2 bg3 bg4 bg5 bg6 m0 m1 m2 m3 m4 m5 m6 u0 u1 u2 u3 u4 u5 u6 v0 v1 v2 v3 v4 v5 v6 : Nat} (hf0 : rf 0 = some ba0) (hf1 : rf 1 = some bb0) (hf2 : rf 2 = some bc0) (hf3 : rf 3 = some bd0) (hf4 : rf 4 = some be0) (hf5 : rf 5 = some bf0) (hf6 : rf 6 = some bg0) : REL rf 0 (ad7 ba0 ba1 ba2 ba3 ba4 ba5 ba6, N0, Z0, G0, Z0) (ad7 bb0 bb1 bb2 bb3 bb4 bb5 bb6, N0, Z0, G0, Z0) (ad7 bc0 bc1 bc2 bc3 bc4 bc5 bc6, N0, Z0, G0, Z0) (ad7 bd0 bd1 bd2 bd3 bd4 bd5 bd6, N0, Z0, G0, Z0) (ad7 be0 be1 be2 be3 be4 be5 be6, N0, Z0, G0, Z0) (ad7 bf0 bf1 bf2 bf3 bf4 bf5 bf6, N0, Z0, G0, Z0) (ad7 bg0 bg1 bg2 bg3 bg4 bg5 bg6, N0, Z0, G0, Z0) (ad7 m0 m1 m2 m3 m4 m5 m6, N0, Z0, G0, Z0) (ad7 u0 u1 u2 u3 u4 u5 u6, N0, Z0, G0, Z0) (ad7 v0 v1 v2 v3 v4 v5 v6, N0, Z0, G0, Z0) 0 0 0 0 Z0 zM Z0 0 Z0 Z0 Z0 0 0 := by
  have hS : ∀ a : Nat → Nat, ST (a, N0, Z0, G0, Z0) zM 0 := fun a => ⟨RM_start, IZ_start⟩
  exact ⟨rfl, ⟨by omega, by omega, ⟨hf0, hf1, hf2, hf3, hf4, hf5, hf6⟩, fun q => absurd q (by omega), fun q => absurd q (by omega), fun q => absurd q (by omega), fun q => absurd q (by omega), fun q => absurd q (by omega), fun q => absurd q (by omega)⟩, hS _, Or.inl ⟨rfl, rfl⟩, Or.inl ⟨rfl, rfl⟩, PADR.wipe⟩

theorem V_callIB {g : Gd} {X : Bd} {own : String} {cc : ByteArray} {n d mc ms cs ss pc : Nat} {ws : va_W} {L : List (Nat × Value)} {st : List Value} {b : Nat} {y : MethodName} {cb : ByteArray} {maxL : Nat} {rt : Option FieldType} {na index d2 mc2 ms2 : Nat} {As rest : List Value} {wc wr : va_W} {post : va_W → Prop} (C : Cx g X own cc n d mc ms) (K : Kv g y cb maxL rt d2 mc2 ms2 (.ref b :: As) wc post) (cw : CI own index y cb maxL rt na) (hW : ws.Perm (wc ++ wr)) (hst : st = As.reverse ++ .ref b :: rest) (hna : As.length = na) (hrest : (rest.map fun v => v.category).sum ≤ 8) (hd : d2 + 1 ≤ d) (hcells : cs + mc2 ≤ mc ∧ ss + ms2 ≤ ms) (hdg : decode cc pc = .ok (.invokespecial index, 3)) (kk : ∀ (w1 : va_W), post w1 → V g X (cs + mc2) (ss + ms2) (wr ++ w1) (pc + 3) L rest) : V g X cs ss ws pc L st := by
  refine V_Perm hW ?_
  refine V_callIv (wr := wr) C K cw (List.range wc.length) ((List.range wr.length).map (wc.length + ·)) ?_ ?_ ?_ ?_ ?_ hst hna hrest hd hcells hdg kk
  · apply List.ext_getElem
    · simp
    · intro i a b9
      have hi : i < wc.length := by simpa using b9
      rw [List.getElem_map, List.getElem_range, List.getElem_map, List.getElem?_append_left hi, List.getElem?_eq_getElem hi]
  · apply List.ext_getElem
    · simp
    · intro i a b9
      have hi : i < wr.length := by simpa using b9
      rw [List.getElem_map, List.getElem_map, List.getElem_range, List.getElem_map, List.getElem?_append_right (by omega), show wc.length + i - wc.length = i by omega, List.getElem?_eq_getElem hi]
  · exact va_nd_iff.mpr List.nodup_range
  · refine va_nd_iff.mpr (List.pairwise_map.mpr (List.Pairwise.imp ?_ List.nodup_range))
    intro a b9 h9 h8
    exact h9 (by omega)
  · intro i hi hi2
    obtain ⟨k, hk, rfl⟩ := List.mem_map.mp hi
    have := List.mem_range.mp hi2
    omega

set_option maxRecDepth 100000 in
set_option maxHeartbeats 2000000 in
theorem law_start {g : Gd} {X : Bd} {b nn : Nat} {xs : Nat → Int32} (C : Cx g X RL cL_law 4 12 600000 7302250) (hX : SC X b nn xs) (hnn : nn ≤ 3072) (hend : ∀ (cs ss : Nat) (ws : va_W) (L : List (Nat × Value)), cs ≤ 600000 → ss ≤ 7302250 → V g X cs ss ws 783 L [.int 1]) : V g X 0 0 [] 0 [(0, .ref b)] [] := by
  refine V_new (ci := 9) (fs := [.null, .null, .null, .null, .null, .null]) C rfl in_X9 tyX9 tyX9_ok cl_L_7 ins_X9 ini_X9 (fun j hj => by rcases (show j = 0 ∨ j = 1 ∨ j = 2 ∨ j = 3 ∨ j = 4 ∨ j = 5 by omega) with rfl | rfl | rfl | rfl | rfl | rfl <;> rfl) (by omega) dL_law_0 (fun f0 => ?_)
  refine V_dup C dL_law_3 rfl ?_
  refine V_callIB (na := 0) (As := []) (rest := [.ref f0]) (wr := []) C (c_X9_init g f0) ⟨⟨ini_X9, co_X9_init, ⟨by decide, by decide, by decide +kernel⟩, by decide⟩, ml_L_9, im_X9_init, rfl, rfl⟩ (List.Perm.refl _) rfl rfl (Nat.le_of_ble_eq_true rfl) (by omega) (by omega) dL_law_4 (fun w1 hw1 => ?_)
  refine V_astore_n (L2 := [(1, .ref f0), (0, .ref b)]) C dL_law_7 rfl (by decide) rfl ?_
  refine V_new (ci := 10) (fs := [.null, .null, .null, .null, .int 0, .null, .null, .int 0, .null, .int 0, .int 0, .int 0]) C rfl in_X10 tyX10 tyX10_ok cl_L_10 ins_X10 ini_X10 (fun j hj => by rcases (show j = 0 ∨ j = 1 ∨ j = 2 ∨ j = 3 ∨ j = 4 ∨ j = 5 ∨ j = 6 ∨ j = 7 ∨ j = 8 ∨ j = 9 ∨ j = 10 ∨ j = 11 by omega) with rfl | rfl | rfl | rfl | rfl | rfl | rfl | rfl | rfl | rfl | rfl | rfl <;> rfl) (by omega) dL_law_8 (fun a0 => ?_)
  refine V_dup C dL_law_11 rfl ?_
  refine V_callIB (na := 0) (As := []) (rest := [.ref a0]) (wr := [] ++ w1) C (c_X10_init g a0) ⟨⟨ini_X10, co_X10_init, ⟨by decide, by decide, by decide +kernel⟩, by decide⟩, ml_L_12, im_X10_init, rfl, rfl⟩ List.perm_append_comm rfl rfl (Nat.le_of_ble_eq_true rfl) (by omega) (by omega) dL_law_12 (fun w2 hw2 => ?_)
  refine V_astore_n (L2 := [(2, .ref a0), (1, .ref f0), (0, .ref b)]) C dL_law_15 rfl (by decide) rfl ?_
  refine V_iconst (v := 0) C dL_law_16 (by decide) ?_
  refine V_istore_n (L2 := [(3, .int 0), (2, .ref a0), (1, .ref f0), (0, .ref b)]) C dL_law_17 rfl (by decide) rfl ?_
  obtain ⟨m0, h0, s0, p0, o0, d0, h1, p1, m1, m2, m3, m4, m5, m6, u0, u1, u2, u3, u4, u5, u6, v0, v1, v2, v3, v4, v5, v6, rf, ba0, ba1, ba2, ba3, ba4, ba5, ba6, bb0, bb1, bb2, bb3, bb4, bb5, bb6, bc0, bc1, bc2, bc3, bc4, bc5, bc6, bd0, bd1, bd2, bd3, bd4, bd5, bd6, be0, be1, be2, be3, be4, be5, be6, bf0, bf1, bf2, bf3, bf4, bf5, bf6, bg0, bg1, bg2, bg3, bg4, bg5, bg6, hf0, hf1, hf2, hf3, hf4, hf5, hf6, rfl⟩ := hw1
  obtain ⟨a1, a2, a3, a4, a5, a6, a7, rfl⟩ := hw2
  refine V_to (ws2 := (pkB [0, 1, 2, 3, 20, 21, 22, 23, 24, 25, 4, 9, 10, 11, 7, 8, 6, 5, 12, 13, 14, 15, 16, 17, 18, 19] (SWB g f0 h0 s0 p0 o0 d0 h1 p1 rf a0 a1 a2 a3 a4 a5 a6 a7 0 (ad7 ba0 ba1 ba2 ba3 ba4 ba5 ba6, N0, Z0, G0, Z0) (ad7 bb0 bb1 bb2 bb3 bb4 bb5 bb6, N0, Z0, G0, Z0) (ad7 bc0 bc1 bc2 bc3 bc4 bc5 bc6, N0, Z0, G0, Z0) (ad7 bd0 bd1 bd2 bd3 bd4 bd5 bd6, N0, Z0, G0, Z0) (ad7 be0 be1 be2 be3 be4 be5 be6, N0, Z0, G0, Z0) (ad7 bf0 bf1 bf2 bf3 bf4 bf5 bf6, N0, Z0, G0, Z0) (ad7 bg0 bg1 bg2 bg3 bg4 bg5 bg6, N0, Z0, G0, Z0) (ad7 m0 m1 m2 m3 m4 m5 m6, N0, Z0, G0, Z0) (ad7 u0 u1 u2 u3 u4 u5 u6, N0, Z0, G0, Z0) (ad7 v0 v1 v2 v3 v4 v5 v6, N0, Z0, G0, Z0) 0 0 0 0 Z0 0 0 0 0 Z0 zM Z0 0 Z0 Z0 Z0 0 Z0 Z0 0 0 0)).flatten) ?_ rfl
  refine V_Perm (ws2 := SW g f0 h0 s0 p0 o0 d0 h1 p1 rf a0 a1 a2 a3 a4 a5 a6 a7 0 (ad7 ba0 ba1 ba2 ba3 ba4 ba5 ba6, N0, Z0, G0, Z0) (ad7 bb0 bb1 bb2 bb3 bb4 bb5 bb6, N0, Z0, G0, Z0) (ad7 bc0 bc1 bc2 bc3 bc4 bc5 bc6, N0, Z0, G0, Z0) (ad7 bd0 bd1 bd2 bd3 bd4 bd5 bd6, N0, Z0, G0, Z0) (ad7 be0 be1 be2 be3 be4 be5 be6, N0, Z0, G0, Z0) (ad7 bf0 bf1 bf2 bf3 bf4 bf5 bf6, N0, Z0, G0, Z0) (ad7 bg0 bg1 bg2 bg3 bg4 bg5 bg6, N0, Z0, G0, Z0) (ad7 m0 m1 m2 m3 m4 m5 m6, N0, Z0, G0, Z0) (ad7 u0 u1 u2 u3 u4 u5 u6, N0, Z0, G0, Z0) (ad7 v0 v1 v2 v3 v4 v5 v6, N0, Z0, G0, Z0) 0 0 0 0 Z0 0 0 0 0 Z0 zM Z0 0 Z0 Z0 Z0 0 Z0 Z0 0 0 0) (pkB_perm (SWB_len ..) rfl).flatten ?_
  exact law_loop C (by omega) ⟨by omega, by omega⟩ hX hnn (fun ws L => hend _ _ ws L (by omega) (by omega)) (nn + 1) 0 0 (by omega) (by omega) (by omega) 0 (ad7 ba0 ba1 ba2 ba3 ba4 ba5 ba6, N0, Z0, G0, Z0) (ad7 bb0 bb1 bb2 bb3 bb4 bb5 bb6, N0, Z0, G0, Z0) (ad7 bc0 bc1 bc2 bc3 bc4 bc5 bc6, N0, Z0, G0, Z0) (ad7 bd0 bd1 bd2 bd3 bd4 bd5 bd6, N0, Z0, G0, Z0) (ad7 be0 be1 be2 be3 be4 be5 be6, N0, Z0, G0, Z0) (ad7 bf0 bf1 bf2 bf3 bf4 bf5 bf6, N0, Z0, G0, Z0) (ad7 bg0 bg1 bg2 bg3 bg4 bg5 bg6, N0, Z0, G0, Z0) (ad7 m0 m1 m2 m3 m4 m5 m6, N0, Z0, G0, Z0) (ad7 u0 u1 u2 u3 u4 u5 u6, N0, Z0, G0, Z0) (ad7 v0 v1 v2 v3 v4 v5 v6, N0, Z0, G0, Z0) 0 0 0 0 Z0 0 0 0 0 Z0 zM Z0 0 Z0 Z0 Z0 0 Z0 Z0 0 0 0 (REL_start hf0 hf1 hf2 hf3 hf4 hf5 hf6)
