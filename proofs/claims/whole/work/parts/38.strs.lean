
/-! the text of the letters: a String's own members -/
abbrev gS (g : Gd) : Nat := g.2.2.1 0
abbrev gB (g : Gd) : Nat := g.2.2.2 0
theorem fl_J0_38 : Cond.fieldLink RJ0 38 "java/lang/String" "COMPACT_STRINGS" "Z" ∈ tg := tg_in 646 (by decide +kernel) (by decide +kernel)
theorem fl_J0_15 : Cond.fieldLink RJ0 15 "java/lang/String" "coder" "B" ∈ tg := tg_in 1019 (by decide +kernel) (by decide +kernel)
theorem fl_J0_9 : Cond.fieldLink RJ0 9 "java/lang/String" "value" "[B" ∈ tg := tg_in 1020 (by decide +kernel) (by decide +kernel)
theorem V_gets38 {g : Gd} {X : Bd} {cc : ByteArray} {n d mc ms cs ss pc : Nat} {ws : va_W} {L : List (Nat × Value)} {st : List Value} (C : Cx g X RJ0 cc n d mc ms) (hdg : decode cc pc = .ok (.getstatic 38, 3)) (kk : V g X cs ss ws (pc + 3) L (.int 1 :: st)) : V g X cs ss ws pc L st := by
  obtain ⟨p, l, e, R, s, m, args, below, meth, c, Q, A, n'⟩ := X
  obtain ⟨hx, hb, hml, hts, hown, ⟨hK, hNK, hZS⟩, hA, hn, hd1, hd2, hd3, hd4⟩ := C
  subst hn
  intro H locs ls hP hD hS hl
  exact va_gets hx hb hZS.2.2.1 hS hown (hts _ fl_J0_38) (fun x h9 => h9) hdg (kk H locs ls hP hD hS hl)
theorem V_scod {g : Gd} {X : Bd} {cc : ByteArray} {n d mc ms cs ss pc : Nat} {ws : va_W} {L : List (Nat × Value)} {st : List Value} (C : Cx g X RJ0 cc n d mc ms) (hdg : decode cc pc = .ok (.getfield 15, 3)) (kk : V g X cs ss ws (pc + 3) L (.int 0 :: st)) : V g X cs ss ws pc L (.ref (gS g) :: st) := by
  obtain ⟨p, l, e, R, s, m, args, below, meth, c, Q, A, n'⟩ := X
  obtain ⟨hx, hb, hml, hts, hown, ⟨hK, hNK, hZS⟩, hA, hn, hd1, hd2, hd3, hd4⟩ := C
  subst hn
  intro H locs ls hP hD hS hl
  exact vk_getf hx hb (hZS.2.1.1 0 (by decide)).2.1 hS hown (hts _ fl_J0_15) (fun x h9 => h9) hdg (kk H locs ls hP hD hS hl)
theorem V_sval {g : Gd} {X : Bd} {cc : ByteArray} {n d mc ms cs ss pc : Nat} {ws : va_W} {L : List (Nat × Value)} {st : List Value} (C : Cx g X RJ0 cc n d mc ms) (hdg : decode cc pc = .ok (.getfield 9, 3)) (kk : V g X cs ss ws (pc + 3) L (.ref (gB g) :: st)) : V g X cs ss ws pc L (.ref (gS g) :: st) := by
  obtain ⟨p, l, e, R, s, m, args, below, meth, c, Q, A, n'⟩ := X
  obtain ⟨hx, hb, hml, hts, hown, ⟨hK, hNK, hZS⟩, hA, hn, hd1, hd2, hd3, hd4⟩ := C
  subst hn
  intro H locs ls hP hD hS hl
  exact vk_getf hx hb (hZS.2.1.1 0 (by decide)).2.2.1 hS hown (hts _ fl_J0_9) (fun x h9 => h9) hdg (kk H locs ls hP hD hS hl)
theorem V_slen {g : Gd} {X : Bd} {own : String} {cc : ByteArray} {n d mc ms cs ss pc : Nat} {ws : va_W} {L : List (Nat × Value)} {st : List Value} (C : Cx g X own cc n d mc ms) (hdg : decode cc pc = .ok (.arraylength, 1)) (kk : V g X cs ss ws (pc + 1) L (.int 6 :: st)) : V g X cs ss ws pc L (.ref (gB g) :: st) := by
  obtain ⟨p, l, e, R, s, m, args, below, meth, c, Q, A, n'⟩ := X
  obtain ⟨hx, hb, hml, hts, hown, ⟨hK, hNK, hZS⟩, hA, hn, hd1, hd2, hd3, hd4⟩ := C
  subst hn
  intro H locs ls hP hD hS hl
  exact va_tlen hx hb (hZS.2.1.1 0 (by decide)).2.2.2 hS (by decide) hdg (kk H locs ls hP hD hS hl)
theorem V_sbyt {g : Gd} {X : Bd} {own : String} {cc : ByteArray} {n d mc ms cs ss pc : Nat} {ws : va_W} {L : List (Nat × Value)} {st : List Value} {i b : Int32} (C : Cx g X own cc n d mc ms) (hin2 : vp_in i 6) (hv : ([104, 100, 119, 115, 120, 101] : List Int32).getD i.toNatClampNeg 0 = b) (hdg : decode cc pc = .ok (.baload, 1)) (kk : V g X cs ss ws (pc + 1) L (.int b :: st)) : V g X cs ss ws pc L (.int i :: .ref (gB g) :: st) := by
  subst hv
  obtain ⟨p, l, e, R, s, m, args, below, meth, c, Q, A, n'⟩ := X
  obtain ⟨hx, hb, hml, hts, hown, ⟨hK, hNK, hZS⟩, hA, hn, hd1, hd2, hd3, hd4⟩ := C
  subst hn
  intro H locs ls hP hD hS hl
  exact va_tb hx hb (hZS.2.1.1 0 (by decide)).2.2.2 hS hin2 rfl hdg (kk H locs ls hP hD hS hl)
theorem V_i2b {g : Gd} {X : Bd} {own : String} {cc : ByteArray} {n d mc ms cs ss pc : Nat} {ws : va_W} {L : List (Nat × Value)} {st : List Value} {x : Int32} (C : Cx g X own cc n d mc ms) (hdg : decode cc pc = .ok (.i2b, 1)) (kk : V g X cs ss ws (pc + 1) L (.int x.toInt8.toInt32 :: st)) : V g X cs ss ws pc L (.int x :: st) := by
  obtain ⟨p, l, e, R, s, m, args, below, meth, c, Q, A, n'⟩ := X
  obtain ⟨hx, hb, hml, hts, hown, ⟨hK, hNK, hZS⟩, hA, hn, hd1, hd2, hd3, hd4⟩ := C
  subst hn
  intro H locs ls hP hD hS hl
  exact lv_i2b hx hb hdg rfl (kk H locs ls hP hD hS hl)
theorem V_ishr {g : Gd} {X : Bd} {own : String} {cc : ByteArray} {n d mc ms cs ss pc : Nat} {ws : va_W} {L : List (Nat × Value)} {st : List Value} {x y : Int32} (C : Cx g X own cc n d mc ms) (hdg : decode cc pc = .ok (.ishr, 1)) (kk : V g X cs ss ws (pc + 1) L (.int (x >>> (y &&& 31)) :: st)) : V g X cs ss ws pc L (.int y :: .int x :: st) := by
  obtain ⟨p, l, e, R, s, m, args, below, meth, c, Q, A, n'⟩ := X
  obtain ⟨hx, hb, hml, hts, hown, ⟨hK, hNK, hZS⟩, hA, hn, hd1, hd2, hd3, hd4⟩ := C
  subst hn
  intro H locs ls hP hD hS hl
  exact lv_ishr hx hb hdg (kk H locs ls hP hD hS hl)
theorem V_sldc {g : Gd} {X : Bd} {cc : ByteArray} {n d mc ms cs ss pc : Nat} {ws : va_W} {L : List (Nat × Value)} {st : List Value} (C : Cx g X RX4 cc n d mc ms) (hdg : decode cc pc = .ok (.ldc 48, 2)) (kk : V g X cs ss ws (pc + 2) L (.ref (gS g) :: st)) : V g X cs ss ws pc L st := by
  obtain ⟨p, l, e, R, s, m, args, below, meth, c, Q, A, n'⟩ := X
  obtain ⟨hx, hb, hml, hts, hown, ⟨hK, hNK, hZS⟩, hA, hn, hd1, hd2, hd3, hd4⟩ := C
  subst hn
  intro H locs ls hP hD hS hl
  exact va_ldcS hx hb hown hZS.1 hdg (kk H locs ls hP hD hS hl)
theorem V_callTi {g : Gd} {X : Bd} {own : String} {cc : ByteArray} {n d mc ms cs ss pc : Nat} {ws : va_W} {L : List (Nat × Value)} {st : List Value} {y : MethodName} {cb : ByteArray} {maxL : Nat} {rt : Option FieldType} {na index d2 mc2 ms2 : Nat} {As rest : List Value} {wc wr : va_W} {post : Int32 → va_W → Prop} (C : Cx g X own cc n d mc ms) (K : Ki g y cb maxL rt d2 mc2 ms2 (.ref (gS g) :: As) wc post) (cw : CV own index y cb maxL rt na) (isC isR : List Nat) (hC : isC.map (fun i => ws[i]?) = wc.map some) (hR : isR.map (fun i => ws[i]?) = wr.map some) (hnC : va_nd isC = true) (hnR : va_nd isR = true) (hdis : ∀ i ∈ isR, i ∉ isC) (hys : y.cls = "java/lang/String") (hst : st = As.reverse ++ .ref (gS g) :: rest) (hna : As.length = na) (hrest : (rest.map fun v => v.category).sum ≤ 8) (hd : d2 + 1 ≤ d) (hcells : cs + mc2 ≤ mc ∧ ss + ms2 ≤ ms) (hdg : decode cc pc = .ok (.invokevirtual index, 3)) (kk : ∀ (r : Int32) (w1 : va_W), post r w1 → V g X (cs + mc2) (ss + ms2) (wr ++ w1) (pc + 3) L (.int r :: rest)) : V g X cs ss ws pc L st := by
  subst hst
  obtain ⟨p, l, e, R, s, m, args, below, meth, c, Q, A, n'⟩ := X
  obtain ⟨hx, hb, hml, hts, hown, hKX, hA, hn, hd1, hd2, hd3, hd4⟩ := C
  subst hn
  intro H locs ls hP hD hS hl
  have hPc := hP.sub (ws' := wc) isC (by have h2 := congrArg (List.filterMap id) hC; simpa [List.filterMap_map, Function.comp_def] using h2)
  have hDc := hD.sub (ws' := wc) isC hnC hC
  have hFc := va_free (wc := wc) hD hS hA isC hC
  obtain ⟨hB, hlk, hin, hse⟩ := cw
  have hrc := vk_recv hKX.2.2.2.1 (i := 0) (by decide) hS
  rw [← hys] at hrc
  have hrun := va_runV (As := As) (rest := rest) (H := H) (locs := locs) (cells := cs) (slots := ss) (below := below) (meth := meth) (e := e) (g := F0 m pc ls (As.reverse ++ .ref (gS g) :: rest)) ⟨hx, hb, hml, hown, hts⟩ (K l H.size) ⟨cb_of (d0 := d) hts hB (hts _ hlk) hd1 hd2 hd, hts _ hin, hts _ hse⟩ ⟨pre_blind _ _ _ _, hrc, fun U hU hW => ⟨rfl, by rw [hU], by rw [hU]; exact hPc, hKX.call hS hFc hW hU, hDc.weaken (fun _ _ _ _ => trivial)⟩⟩ rfl hna hl.1 rfl (lv_room hrest) hdg ⟨by omega, by omega⟩
  refine va_calli hrun hS (fun q _ h => hFc q h) hFc (fun r w1 t H1 locs1 ht hvm hw hB hz1 hk1 hS1 => ?_)
  obtain ⟨hP1, hD1⟩ := hB
  rw [ht] at hP1
  obtain ⟨hP2, hD2⟩ := va_join (wr := wr) hP hD isC isR hC hR hnR hdis hk1 hFc hP1 hD1
  exact kk r w1 hw H1 locs1 ls hP2 hD2 hS1 hl
set_option maxRecDepth 100000 in
set_option maxHeartbeats 4000000 in
theorem c_J0_coder_7d493 (g : Gd)   : Ki g yJ0_coder_7d493 cJ0_coder_7d493 1 (some .byte) 0 0 0 [.ref (gS g)] [] (fun (r : Int32) (w : va_W) => r = 0 ∧ w = []) := by
  refine Kz.of (by decide) (Nat.le_of_ble_eq_true rfl) (fun X C hI hret => ?_)
  show V g X 0 0 [] 0 [(0, .ref (gS g))] []
  refine V_gets38 C dJ0_coder_7d493_0 ?_
  refine V_if_eq (tgt := 13) C dJ0_coder_7d493_3 (by decide) (fun h => absurd h (by decide)) (fun _ => ?_)
  refine V_aload_n C 0 dJ0_coder_7d493_6 rfl rfl ?_
  refine V_scod C dJ0_coder_7d493_7 ?_
  refine V_goto (tgt := 14) C dJ0_coder_7d493_10 (by decide) ?_
  refine hret _ _ _ _ dJ0_coder_7d493_14 (by first | rfl | (split <;> rfl) | decide) ?_
  exact ⟨rfl, rfl⟩
set_option maxRecDepth 100000 in
set_option maxHeartbeats 4000000 in
theorem c_J0_isLatin1_aae02 (g : Gd)   : Ki g yJ0_isLatin1_aae02 cJ0_isLatin1_aae02 1 (some .boolean) 0 0 0 [.ref (gS g)] [] (fun (r : Int32) (w : va_W) => r = 1 ∧ w = []) := by
  refine Kz.of (by decide) (Nat.le_of_ble_eq_true rfl) (fun X C hI hret => ?_)
  show V g X 0 0 [] 0 [(0, .ref (gS g))] []
  refine V_gets38 C dJ0_isLatin1_aae02_0 ?_
  refine V_if_eq (tgt := 17) C dJ0_isLatin1_aae02_3 (by decide) (fun h => absurd h (by decide)) (fun _ => ?_)
  refine V_aload_n C 0 dJ0_isLatin1_aae02_6 rfl rfl ?_
  refine V_scod C dJ0_isLatin1_aae02_7 ?_
  refine V_if_ne (tgt := 17) C dJ0_isLatin1_aae02_10 (by decide) (fun h => absurd rfl h) (fun _ => ?_)
  refine V_iconst (v := 1) C dJ0_isLatin1_aae02_13 (by decide) ?_
  refine V_goto (tgt := 18) C dJ0_isLatin1_aae02_14 (by decide) ?_
  refine hret _ _ _ _ dJ0_isLatin1_aae02_18 (by first | rfl | (split <;> rfl) | decide) ?_
  exact ⟨rfl, rfl⟩
set_option maxRecDepth 100000 in
set_option maxHeartbeats 4000000 in
theorem c_J0_length_8abf5 (g : Gd)   : Ki g yJ0_length_8abf5 cJ0_length_8abf5 1 (some .int) 1 0 0 [.ref (gS g)] [] (fun (r : Int32) (w : va_W) => r = 6 ∧ w = []) := by
  refine Ki.of (by decide) (Nat.le_of_ble_eq_true rfl) (fun X C hI hret => ?_)
  show V g X 0 0 [] 0 [(0, .ref (gS g))] []
  refine V_aload_n C 0 dJ0_length_8abf5_0 rfl rfl ?_
  refine V_sval C dJ0_length_8abf5_1 ?_
  refine V_slen C dJ0_length_8abf5_4 ?_
  refine V_aload_n C 0 dJ0_length_8abf5_5 rfl rfl ?_
  refine V_callTi  (na := 0) (As := []) (rest := [.int 6]) (wr := []) C (c_J0_coder_7d493 g  ) ⟨⟨ini_J0, co_J0_coder_7d493, ⟨by decide, by decide, by decide +kernel⟩, by decide⟩, ml_J0_335, im_J0_coder_7d493, se_J0_coder_7d493⟩ [] [] rfl rfl rfl rfl (by decide) rfl rfl rfl (Nat.le_of_ble_eq_true rfl) (by omega) (by omega) dJ0_length_8abf5_6 (fun r_1 w_ hw_2 => ?_)
  obtain ⟨rfl, rfl⟩ := hw_2
  refine V_to (ws2 := []) ?_ rfl
  refine V_ishr C dJ0_length_8abf5_9 ?_
  refine V_ev (show ((6 : Int32) >>> ((0 : Int32) &&& 31) : Int32) = 6 from by decide) ?_
  refine hret _ _ _ _ dJ0_length_8abf5_10 ?_
  exact ⟨rfl, rfl⟩
set_option maxRecDepth 100000 in
set_option maxHeartbeats 4000000 in
theorem c_J1_canEncode_9a6ad (g : Gd) (k : Nat) (hk : k ≤ 126) : Ki g yJ1_canEncode_9a6ad cJ1_canEncode_9a6ad 1 (some .boolean) 0 0 0 [.int (nI k)] [] (fun (r : Int32) (w : va_W) => r = 1 ∧ w = []) := by
  refine Kz.of (by decide) (Nat.le_of_ble_eq_true rfl) (fun X C hI hret => ?_)
  show V g X 0 0 [] 0 [(0, .int (nI k))] []
  refine V_iload_n C 0 dJ1_canEncode_9a6ad_0 rfl rfl ?_
  refine V_if_lt (tgt := 15) C dJ1_canEncode_9a6ad_1 (by decide) (fun h => absurd h (nI_pos (by omega))) (fun _ => ?_)
  refine V_iload_n C 0 dJ1_canEncode_9a6ad_4 rfl rfl ?_
  refine V_sipush (v := 255) C dJ1_canEncode_9a6ad_5 (by decide) ?_
  refine V_icmp_gt (tgt := 15) C dJ1_canEncode_9a6ad_8 (by decide) (fun h => absurd h (nI_nlt (a := 255) (by omega) (by omega))) (fun _ => ?_)
  refine V_iconst (v := 1) C dJ1_canEncode_9a6ad_11 (by decide) ?_
  refine V_goto (tgt := 16) C dJ1_canEncode_9a6ad_12 (by decide) ?_
  refine hret _ _ _ _ dJ1_canEncode_9a6ad_16 (by first | rfl | (split <;> rfl) | decide) ?_
  exact ⟨rfl, rfl⟩
set_option maxRecDepth 100000 in
set_option maxHeartbeats 4000000 in
theorem c_J1_indexOfChar_4cfef (g : Gd) (k : Nat) (hk : k ≤ 126) : Ki g yJ1_indexOfChar_4cfef cJ1_indexOfChar_4cfef 6 (some .int) 0 0 0 [.ref (gB g), .int (nI k), .int 0, .int 6] [] (fun (r : Int32) (w : va_W) => (∃ (v9 : Int32), isL (nI k) ∧ ¬ v9 < 0 ∧ r = v9 ∧ w = []) ∨ (¬ isL (nI k) ∧ r = (-1) ∧ w = [])) := by
  refine Ki.of (by decide) (Nat.le_of_ble_eq_true rfl) (fun X C hI hret => ?_)
  show V g X 0 0 [] 0 [(0, .ref (gB g)), (1, .int (nI k)), (2, .int 0), (3, .int 6)] []
  refine V_iload_n C 1 dJ1_indexOfChar_4cfef_0 rfl rfl ?_
  refine V_i2b C dJ1_indexOfChar_4cfef_1 ?_
  refine V_ev (show (Int8.toInt32 (Int32.toInt8 (nI k)) : Int32) = nI k from lg_i2b_small (by rw [nI_toInt (by omega)]; omega) (by rw [nI_toInt (by omega)]; omega)) ?_
  refine V_istore (L2 := [(4, .int (nI k)), (0, .ref (gB g)), (1, .int (nI k)), (2, .int 0), (3, .int 6)]) C dJ1_indexOfChar_4cfef_2 (by decide) rfl ?_
  refine V_iload_n C 3 dJ1_indexOfChar_4cfef_4 rfl rfl ?_
  refine V_istore (L2 := [(5, .int 0), (4, .int (nI k)), (0, .ref (gB g)), (1, .int (nI k)), (2, .int 0), (3, .int 6)]) C dJ1_indexOfChar_4cfef_5 (by decide) rfl ?_
  refine V_iload C 0 dJ1_indexOfChar_4cfef_7 rfl ?_
  refine V_iload_n C 5 dJ1_indexOfChar_4cfef_9 rfl rfl ?_
  refine V_icmp_ge (tgt := 31) C dJ1_indexOfChar_4cfef_10 (by decide) (fun h => absurd h (by decide)) (fun _ => ?_)
  refine V_aload_n C 2 dJ1_indexOfChar_4cfef_13 rfl rfl ?_
  refine V_iload C 0 dJ1_indexOfChar_4cfef_14 rfl ?_
  refine V_sbyt (b := 104) C (show vp_in 0 6 from vp_in_nI (n := 0) (by omega) (by omega)) (by decide) dJ1_indexOfChar_4cfef_16 ?_
  refine V_iload C 1 dJ1_indexOfChar_4cfef_17 rfl ?_
  refine V_icmp_ne (tgt := 25) C dJ1_indexOfChar_4cfef_19 (by decide) (fun c_19 => ?_) (fun c_19 => ?_)
  · have ne0 := c_19
    refine V_iinc (v := 1) (L2 := [(5, .int 1), (4, .int (nI k)), (0, .ref (gB g)), (1, .int (nI k)), (2, .int 0), (3, .int 6)]) C 0 dJ1_indexOfChar_4cfef_25 rfl (by decide) (by decide) rfl ?_
    refine V_goto (tgt := 7) C dJ1_indexOfChar_4cfef_28 (by decide) ?_
    refine V_iload C 0 dJ1_indexOfChar_4cfef_7 rfl ?_
    refine V_iload_n C 5 dJ1_indexOfChar_4cfef_9 rfl rfl ?_
    refine V_icmp_ge (tgt := 31) C dJ1_indexOfChar_4cfef_10 (by decide) (fun h => absurd h (by decide)) (fun _ => ?_)
    refine V_aload_n C 2 dJ1_indexOfChar_4cfef_13 rfl rfl ?_
    refine V_iload C 0 dJ1_indexOfChar_4cfef_14 rfl ?_
    refine V_sbyt (b := 100) C (show vp_in 1 6 from vp_in_nI (n := 1) (by omega) (by omega)) (by decide) dJ1_indexOfChar_4cfef_16 ?_
    refine V_iload C 1 dJ1_indexOfChar_4cfef_17 rfl ?_
    refine V_icmp_ne (tgt := 25) C dJ1_indexOfChar_4cfef_19 (by decide) (fun c_19 => ?_) (fun c_19 => ?_)
    · have ne1 := c_19
      refine V_iinc (v := 2) (L2 := [(5, .int 2), (4, .int (nI k)), (0, .ref (gB g)), (1, .int (nI k)), (2, .int 0), (3, .int 6)]) C 0 dJ1_indexOfChar_4cfef_25 rfl (by decide) (by decide) rfl ?_
      refine V_goto (tgt := 7) C dJ1_indexOfChar_4cfef_28 (by decide) ?_
      refine V_iload C 0 dJ1_indexOfChar_4cfef_7 rfl ?_
      refine V_iload_n C 5 dJ1_indexOfChar_4cfef_9 rfl rfl ?_
      refine V_icmp_ge (tgt := 31) C dJ1_indexOfChar_4cfef_10 (by decide) (fun h => absurd h (by decide)) (fun _ => ?_)
      refine V_aload_n C 2 dJ1_indexOfChar_4cfef_13 rfl rfl ?_
      refine V_iload C 0 dJ1_indexOfChar_4cfef_14 rfl ?_
      refine V_sbyt (b := 119) C (show vp_in 2 6 from vp_in_nI (n := 2) (by omega) (by omega)) (by decide) dJ1_indexOfChar_4cfef_16 ?_
      refine V_iload C 1 dJ1_indexOfChar_4cfef_17 rfl ?_
      refine V_icmp_ne (tgt := 25) C dJ1_indexOfChar_4cfef_19 (by decide) (fun c_19 => ?_) (fun c_19 => ?_)
      · have ne2 := c_19
        refine V_iinc (v := 3) (L2 := [(5, .int 3), (4, .int (nI k)), (0, .ref (gB g)), (1, .int (nI k)), (2, .int 0), (3, .int 6)]) C 0 dJ1_indexOfChar_4cfef_25 rfl (by decide) (by decide) rfl ?_
        refine V_goto (tgt := 7) C dJ1_indexOfChar_4cfef_28 (by decide) ?_
        refine V_iload C 0 dJ1_indexOfChar_4cfef_7 rfl ?_
        refine V_iload_n C 5 dJ1_indexOfChar_4cfef_9 rfl rfl ?_
        refine V_icmp_ge (tgt := 31) C dJ1_indexOfChar_4cfef_10 (by decide) (fun h => absurd h (by decide)) (fun _ => ?_)
        refine V_aload_n C 2 dJ1_indexOfChar_4cfef_13 rfl rfl ?_
        refine V_iload C 0 dJ1_indexOfChar_4cfef_14 rfl ?_
        refine V_sbyt (b := 115) C (show vp_in 3 6 from vp_in_nI (n := 3) (by omega) (by omega)) (by decide) dJ1_indexOfChar_4cfef_16 ?_
        refine V_iload C 1 dJ1_indexOfChar_4cfef_17 rfl ?_
        refine V_icmp_ne (tgt := 25) C dJ1_indexOfChar_4cfef_19 (by decide) (fun c_19 => ?_) (fun c_19 => ?_)
        · have ne3 := c_19
          refine V_iinc (v := 4) (L2 := [(5, .int 4), (4, .int (nI k)), (0, .ref (gB g)), (1, .int (nI k)), (2, .int 0), (3, .int 6)]) C 0 dJ1_indexOfChar_4cfef_25 rfl (by decide) (by decide) rfl ?_
          refine V_goto (tgt := 7) C dJ1_indexOfChar_4cfef_28 (by decide) ?_
          refine V_iload C 0 dJ1_indexOfChar_4cfef_7 rfl ?_
          refine V_iload_n C 5 dJ1_indexOfChar_4cfef_9 rfl rfl ?_
          refine V_icmp_ge (tgt := 31) C dJ1_indexOfChar_4cfef_10 (by decide) (fun h => absurd h (by decide)) (fun _ => ?_)
          refine V_aload_n C 2 dJ1_indexOfChar_4cfef_13 rfl rfl ?_
          refine V_iload C 0 dJ1_indexOfChar_4cfef_14 rfl ?_
          refine V_sbyt (b := 120) C (show vp_in 4 6 from vp_in_nI (n := 4) (by omega) (by omega)) (by decide) dJ1_indexOfChar_4cfef_16 ?_
          refine V_iload C 1 dJ1_indexOfChar_4cfef_17 rfl ?_
          refine V_icmp_ne (tgt := 25) C dJ1_indexOfChar_4cfef_19 (by decide) (fun c_19 => ?_) (fun c_19 => ?_)
          · have ne4 := c_19
            refine V_iinc (v := 5) (L2 := [(5, .int 5), (4, .int (nI k)), (0, .ref (gB g)), (1, .int (nI k)), (2, .int 0), (3, .int 6)]) C 0 dJ1_indexOfChar_4cfef_25 rfl (by decide) (by decide) rfl ?_
            refine V_goto (tgt := 7) C dJ1_indexOfChar_4cfef_28 (by decide) ?_
            refine V_iload C 0 dJ1_indexOfChar_4cfef_7 rfl ?_
            refine V_iload_n C 5 dJ1_indexOfChar_4cfef_9 rfl rfl ?_
            refine V_icmp_ge (tgt := 31) C dJ1_indexOfChar_4cfef_10 (by decide) (fun h => absurd h (by decide)) (fun _ => ?_)
            refine V_aload_n C 2 dJ1_indexOfChar_4cfef_13 rfl rfl ?_
            refine V_iload C 0 dJ1_indexOfChar_4cfef_14 rfl ?_
            refine V_sbyt (b := 101) C (show vp_in 5 6 from vp_in_nI (n := 5) (by omega) (by omega)) (by decide) dJ1_indexOfChar_4cfef_16 ?_
            refine V_iload C 1 dJ1_indexOfChar_4cfef_17 rfl ?_
            refine V_icmp_ne (tgt := 25) C dJ1_indexOfChar_4cfef_19 (by decide) (fun c_19 => ?_) (fun c_19 => ?_)
            · have ne5 := c_19
              refine V_iinc (v := 6) (L2 := [(5, .int 6), (4, .int (nI k)), (0, .ref (gB g)), (1, .int (nI k)), (2, .int 0), (3, .int 6)]) C 0 dJ1_indexOfChar_4cfef_25 rfl (by decide) (by decide) rfl ?_
              refine V_goto (tgt := 7) C dJ1_indexOfChar_4cfef_28 (by decide) ?_
              refine V_iload C 0 dJ1_indexOfChar_4cfef_7 rfl ?_
              refine V_iload_n C 5 dJ1_indexOfChar_4cfef_9 rfl rfl ?_
              refine V_icmp_ge (tgt := 31) C dJ1_indexOfChar_4cfef_10 (by decide) (fun _ => ?_) (fun h => absurd (by decide) h)
              refine V_iconst (v := (-1)) C dJ1_indexOfChar_4cfef_31 (by decide) ?_
              refine hret _ _ _ _ dJ1_indexOfChar_4cfef_32 ?_
              exact Or.inr ⟨fun h9 => by exact h9.elim (fun q9 => ne0 q9.symm) (fun h9 => h9.elim (fun q9 => ne1 q9.symm) (fun h9 => h9.elim (fun q9 => ne2 q9.symm) (fun h9 => h9.elim (fun q9 => ne3 q9.symm) (fun h9 => h9.elim (fun q9 => ne4 q9.symm) (fun q9 => ne5 q9.symm))))), rfl, rfl⟩
            · refine V_iload C 0 dJ1_indexOfChar_4cfef_22 rfl ?_
              refine hret _ _ _ _ dJ1_indexOfChar_4cfef_24 ?_
              exact Or.inl ⟨5, Or.inr (Or.inr (Or.inr (Or.inr (Or.inr (c_19.symm))))), by decide, rfl, rfl⟩
          · refine V_iload C 0 dJ1_indexOfChar_4cfef_22 rfl ?_
            refine hret _ _ _ _ dJ1_indexOfChar_4cfef_24 ?_
            exact Or.inl ⟨4, Or.inr (Or.inr (Or.inr (Or.inr (Or.inl c_19.symm)))), by decide, rfl, rfl⟩
        · refine V_iload C 0 dJ1_indexOfChar_4cfef_22 rfl ?_
          refine hret _ _ _ _ dJ1_indexOfChar_4cfef_24 ?_
          exact Or.inl ⟨3, Or.inr (Or.inr (Or.inr (Or.inl c_19.symm))), by decide, rfl, rfl⟩
      · refine V_iload C 0 dJ1_indexOfChar_4cfef_22 rfl ?_
        refine hret _ _ _ _ dJ1_indexOfChar_4cfef_24 ?_
        exact Or.inl ⟨2, Or.inr (Or.inr (Or.inl c_19.symm)), by decide, rfl, rfl⟩
    · refine V_iload C 0 dJ1_indexOfChar_4cfef_22 rfl ?_
      refine hret _ _ _ _ dJ1_indexOfChar_4cfef_24 ?_
      exact Or.inl ⟨1, Or.inr (Or.inl c_19.symm), by decide, rfl, rfl⟩
  · refine V_iload C 0 dJ1_indexOfChar_4cfef_22 rfl ?_
    refine hret _ _ _ _ dJ1_indexOfChar_4cfef_24 ?_
    exact Or.inl ⟨0, Or.inl c_19.symm, by decide, rfl, rfl⟩
set_option maxRecDepth 100000 in
set_option maxHeartbeats 4000000 in
theorem c_J1_indexOf_4cfef (g : Gd) (k : Nat) (hk : k ≤ 126) : Ki g yJ1_indexOf_4cfef cJ1_indexOf_4cfef 4 (some .int) 1 0 0 [.ref (gB g), .int (nI k), .int 0, .int 6] [] (fun (r : Int32) (w : va_W) => (∃ (v9 : Int32), isL (nI k) ∧ ¬ v9 < 0 ∧ r = v9 ∧ w = []) ∨ (¬ isL (nI k) ∧ r = (-1) ∧ w = [])) := by
  refine Ki.of (by decide) (Nat.le_of_ble_eq_true rfl) (fun X C hI hret => ?_)
  show V g X 0 0 [] 0 [(0, .ref (gB g)), (1, .int (nI k)), (2, .int 0), (3, .int 6)] []
  refine V_iload_n C 1 dJ1_indexOf_4cfef_0 rfl rfl ?_
  refine V_callSi (na := 1) (As := [.int (nI k)]) (rest := []) (wr := []) C (c_J1_canEncode_9a6ad g k (show k ≤ 126 from by first | assumption | omega | exact ix_nI (by omega) (by omega) | decide)) ⟨⟨ini_J1, co_J1_canEncode_9a6ad, ⟨by decide, by decide, by decide +kernel⟩, by decide⟩, ml_J1_88, sm_J1_canEncode_9a6ad⟩ [] [] rfl rfl rfl rfl (by decide) rfl rfl (Nat.le_of_ble_eq_true rfl) (by omega) (by omega) dJ1_indexOf_4cfef_1 (fun r_1 w_ hw_2 => ?_)
  obtain ⟨rfl, rfl⟩ := hw_2
  refine V_to (ws2 := []) ?_ rfl
  refine V_if_ne (tgt := 9) C dJ1_indexOf_4cfef_4 (by decide) (fun _ => ?_) (fun h => absurd h (by decide))
  refine V_iload_n C 2 dJ1_indexOf_4cfef_9 rfl rfl ?_
  refine V_iconst (v := 0) C dJ1_indexOf_4cfef_10 (by decide) ?_
  refine V_max C ml_J1_92 sm_math_max ini_math co_math_max (Nat.le_of_ble_eq_true rfl) (by omega) (by omega) dJ1_indexOf_4cfef_11 ?_
  refine V_ev (show (if 0 < 0 then 0 else 0 : Int32) = 0 from by decide) ?_
  refine V_istore_n (L2 := [(2, .int 0), (0, .ref (gB g)), (1, .int (nI k)), (3, .int 6)]) C dJ1_indexOf_4cfef_14 rfl (by decide) rfl ?_
  refine V_iload_n C 3 dJ1_indexOf_4cfef_15 rfl rfl ?_
  refine V_aload_n C 1 dJ1_indexOf_4cfef_16 rfl rfl ?_
  refine V_slen C dJ1_indexOf_4cfef_17 ?_
  refine V_min C ml_J1_38 sm_math_min ini_math co_math_min (Nat.le_of_ble_eq_true rfl) (by omega) (by omega) dJ1_indexOf_4cfef_18 ?_
  refine V_ev (show (if 6 < 6 then 6 else 6 : Int32) = 6 from by decide) ?_
  refine V_istore_n (L2 := [(3, .int 6), (2, .int 0), (0, .ref (gB g)), (1, .int (nI k))]) C dJ1_indexOf_4cfef_21 rfl (by decide) rfl ?_
  refine V_iload_n C 1 dJ1_indexOf_4cfef_22 rfl rfl ?_
  refine V_iload_n C 0 dJ1_indexOf_4cfef_23 rfl rfl ?_
  refine V_icmp_lt (tgt := 29) C dJ1_indexOf_4cfef_24 (by decide) (fun _ => ?_) (fun h => absurd (by decide) h)
  refine V_aload_n C 2 dJ1_indexOf_4cfef_29 rfl rfl ?_
  refine V_iload_n C 3 dJ1_indexOf_4cfef_30 rfl rfl ?_
  refine V_iload_n C 1 dJ1_indexOf_4cfef_31 rfl rfl ?_
  refine V_iload_n C 0 dJ1_indexOf_4cfef_32 rfl rfl ?_
  refine V_callSi (na := 4) (As := [.ref (gB g), .int (nI k), .int 0, .int 6]) (rest := []) (wr := []) C (c_J1_indexOfChar_4cfef g k (show k ≤ 126 from by first | assumption | omega | exact ix_nI (by omega) (by omega) | decide)) ⟨⟨ini_J1, co_J1_indexOfChar_4cfef, ⟨by decide, by decide, by decide +kernel⟩, by decide⟩, ml_J1_95, sm_J1_indexOfChar_4cfef⟩ [] [] rfl rfl rfl rfl (by decide) rfl rfl (Nat.le_of_ble_eq_true rfl) (by omega) (by omega) dJ1_indexOf_4cfef_33 (fun r_3 w_ hw_4 => ?_)
  rcases hw_4 with ⟨v9_5, hf5_0, hf5_1, hrr, rfl⟩ | ⟨hf5_0, rfl, rfl⟩
  · subst r_3
    refine V_to (ws2 := []) ?_ rfl
    refine hret _ _ _ _ dJ1_indexOf_4cfef_36 ?_
    exact Or.inl ⟨v9_5, hf5_0, hf5_1, rfl, rfl⟩
  · refine V_to (ws2 := []) ?_ rfl
    refine hret _ _ _ _ dJ1_indexOf_4cfef_36 ?_
    exact Or.inr ⟨hf5_0, rfl, rfl⟩
set_option maxRecDepth 100000 in
set_option maxHeartbeats 4000000 in
theorem c_J0_indexOf_7cf53 (g : Gd) (k : Nat) (hk : k ≤ 126) : Ki g yJ0_indexOf_7cf53 cJ0_indexOf_7cf53 3 (some .int) 2 0 0 [.ref (gS g), .int (nI k), .int 0] [] (fun (r : Int32) (w : va_W) => (∃ (v9 : Int32), isL (nI k) ∧ ¬ v9 < 0 ∧ r = v9 ∧ w = []) ∨ (¬ isL (nI k) ∧ r = (-1) ∧ w = [])) := by
  refine Ki.of (by decide) (Nat.le_of_ble_eq_true rfl) (fun X C hI hret => ?_)
  show V g X 0 0 [] 0 [(0, .ref (gS g)), (1, .int (nI k)), (2, .int 0)] []
  refine V_aload_n C 0 dJ0_indexOf_7cf53_0 rfl rfl ?_
  refine V_callTi  (na := 0) (As := []) (rest := []) (wr := []) C (c_J0_isLatin1_aae02 g  ) ⟨⟨ini_J0, co_J0_isLatin1_aae02, ⟨by decide, by decide, by decide +kernel⟩, by decide⟩, ml_J0_492, im_J0_isLatin1_aae02, se_J0_isLatin1_aae02⟩ [] [] rfl rfl rfl rfl (by decide) rfl rfl rfl (Nat.le_of_ble_eq_true rfl) (by omega) (by omega) dJ0_indexOf_7cf53_1 (fun r_1 w_ hw_2 => ?_)
  obtain ⟨rfl, rfl⟩ := hw_2
  refine V_to (ws2 := []) ?_ rfl
  refine V_if_eq (tgt := 23) C dJ0_indexOf_7cf53_4 (by decide) (fun h => absurd h (by decide)) (fun _ => ?_)
  refine V_aload_n C 0 dJ0_indexOf_7cf53_7 rfl rfl ?_
  refine V_sval C dJ0_indexOf_7cf53_8 ?_
  refine V_iload_n C 1 dJ0_indexOf_7cf53_11 rfl rfl ?_
  refine V_iload_n C 2 dJ0_indexOf_7cf53_12 rfl rfl ?_
  refine V_aload_n C 0 dJ0_indexOf_7cf53_13 rfl rfl ?_
  refine V_callTi  (na := 0) (As := []) (rest := [.int 0, .int (nI k), .ref (gB g)]) (wr := []) C (c_J0_length_8abf5 g  ) ⟨⟨ini_J0, co_J0_length_8abf5, ⟨by decide, by decide, by decide +kernel⟩, by decide⟩, ml_J0_505, im_J0_length_8abf5, se_J0_length_8abf5⟩ [] [] rfl rfl rfl rfl (by decide) rfl rfl rfl (Nat.le_of_ble_eq_true rfl) (by omega) (by omega) dJ0_indexOf_7cf53_14 (fun r_3 w_ hw_4 => ?_)
  obtain ⟨rfl, rfl⟩ := hw_4
  refine V_to (ws2 := []) ?_ rfl
  refine V_callSi (na := 4) (As := [.ref (gB g), .int (nI k), .int 0, .int 6]) (rest := []) (wr := []) C (c_J1_indexOf_4cfef g k (show k ≤ 126 from by first | assumption | omega | exact ix_nI (by omega) (by omega) | decide)) ⟨⟨ini_J1, co_J1_indexOf_4cfef, ⟨by decide, by decide, by decide +kernel⟩, by decide⟩, ml_J0_637, sm_J1_indexOf_4cfef⟩ [] [] rfl rfl rfl rfl (by decide) rfl rfl (Nat.le_of_ble_eq_true rfl) (by omega) (by omega) dJ0_indexOf_7cf53_17 (fun r_5 w_ hw_6 => ?_)
  rcases hw_6 with ⟨v9_7, hf7_0, hf7_1, hrr, rfl⟩ | ⟨hf7_0, rfl, rfl⟩
  · subst r_5
    refine V_to (ws2 := []) ?_ rfl
    refine V_goto (tgt := 36) C dJ0_indexOf_7cf53_20 (by decide) ?_
    refine hret _ _ _ _ dJ0_indexOf_7cf53_36 ?_
    exact Or.inl ⟨v9_7, hf7_0, hf7_1, rfl, rfl⟩
  · refine V_to (ws2 := []) ?_ rfl
    refine V_goto (tgt := 36) C dJ0_indexOf_7cf53_20 (by decide) ?_
    refine hret _ _ _ _ dJ0_indexOf_7cf53_36 ?_
    exact Or.inr ⟨hf7_0, rfl, rfl⟩
set_option maxRecDepth 100000 in
set_option maxHeartbeats 4000000 in
theorem c_J0_indexOf_0f7a4 (g : Gd) (k : Nat) (hk : k ≤ 126) : Ki g yJ0_indexOf_0f7a4 cJ0_indexOf_0f7a4 2 (some .int) 3 0 0 [.ref (gS g), .int (nI k)] [] (fun (r : Int32) (w : va_W) => (∃ (v9 : Int32), isL (nI k) ∧ ¬ v9 < 0 ∧ r = v9 ∧ w = []) ∨ (¬ isL (nI k) ∧ r = (-1) ∧ w = [])) := by
  refine Ki.of (by decide) (Nat.le_of_ble_eq_true rfl) (fun X C hI hret => ?_)
  show V g X 0 0 [] 0 [(0, .ref (gS g)), (1, .int (nI k))] []
  refine V_aload_n C 0 dJ0_indexOf_0f7a4_0 rfl rfl ?_
  refine V_iload_n C 1 dJ0_indexOf_0f7a4_1 rfl rfl ?_
  refine V_iconst (v := 0) C dJ0_indexOf_0f7a4_2 (by decide) ?_
  refine V_callTi  (na := 2) (As := [.int (nI k), .int 0]) (rest := []) (wr := []) C (c_J0_indexOf_7cf53 g k (show k ≤ 126 from by first | assumption | omega | exact ix_nI (by omega) (by omega) | decide)) ⟨⟨ini_J0, co_J0_indexOf_7cf53, ⟨by decide, by decide, by decide +kernel⟩, by decide⟩, ml_J0_633, im_J0_indexOf_7cf53, se_J0_indexOf_7cf53⟩ [] [] rfl rfl rfl rfl (by decide) rfl rfl rfl (Nat.le_of_ble_eq_true rfl) (by omega) (by omega) dJ0_indexOf_0f7a4_3 (fun r_1 w_ hw_2 => ?_)
  rcases hw_2 with ⟨v9_3, hf3_0, hf3_1, hrr, rfl⟩ | ⟨hf3_0, rfl, rfl⟩
  · subst r_1
    refine V_to (ws2 := []) ?_ rfl
    refine hret _ _ _ _ dJ0_indexOf_0f7a4_6 ?_
    exact Or.inl ⟨v9_3, hf3_0, hf3_1, rfl, rfl⟩
  · refine V_to (ws2 := []) ?_ rfl
    refine hret _ _ _ _ dJ0_indexOf_0f7a4_6 ?_
    exact Or.inr ⟨hf3_0, rfl, rfl⟩
