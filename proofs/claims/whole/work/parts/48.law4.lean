

theorem lt_end {nn ii : Nat} (hn : nn < 2 ^ 30) (hi : ii < 2 ^ 30) (h : ¬ (nI nn - 6 : Int32) < nI ii) : ii + 6 ≤ nn := by
  rcases Nat.lt_or_ge nn 6 with q | q
  · exfalso
    refine h ?_
    have h1 : nI nn - nI 6 < 0 := pk_sneg (by omega) q
    have h2 : (0 : Int32) ≤ nI ii := nI_pos' (by omega)
    exact Int32.lt_iff_toInt_lt.mpr (Int.lt_of_lt_of_le (Int32.lt_iff_toInt_lt.mp h1) (Int32.le_iff_toInt_le.mp h2))
  · have e : (nI nn - 6 : Int32) = nI (nn - 6) := pk_sub (b := 6) q
    rw [e] at h
    have h2 : ¬ nn - 6 < ii := fun w => h (nI_lt w (by omega))
    omega

set_option maxRecDepth 100000 in
set_option maxHeartbeats 1000000 in
theorem law_loop {g : Gd} {X : Bd} {d mc ms cs ss : Nat} {f0 h0 s0 p0 o0 d0 h1 p1 : Nat} {rf : Nat → Option Nat} {a0 a1 a2 a3 a4 a5 a6 a7 : Nat} {b nn : Nat} {xs : Nat → Int32} (C : Cx g X RL cL_law 4 d mc ms) (hd : 8 ≤ d) (hcs : cs ≤ mc ∧ ss ≤ ms) (hX : SC X b nn xs) (hnn : nn ≤ 3072) (hend : ∀ (ws : va_W) (L : List (Nat × Value)), V g X cs ss ws 783 L [.int 1]) : ∀ (fu ii B : Nat), ii ≤ nn → nn - ii < fu → B ≤ 82 * ii → LPR g X cs ss f0 h0 s0 p0 o0 d0 h1 p1 rf a0 a1 a2 a3 a4 a5 a6 a7 18 [(3, .int (nI ii)), (2, .ref a0), (1, .ref f0), (0, .ref b)] B := by
  intro fu
  induction fu with
  | zero => intro ii B h1 h2; exact absurd h2 (by omega)
  | succ fu ih =>
    intro ii B hb1 hb2 hb3
    intro j r0 r1 r2 r3 r4 r5 r6 mm mu mv f1 f2 hs ln cp o1 o2 o3 o4 D z past pm sl sv pd ty y od om sp wr h
    refine V_iload_n C 0 dL_law_18 rfl rfl ?_
    refine V_aload_n C 3 dL_law_19 rfl rfl ?_
    refine V_slenX C hX dL_law_20 ?_
    refine V_bipush (v := 6) C dL_law_21 (by decide) ?_
    refine V_isub C dL_law_23 ?_
    refine V_icmp_gt (tgt := 782) C dL_law_24 (by decide) (fun _ => ?_) (fun h9 => ?_)
    · refine V_iconst (v := 1) C dL_law_782 (by decide) ?_
      exact hend _ _
    · have hii := lt_end (by omega) (by omega) h9
      have hnn2 : nn < 2 ^ 31 := by omega
      have hB : B + 82 < 2 ^ 31 := by omega
      have hk : LPR g X cs ss f0 h0 s0 p0 o0 d0 h1 p1 rf a0 a1 a2 a3 a4 a5 a6 a7 776 [(3, .int (nI ii)), (2, .ref a0), (1, .ref f0), (0, .ref b)] (B + 82) := by
        clear h
        intro j r0 r1 r2 r3 r4 r5 r6 mm mu mv f1 f2 hs ln cp o1 o2 o3 o4 D z past pm sl sv pd ty y od om sp wr h
        refine V_iinc (v := nI (ii + 6)) (L2 := [(3, .int (nI (ii + 6))), (2, .ref a0), (1, .ref f0), (0, .ref b)]) C 0 dL_law_776 rfl (nI_add ii 6) (by decide) rfl ?_
        refine V_goto (tgt := 18) C dL_law_779 (by decide) ?_
        exact ih (ii + 6) (B + 82) (by omega) (by omega) (by omega) j r0 r1 r2 r3 r4 r5 r6 mm mu mv f1 f2 hs ln cp o1 o2 o3 o4 D z past pm sl sv pd ty y od om sp wr h
      refine V_aload_n C 3 dL_law_27 rfl rfl ?_
      refine V_iload_n C 0 dL_law_28 rfl rfl ?_
      refine V_sld C hX ii (by omega) hnn2 dL_law_29 ?_
      refine V_bipush (v := 31) C dL_law_30 (by decide) ?_
      refine V_iand C dL_law_32 ?_
      generalize xs ii &&& 31 = sw
      by_cases e_0 : sw = 0
      · subst e_0
        refine V_tabIn (tgt := 144) (off := 111) C dL_law_33 (by decide) (by decide) (by decide) (by decide) ?_
        exact ca_tariff C hd hcs hX hnn2 hii hB hk j r0 r1 r2 r3 r4 r5 r6 mm mu mv f1 f2 hs ln cp o1 o2 o3 o4 D z past pm sl sv pd ty y od om sp wr h
      by_cases e_1 : sw = 1
      · subst e_1
        refine V_tabIn (tgt := 207) (off := 174) C dL_law_33 (by decide) (by decide) (by decide) (by decide) ?_
        exact ca_hour C hd hcs hX hnn2 hii hB hk j r0 r1 r2 r3 r4 r5 r6 mm mu mv f1 f2 hs ln cp o1 o2 o3 o4 D z past pm sl sv pd ty y od om sp wr h
      by_cases e_2 : sw = 2
      · subst e_2
        refine V_tabIn (tgt := 240) (off := 207) C dL_law_33 (by decide) (by decide) (by decide) (by decide) ?_
        exact ca_priceOfExtra C hd hcs hX hnn2 hii hB hk j r0 r1 r2 r3 r4 r5 r6 mm mu mv f1 f2 hs ln cp o1 o2 o3 o4 D z past pm sl sv pd ty y od om sp wr h
      by_cases e_3 : sw = 3
      · subst e_3
        refine V_tabIn (tgt := 263) (off := 230) C dL_law_33 (by decide) (by decide) (by decide) (by decide) ?_
        exact ca_hire C hd hcs hX hnn2 hii hB hk j r0 r1 r2 r3 r4 r5 r6 mm mu mv f1 f2 hs ln cp o1 o2 o3 o4 D z past pm sl sv pd ty y od om sp wr h
      by_cases e_4 : sw = 4
      · subst e_4
        refine V_tabIn (tgt := 276) (off := 243) C dL_law_33 (by decide) (by decide) (by decide) (by decide) ?_
        exact ca_drive C hd hcs hX hnn2 hii hB hk j r0 r1 r2 r3 r4 r5 r6 mm mu mv f1 f2 hs ln cp o1 o2 o3 o4 D z past pm sl sv pd ty y od om sp wr h
      by_cases e_5 : sw = 5
      · subst e_5
        refine V_tabIn (tgt := 309) (off := 276) C dL_law_33 (by decide) (by decide) (by decide) (by decide) ?_
        exact ca_rest C hd hcs hX hnn2 hii hB hk j r0 r1 r2 r3 r4 r5 r6 mm mu mv f1 f2 hs ln cp o1 o2 o3 o4 D z past pm sl sv pd ty y od om sp wr h
      by_cases e_6 : sw = 6
      · subst e_6
        refine V_tabIn (tgt := 332) (off := 299) C dL_law_33 (by decide) (by decide) (by decide) (by decide) ?_
        exact ca_halt C hd hcs hX hnn2 hii hB hk j r0 r1 r2 r3 r4 r5 r6 mm mu mv f1 f2 hs ln cp o1 o2 o3 o4 D z past pm sl sv pd ty y od om sp wr h
      by_cases e_7 : sw = 7
      · subst e_7
        refine V_tabIn (tgt := 345) (off := 312) C dL_law_33 (by decide) (by decide) (by decide) (by decide) ?_
        exact ca_extra C hd hcs hX hnn2 hii hB hk j r0 r1 r2 r3 r4 r5 r6 mm mu mv f1 f2 hs ln cp o1 o2 o3 o4 D z past pm sl sv pd ty y od om sp wr h
      by_cases e_8 : sw = 8
      · subst e_8
        refine V_tabIn (tgt := 358) (off := 325) C dL_law_33 (by decide) (by decide) (by decide) (by decide) ?_
        exact ca_end C hd hcs hX hnn2 hii hB hk j r0 r1 r2 r3 r4 r5 r6 mm mu mv f1 f2 hs ln cp o1 o2 o3 o4 D z past pm sl sv pd ty y od om sp wr h
      by_cases e_9 : sw = 9
      · subst e_9
        refine V_tabIn (tgt := 371) (off := 338) C dL_law_33 (by decide) (by decide) (by decide) (by decide) ?_
        exact ca_ofTariff C hd hcs hX hnn2 hii hB hk j r0 r1 r2 r3 r4 r5 r6 mm mu mv f1 f2 hs ln cp o1 o2 o3 o4 D z past pm sl sv pd ty y od om sp wr h
      by_cases e_10 : sw = 10
      · subst e_10
        refine V_tabIn (tgt := 404) (off := 371) C dL_law_33 (by decide) (by decide) (by decide) (by decide) ?_
        exact ca_ride C hd hcs hX hnn2 hii hB hk j r0 r1 r2 r3 r4 r5 r6 mm mu mv f1 f2 hs ln cp o1 o2 o3 o4 D z past pm sl sv pd ty y od om sp wr h
      by_cases e_11 : sw = 11
      · subst e_11
        refine V_tabIn (tgt := 427) (off := 394) C dL_law_33 (by decide) (by decide) (by decide) (by decide) ?_
        exact ca_log C hd hcs hX hnn2 hii hB hk j r0 r1 r2 r3 r4 r5 r6 mm mu mv f1 f2 hs ln cp o1 o2 o3 o4 D z past pm sl sv pd ty y od om sp wr h
      by_cases e_12 : sw = 12
      · subst e_12
        refine V_tabIn (tgt := 460) (off := 427) C dL_law_33 (by decide) (by decide) (by decide) (by decide) ?_
        exact ca_count C hd hcs hX hnn2 hii hB hk j r0 r1 r2 r3 r4 r5 r6 mm mu mv f1 f2 hs ln cp o1 o2 o3 o4 D z past pm sl sv pd ty y od om sp wr h
      by_cases e_13 : sw = 13
      · subst e_13
        refine V_tabIn (tgt := 483) (off := 450) C dL_law_33 (by decide) (by decide) (by decide) (by decide) ?_
        exact ca_would C hd hcs hX hnn2 hii hB hk j r0 r1 r2 r3 r4 r5 r6 mm mu mv f1 f2 hs ln cp o1 o2 o3 o4 D z past pm sl sv pd ty y od om sp wr h
      by_cases e_14 : sw = 14
      · subst e_14
        refine V_tabIn (tgt := 516) (off := 483) C dL_law_33 (by decide) (by decide) (by decide) (by decide) ?_
        exact ca_price C hd hcs hX hnn2 hii hB hk j r0 r1 r2 r3 r4 r5 r6 mm mu mv f1 f2 hs ln cp o1 o2 o3 o4 D z past pm sl sv pd ty y od om sp wr h
      by_cases e_15 : sw = 15
      · subst e_15
        refine V_tabIn (tgt := 549) (off := 516) C dL_law_33 (by decide) (by decide) (by decide) (by decide) ?_
        exact ca_farthest C hd hcs hX hnn2 hii hB hk j r0 r1 r2 r3 r4 r5 r6 mm mu mv f1 f2 hs ln cp o1 o2 o3 o4 D z past pm sl sv pd ty y od om sp wr h
      by_cases e_16 : sw = 16
      · subst e_16
        refine V_tabIn (tgt := 582) (off := 549) C dL_law_33 (by decide) (by decide) (by decide) (by decide) ?_
        exact ca_cheapest C hd hcs hX hnn2 hii hB hk j r0 r1 r2 r3 r4 r5 r6 mm mu mv f1 f2 hs ln cp o1 o2 o3 o4 D z past pm sl sv pd ty y od om sp wr h
      by_cases e_17 : sw = 17
      · subst e_17
        refine V_tabIn (tgt := 625) (off := 592) C dL_law_33 (by decide) (by decide) (by decide) (by decide) ?_
        exact ca_put C hd hcs hX hnn2 hii hB hk j r0 r1 r2 r3 r4 r5 r6 mm mu mv f1 f2 hs ln cp o1 o2 o3 o4 D z past pm sl sv pd ty y od om sp wr h
      by_cases e_18 : sw = 18
      · subst e_18
        refine V_tabIn (tgt := 678) (off := 645) C dL_law_33 (by decide) (by decide) (by decide) (by decide) ?_
        exact ca_wipe C hd hcs hX hnn2 hii hB hk j r0 r1 r2 r3 r4 r5 r6 mm mu mv f1 f2 hs ln cp o1 o2 o3 o4 D z past pm sl sv pd ty y od om sp wr h
      by_cases e_19 : sw = 19
      · subst e_19
        refine V_tabIn (tgt := 691) (off := 658) C dL_law_33 (by decide) (by decide) (by decide) (by decide) ?_
        exact ca_fault C hd hcs hX hnn2 hii hB hk j r0 r1 r2 r3 r4 r5 r6 mm mu mv f1 f2 hs ln cp o1 o2 o3 o4 D z past pm sl sv pd ty y od om sp wr h
      by_cases e_20 : sw = 20
      · subst e_20
        refine V_tabIn (tgt := 704) (off := 671) C dL_law_33 (by decide) (by decide) (by decide) (by decide) ?_
        exact ca_carryOut C hd hcs hX hnn2 hii hB hk j r0 r1 r2 r3 r4 r5 r6 mm mu mv f1 f2 hs ln cp o1 o2 o3 o4 D z past pm sl sv pd ty y od om sp wr h
      by_cases e_21 : sw = 21
      · subst e_21
        refine V_tabIn (tgt := 717) (off := 684) C dL_law_33 (by decide) (by decide) (by decide) (by decide) ?_
        exact ca_undo C hd hcs hX hnn2 hii hB hk j r0 r1 r2 r3 r4 r5 r6 mm mu mv f1 f2 hs ln cp o1 o2 o3 o4 D z past pm sl sv pd ty y od om sp wr h
      by_cases e_22 : sw = 22
      · subst e_22
        refine V_tabIn (tgt := 730) (off := 697) C dL_law_33 (by decide) (by decide) (by decide) (by decide) ?_
        exact ca_save C hd hcs hX hnn2 hii hB hk j r0 r1 r2 r3 r4 r5 r6 mm mu mv f1 f2 hs ln cp o1 o2 o3 o4 D z past pm sl sv pd ty y od om sp wr h
      by_cases e_23 : sw = 23
      · subst e_23
        refine V_tabIn (tgt := 753) (off := 720) C dL_law_33 (by decide) (by decide) (by decide) (by decide) ?_
        exact ca_restore C hd hcs hX hnn2 hii hB hk j r0 r1 r2 r3 r4 r5 r6 mm mu mv f1 f2 hs ln cp o1 o2 o3 o4 D z past pm sl sv pd ty y od om sp wr h
      refine V_tabOut (tgt := 776) C dL_law_33 (tab_out (lo := 0) (hi := 23) (fun i h1 h2 => ?_)) (by decide) ?_
      · intro q
        rcases (show i = 0 ∨ i = 1 ∨ i = 2 ∨ i = 3 ∨ i = 4 ∨ i = 5 ∨ i = 6 ∨ i = 7 ∨ i = 8 ∨ i = 9 ∨ i = 10 ∨ i = 11 ∨ i = 12 ∨ i = 13 ∨ i = 14 ∨ i = 15 ∨ i = 16 ∨ i = 17 ∨ i = 18 ∨ i = 19 ∨ i = 20 ∨ i = 21 ∨ i = 22 ∨ i = 23 by omega) with rfl | rfl | rfl | rfl | rfl | rfl | rfl | rfl | rfl | rfl | rfl | rfl | rfl | rfl | rfl | rfl | rfl | rfl | rfl | rfl | rfl | rfl | rfl | rfl
        · exact e_0 (Int32.toInt_inj.mp (q.trans (by decide)))
        · exact e_1 (Int32.toInt_inj.mp (q.trans (by decide)))
        · exact e_2 (Int32.toInt_inj.mp (q.trans (by decide)))
        · exact e_3 (Int32.toInt_inj.mp (q.trans (by decide)))
        · exact e_4 (Int32.toInt_inj.mp (q.trans (by decide)))
        · exact e_5 (Int32.toInt_inj.mp (q.trans (by decide)))
        · exact e_6 (Int32.toInt_inj.mp (q.trans (by decide)))
        · exact e_7 (Int32.toInt_inj.mp (q.trans (by decide)))
        · exact e_8 (Int32.toInt_inj.mp (q.trans (by decide)))
        · exact e_9 (Int32.toInt_inj.mp (q.trans (by decide)))
        · exact e_10 (Int32.toInt_inj.mp (q.trans (by decide)))
        · exact e_11 (Int32.toInt_inj.mp (q.trans (by decide)))
        · exact e_12 (Int32.toInt_inj.mp (q.trans (by decide)))
        · exact e_13 (Int32.toInt_inj.mp (q.trans (by decide)))
        · exact e_14 (Int32.toInt_inj.mp (q.trans (by decide)))
        · exact e_15 (Int32.toInt_inj.mp (q.trans (by decide)))
        · exact e_16 (Int32.toInt_inj.mp (q.trans (by decide)))
        · exact e_17 (Int32.toInt_inj.mp (q.trans (by decide)))
        · exact e_18 (Int32.toInt_inj.mp (q.trans (by decide)))
        · exact e_19 (Int32.toInt_inj.mp (q.trans (by decide)))
        · exact e_20 (Int32.toInt_inj.mp (q.trans (by decide)))
        · exact e_21 (Int32.toInt_inj.mp (q.trans (by decide)))
        · exact e_22 (Int32.toInt_inj.mp (q.trans (by decide)))
        · exact e_23 (Int32.toInt_inj.mp (q.trans (by decide)))
      · exact hk j r0 r1 r2 r3 r4 r5 r6 mm mu mv f1 f2 hs ln cp o1 o2 o3 o4 D z past pm sl sv pd ty y od om sp wr (h.up (by omega))
