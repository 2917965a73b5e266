
set_option maxRecDepth 100000 in
set_option maxHeartbeats 4000000 in
theorem c_X10_tariff (g : Gd) (h0 : Nat) (h1 : Nat) (h2 : Nat) (h3 : Nat) (h4 : Nat) (h5 : Nat) (h6 : Nat) (h7 : Nat) (pm : Nat) (ty : Int32) (om : Int32) (sp : Int32) (wr : Int32) (z : Nat → Int32) (past : Nat → Int32) (tt : Int32) (bb : Int32) (dd : Int32) (ww : Int32) (qq : Int32) (hpm : pm ≤ 6) : Ki g yX10_tariff cX10_tariff 7 (some .int) 2 0 0 [.ref h0, .int tt, .int bb, .int dd, .int ww, .int qq] [(h0, .inr (10, [.ref h1, .ref h2, .ref h3, .ref h4, .int (nI pm), .ref h5, .ref h6, .int ty, .ref h7, .int om, .int sp, .int wr])), (h1, .inl (gI g, 113, .inl z)), (h2, .inl (gI g, 678, .inl past))] (fun (r : Int32) (w : va_W) => (¬ okT tt ∧ r = (-1) ∧ w = [(h0, .inr (10, [.ref h1, .ref h2, .ref h3, .ref h4, .int (nI pm), .ref h5, .ref h6, .int ty, .ref h7, .int om, .int sp, .int wr])), (h1, .inl (gI g, 113, .inl z)), (h2, .inl (gI g, 678, .inl past))]) ∨ (okT tt ∧ ¬ okV bb dd ww qq ∧ r = (-2) ∧ w = [(h0, .inr (10, [.ref h1, .ref h2, .ref h3, .ref h4, .int (nI pm), .ref h5, .ref h6, .int ty, .ref h7, .int om, .int sp, .int wr])), (h1, .inl (gI g, 113, .inl z)), (h2, .inl (gI g, 678, .inl past))]) ∨ (∃ (t0 : Nat), t0 < 3 ∧ tt = nI t0 ∧ okV bb dd ww qq ∧ r = z (4 * t0 + 1) ∧ w = [(h0, .inr (10, [.ref h1, .ref h2, .ref h3, .ref h4, .int (nI (min (pm + 1) 6)), .ref h5, .ref h6, .int ty, .ref h7, .int om, .int sp, .int wr])), (h1, .inl (gI g, 113, .inl (tarZ z t0 bb dd ww qq))), (h2, .inl (gI g, 678, .inl (recP z past pm)))])) := by
  refine Ki.of (by decide) (Nat.le_of_ble_eq_true rfl) (fun X C hI hret => ?_)
  show V g X 0 0 [(h0, .inr (10, [.ref h1, .ref h2, .ref h3, .ref h4, .int (nI pm), .ref h5, .ref h6, .int ty, .ref h7, .int om, .int sp, .int wr])), (h1, .inl (gI g, 113, .inl z)), (h2, .inl (gI g, 678, .inl past))] 0 [(0, .ref h0), (1, .int tt), (2, .int bb), (3, .int dd), (4, .int ww), (5, .int qq)] []
  refine V_iload_n C 1 dX10_tariff_0 rfl rfl ?_
  refine V_callSi (na := 1) (As := [.int tt]) (rest := []) (wr := [(h0, .inr (10, [.ref h1, .ref h2, .ref h3, .ref h4, .int (nI pm), .ref h5, .ref h6, .int ty, .ref h7, .int om, .int sp, .int wr])), (h1, .inl (gI g, 113, .inl z)), (h2, .inl (gI g, 678, .inl past))]) C (c_X10_isTariff g tt ) ⟨⟨ini_X10, co_X10_isTariff, ⟨by decide, by decide, by decide +kernel⟩, by decide⟩, ml_X10_48, sm_X10_isTariff⟩ [] [0, 1, 2] rfl rfl rfl rfl (by decide) rfl rfl (Nat.le_of_ble_eq_true rfl) (by omega) (by omega) dX10_tariff_1 (fun r_1 w_ hw_2 => ?_)
  rcases hw_2 with ⟨hf2_0, rfl, rfl⟩ | ⟨hf2_0, rfl, rfl⟩
  · refine V_to (ws2 := [(h0, .inr (10, [.ref h1, .ref h2, .ref h3, .ref h4, .int (nI pm), .ref h5, .ref h6, .int ty, .ref h7, .int om, .int sp, .int wr])), (h1, .inl (gI g, 113, .inl z)), (h2, .inl (gI g, 678, .inl past))]) ?_ rfl
    refine V_if_ne (tgt := 9) C dX10_tariff_4 (by decide) (fun _ => ?_) (fun h => absurd h (by decide))
    refine V_iload_n C 2 dX10_tariff_9 rfl rfl ?_
    refine V_iconst (v := 0) C dX10_tariff_10 (by decide) ?_
    refine V_sipush (v := 999) C dX10_tariff_11 (by decide) ?_
    refine V_callSi (na := 3) (As := [.int bb, .int 0, .int 999]) (rest := []) (wr := [(h0, .inr (10, [.ref h1, .ref h2, .ref h3, .ref h4, .int (nI pm), .ref h5, .ref h6, .int ty, .ref h7, .int om, .int sp, .int wr])), (h1, .inl (gI g, 113, .inl z)), (h2, .inl (gI g, 678, .inl past))]) C (c_X10_in g bb 0 999 ) ⟨⟨ini_X10, co_X10_in, ⟨by decide, by decide, by decide +kernel⟩, by decide⟩, ml_X10_33, sm_X10_in⟩ [] [0, 1, 2] rfl rfl rfl rfl (by decide) rfl rfl (Nat.le_of_ble_eq_true rfl) (by omega) (by omega) dX10_tariff_14 (fun r_3 w_ hw_4 => ?_)
    rcases hw_4 with ⟨hf4_0, hf4_1, rfl, rfl⟩ | ⟨hf4_0, rfl, rfl⟩
    · refine V_to (ws2 := [(h0, .inr (10, [.ref h1, .ref h2, .ref h3, .ref h4, .int (nI pm), .ref h5, .ref h6, .int ty, .ref h7, .int om, .int sp, .int wr])), (h1, .inl (gI g, 113, .inl z)), (h2, .inl (gI g, 678, .inl past))]) ?_ rfl
      refine V_if_eq (tgt := 54) C dX10_tariff_17 (by decide) (fun h => absurd h (by decide)) (fun _ => ?_)
      refine V_iload_n C 3 dX10_tariff_20 rfl rfl ?_
      refine V_iconst (v := 1) C dX10_tariff_21 (by decide) ?_
      refine V_bipush (v := 99) C dX10_tariff_22 (by decide) ?_
      refine V_callSi (na := 3) (As := [.int dd, .int 1, .int 99]) (rest := []) (wr := [(h0, .inr (10, [.ref h1, .ref h2, .ref h3, .ref h4, .int (nI pm), .ref h5, .ref h6, .int ty, .ref h7, .int om, .int sp, .int wr])), (h1, .inl (gI g, 113, .inl z)), (h2, .inl (gI g, 678, .inl past))]) C (c_X10_in g dd 1 99 ) ⟨⟨ini_X10, co_X10_in, ⟨by decide, by decide, by decide +kernel⟩, by decide⟩, ml_X10_33, sm_X10_in⟩ [] [0, 1, 2] rfl rfl rfl rfl (by decide) rfl rfl (Nat.le_of_ble_eq_true rfl) (by omega) (by omega) dX10_tariff_24 (fun r_5 w_ hw_6 => ?_)
      rcases hw_6 with ⟨hf6_0, hf6_1, rfl, rfl⟩ | ⟨hf6_0, rfl, rfl⟩
      · refine V_to (ws2 := [(h0, .inr (10, [.ref h1, .ref h2, .ref h3, .ref h4, .int (nI pm), .ref h5, .ref h6, .int ty, .ref h7, .int om, .int sp, .int wr])), (h1, .inl (gI g, 113, .inl z)), (h2, .inl (gI g, 678, .inl past))]) ?_ rfl
        refine V_if_eq (tgt := 54) C dX10_tariff_27 (by decide) (fun h => absurd h (by decide)) (fun _ => ?_)
        refine V_iload C 4 dX10_tariff_30 rfl ?_
        refine V_iconst (v := 1) C dX10_tariff_32 (by decide) ?_
        refine V_sipush (v := 999) C dX10_tariff_33 (by decide) ?_
        refine V_callSi (na := 3) (As := [.int ww, .int 1, .int 999]) (rest := []) (wr := [(h0, .inr (10, [.ref h1, .ref h2, .ref h3, .ref h4, .int (nI pm), .ref h5, .ref h6, .int ty, .ref h7, .int om, .int sp, .int wr])), (h1, .inl (gI g, 113, .inl z)), (h2, .inl (gI g, 678, .inl past))]) C (c_X10_in g ww 1 999 ) ⟨⟨ini_X10, co_X10_in, ⟨by decide, by decide, by decide +kernel⟩, by decide⟩, ml_X10_33, sm_X10_in⟩ [] [0, 1, 2] rfl rfl rfl rfl (by decide) rfl rfl (Nat.le_of_ble_eq_true rfl) (by omega) (by omega) dX10_tariff_36 (fun r_7 w_ hw_8 => ?_)
        rcases hw_8 with ⟨hf8_0, hf8_1, rfl, rfl⟩ | ⟨hf8_0, rfl, rfl⟩
        · refine V_to (ws2 := [(h0, .inr (10, [.ref h1, .ref h2, .ref h3, .ref h4, .int (nI pm), .ref h5, .ref h6, .int ty, .ref h7, .int om, .int sp, .int wr])), (h1, .inl (gI g, 113, .inl z)), (h2, .inl (gI g, 678, .inl past))]) ?_ rfl
          refine V_if_eq (tgt := 54) C dX10_tariff_39 (by decide) (fun h => absurd h (by decide)) (fun _ => ?_)
          refine V_iload C 5 dX10_tariff_42 rfl ?_
          refine V_iconst (v := 1) C dX10_tariff_44 (by decide) ?_
          refine V_sipush (v := 999) C dX10_tariff_45 (by decide) ?_
          refine V_callSi (na := 3) (As := [.int qq, .int 1, .int 999]) (rest := []) (wr := [(h0, .inr (10, [.ref h1, .ref h2, .ref h3, .ref h4, .int (nI pm), .ref h5, .ref h6, .int ty, .ref h7, .int om, .int sp, .int wr])), (h1, .inl (gI g, 113, .inl z)), (h2, .inl (gI g, 678, .inl past))]) C (c_X10_in g qq 1 999 ) ⟨⟨ini_X10, co_X10_in, ⟨by decide, by decide, by decide +kernel⟩, by decide⟩, ml_X10_33, sm_X10_in⟩ [] [0, 1, 2] rfl rfl rfl rfl (by decide) rfl rfl (Nat.le_of_ble_eq_true rfl) (by omega) (by omega) dX10_tariff_48 (fun r_9 w_ hw_10 => ?_)
          rcases hw_10 with ⟨hf10_0, hf10_1, rfl, rfl⟩ | ⟨hf10_0, rfl, rfl⟩
          · refine V_to (ws2 := [(h0, .inr (10, [.ref h1, .ref h2, .ref h3, .ref h4, .int (nI pm), .ref h5, .ref h6, .int ty, .ref h7, .int om, .int sp, .int wr])), (h1, .inl (gI g, 113, .inl z)), (h2, .inl (gI g, 678, .inl past))]) ?_ rfl
            refine V_if_ne (tgt := 57) C dX10_tariff_51 (by decide) (fun _ => ?_) (fun h => absurd h (by decide))
            obtain ⟨t0, -, ht0, rfl⟩ := rg_nI 0 2 rfl rfl (by omega) (by omega) hf2_0.1 hf2_0.2
            have ht0 : t0 < 3 := by omega
            refine V_aload_n C 0 dX10_tariff_57 rfl rfl ?_
            refine V_callVv (q0 := 0) (na := 0) (As := []) (rest := []) (wr := []) C (c_X10_record g h0 h1 h2 h3 h4 h5 h6 h7 pm ty om sp wr z past (show pm ≤ 6 from by first | assumption | omega | exact ix_nI (by omega) (by omega) | decide)) ⟨⟨ini_X10, co_X10_record, ⟨by decide, by decide, by decide +kernel⟩, by decide⟩, ml_X10_45, im_X10_record, se_X10_record⟩ [0, 1, 2] [] rfl rfl rfl rfl (by decide) rfl rfl rfl rfl (Nat.le_of_ble_eq_true rfl) (by omega) (by omega) dX10_tariff_58 (fun w_ hw_12 => ?_)
            obtain rfl := hw_12
            refine V_to (ws2 := [(h0, .inr (10, [.ref h1, .ref h2, .ref h3, .ref h4, .int (nI (min (pm + 1) 6)), .ref h5, .ref h6, .int ty, .ref h7, .int om, .int sp, .int wr])), (h1, .inl (gI g, 113, .inl z)), (h2, .inl (gI g, 678, .inl (recP z past pm)))]) ?_ rfl
            refine V_aload_n C 0 dX10_tariff_61 rfl rfl ?_
            refine V_iload_n C 1 dX10_tariff_62 rfl rfl ?_
            refine V_iconst (v := 1) C dX10_tariff_63 (by decide) ?_
            refine V_callVi (q0 := 0) (na := 2) (As := [.int (nI t0), .int 1]) (rest := []) (wr := [(h2, .inl (gI g, 678, .inl (recP z past pm)))]) C (c_X10_its g h0 h1 h2 h3 h4 h5 h6 h7 (nI (min (pm + 1) 6)) ty om sp wr z t0 1 (show t0 < 3 from by first | assumption | omega | exact ix_nI (by omega) (by omega) | decide) (show 1 < 4 from by first | assumption | omega | exact ix_nI (by omega) (by omega) | decide)) ⟨⟨ini_X10, co_X10_its, ⟨by decide, by decide, by decide +kernel⟩, by decide⟩, ml_X10_37, im_X10_its, se_X10_its⟩ [0, 1] [2] rfl rfl rfl rfl (by decide) rfl rfl rfl rfl (Nat.le_of_ble_eq_true rfl) (by omega) (by omega) dX10_tariff_64 (fun r_13 w_ hw_14 => ?_)
            obtain ⟨rfl, rfl⟩ := hw_14
            refine V_to (ws2 := [(h2, .inl (gI g, 678, .inl (recP z past pm))), (h0, .inr (10, [.ref h1, .ref h2, .ref h3, .ref h4, .int (nI (min (pm + 1) 6)), .ref h5, .ref h6, .int ty, .ref h7, .int om, .int sp, .int wr])), (h1, .inl (gI g, 113, .inl z))]) ?_ rfl
            refine V_istore (L2 := [(6, .int (z (4 * t0 + 1))), (0, .ref h0), (1, .int (nI t0)), (2, .int bb), (3, .int dd), (4, .int ww), (5, .int qq)]) C dX10_tariff_67 (by decide) rfl ?_
            refine V_aload_n C 1 dX10_tariff_69 rfl rfl ?_
            refine V_get (v := .ref h1) C 1 rfl rfl in_X10 0 (by decide) fl_X10_7 rfl rfl dX10_tariff_70 ?_
            refine V_iconst (v := 0) C dX10_tariff_73 (by decide) ?_
            refine V_iconst (v := 4) C dX10_tariff_74 (by decide) ?_
            refine V_iload_n C 2 dX10_tariff_75 rfl rfl ?_
            refine V_imul C dX10_tariff_76 ?_
            refine V_ev (show (4 * (nI t0) : Int32) = nI (4 * t0) from pk_mul 4 t0) ?_
            refine V_iadd C dX10_tariff_77 ?_
            refine V_ev (show (0 + (nI (4 * t0)) : Int32) = nI (4 * t0) from Int32.zero_add _) ?_
            refine V_iload_n C 3 dX10_tariff_78 rfl rfl ?_
            refine V_iast (ws2 := [(h2, .inl (gI g, 678, .inl (recP z past pm))), (h0, .inr (10, [.ref h1, .ref h2, .ref h3, .ref h4, .int (nI (min (pm + 1) 6)), .ref h5, .ref h6, .int ty, .ref h7, .int om, .int sp, .int wr])), (h1, .inl (gI g, 113, .inl (upd z (4 * t0) bb)))]) C 2 rfl (ix_nI (show 4 * t0 < 113 by omega) (by omega)) dX10_tariff_79 rfl ?_
            refine V_aload_n C 1 dX10_tariff_80 rfl rfl ?_
            refine V_get (v := .ref h1) C 1 rfl rfl in_X10 0 (by decide) fl_X10_7 rfl rfl dX10_tariff_81 ?_
            refine V_iconst (v := 0) C dX10_tariff_84 (by decide) ?_
            refine V_iconst (v := 4) C dX10_tariff_85 (by decide) ?_
            refine V_iload_n C 2 dX10_tariff_86 rfl rfl ?_
            refine V_imul C dX10_tariff_87 ?_
            refine V_ev (show (4 * (nI t0) : Int32) = nI (4 * t0) from pk_mul 4 t0) ?_
            refine V_iadd C dX10_tariff_88 ?_
            refine V_ev (show (0 + (nI (4 * t0)) : Int32) = nI (4 * t0) from Int32.zero_add _) ?_
            refine V_iconst (v := 1) C dX10_tariff_89 (by decide) ?_
            refine V_iadd C dX10_tariff_90 ?_
            refine V_ev (show ((nI (4 * t0)) + 1 : Int32) = nI ((4 * t0) + 1) from nI_add (4 * t0) 1) ?_
            refine V_iload_n C 4 dX10_tariff_91 rfl rfl ?_
            refine V_iast (ws2 := [(h2, .inl (gI g, 678, .inl (recP z past pm))), (h0, .inr (10, [.ref h1, .ref h2, .ref h3, .ref h4, .int (nI (min (pm + 1) 6)), .ref h5, .ref h6, .int ty, .ref h7, .int om, .int sp, .int wr])), (h1, .inl (gI g, 113, .inl (upd (upd z (4 * t0) bb) ((4 * t0) + 1) dd)))]) C 2 rfl (ix_nI (show (4 * t0) + 1 < 113 by omega) (by omega)) dX10_tariff_92 rfl ?_
            refine V_aload_n C 1 dX10_tariff_93 rfl rfl ?_
            refine V_get (v := .ref h1) C 1 rfl rfl in_X10 0 (by decide) fl_X10_7 rfl rfl dX10_tariff_94 ?_
            refine V_iconst (v := 0) C dX10_tariff_97 (by decide) ?_
            refine V_iconst (v := 4) C dX10_tariff_98 (by decide) ?_
            refine V_iload_n C 2 dX10_tariff_99 rfl rfl ?_
            refine V_imul C dX10_tariff_100 ?_
            refine V_ev (show (4 * (nI t0) : Int32) = nI (4 * t0) from pk_mul 4 t0) ?_
            refine V_iadd C dX10_tariff_101 ?_
            refine V_ev (show (0 + (nI (4 * t0)) : Int32) = nI (4 * t0) from Int32.zero_add _) ?_
            refine V_iconst (v := 2) C dX10_tariff_102 (by decide) ?_
            refine V_iadd C dX10_tariff_103 ?_
            refine V_ev (show ((nI (4 * t0)) + 2 : Int32) = nI ((4 * t0) + 2) from nI_add (4 * t0) 2) ?_
            refine V_iload C 5 dX10_tariff_104 rfl ?_
            refine V_iast (ws2 := [(h2, .inl (gI g, 678, .inl (recP z past pm))), (h0, .inr (10, [.ref h1, .ref h2, .ref h3, .ref h4, .int (nI (min (pm + 1) 6)), .ref h5, .ref h6, .int ty, .ref h7, .int om, .int sp, .int wr])), (h1, .inl (gI g, 113, .inl (upd (upd (upd z (4 * t0) bb) ((4 * t0) + 1) dd) ((4 * t0) + 2) ww)))]) C 2 rfl (ix_nI (show (4 * t0) + 2 < 113 by omega) (by omega)) dX10_tariff_106 rfl ?_
            refine V_aload_n C 1 dX10_tariff_107 rfl rfl ?_
            refine V_get (v := .ref h1) C 1 rfl rfl in_X10 0 (by decide) fl_X10_7 rfl rfl dX10_tariff_108 ?_
            refine V_iconst (v := 0) C dX10_tariff_111 (by decide) ?_
            refine V_iconst (v := 4) C dX10_tariff_112 (by decide) ?_
            refine V_iload_n C 2 dX10_tariff_113 rfl rfl ?_
            refine V_imul C dX10_tariff_114 ?_
            refine V_ev (show (4 * (nI t0) : Int32) = nI (4 * t0) from pk_mul 4 t0) ?_
            refine V_iadd C dX10_tariff_115 ?_
            refine V_ev (show (0 + (nI (4 * t0)) : Int32) = nI (4 * t0) from Int32.zero_add _) ?_
            refine V_iconst (v := 3) C dX10_tariff_116 (by decide) ?_
            refine V_iadd C dX10_tariff_117 ?_
            refine V_ev (show ((nI (4 * t0)) + 3 : Int32) = nI ((4 * t0) + 3) from nI_add (4 * t0) 3) ?_
            refine V_iload C 6 dX10_tariff_118 rfl ?_
            refine V_iast (ws2 := [(h2, .inl (gI g, 678, .inl (recP z past pm))), (h0, .inr (10, [.ref h1, .ref h2, .ref h3, .ref h4, .int (nI (min (pm + 1) 6)), .ref h5, .ref h6, .int ty, .ref h7, .int om, .int sp, .int wr])), (h1, .inl (gI g, 113, .inl (upd (upd (upd (upd z (4 * t0) bb) ((4 * t0) + 1) dd) ((4 * t0) + 2) ww) ((4 * t0) + 3) qq)))]) C 2 rfl (ix_nI (show (4 * t0) + 3 < 113 by omega) (by omega)) dX10_tariff_120 rfl ?_
            refine V_to (ws2 := [(h2, .inl (gI g, 678, .inl (recP z past pm))), (h0, .inr (10, [.ref h1, .ref h2, .ref h3, .ref h4, .int (nI (min (pm + 1) 6)), .ref h5, .ref h6, .int ty, .ref h7, .int om, .int sp, .int wr])), (h1, .inl (gI g, 113, .inl (upd (upd (upd (upd z (4 * t0) bb) ((4 * t0) + 1) dd) ((4 * t0) + 2) ww) ((4 * t0) + 3) qq)))]) ?_ rfl
            refine V_iload C 0 dX10_tariff_121 rfl ?_
            refine V_perm (ws2 := [(h0, .inr (10, [.ref h1, .ref h2, .ref h3, .ref h4, .int (nI (min (pm + 1) 6)), .ref h5, .ref h6, .int ty, .ref h7, .int om, .int sp, .int wr])), (h1, .inl (gI g, 113, .inl (upd (upd (upd (upd z (4 * t0) bb) ((4 * t0) + 1) dd) ((4 * t0) + 2) ww) ((4 * t0) + 3) qq))), (h2, .inl (gI g, 678, .inl (recP z past pm)))]) [1, 2, 0] rfl rfl ?_
            refine hret _ _ _ _ dX10_tariff_123 ?_
            exact Or.inr (Or.inr ⟨t0, ht0, rfl, ⟨⟨hf4_0, hf4_1⟩, ⟨hf6_0, hf6_1⟩, ⟨hf8_0, hf8_1⟩, ⟨hf10_0, hf10_1⟩⟩, rfl, rfl⟩)
          · refine V_to (ws2 := [(h0, .inr (10, [.ref h1, .ref h2, .ref h3, .ref h4, .int (nI pm), .ref h5, .ref h6, .int ty, .ref h7, .int om, .int sp, .int wr])), (h1, .inl (gI g, 113, .inl z)), (h2, .inl (gI g, 678, .inl past))]) ?_ rfl
            refine V_if_ne (tgt := 57) C dX10_tariff_51 (by decide) (fun h => absurd rfl h) (fun _ => ?_)
            refine V_bipush (v := (-2)) C dX10_tariff_54 (by decide) ?_
            refine hret _ _ _ _ dX10_tariff_56 ?_
            exact Or.inr (Or.inl ⟨hf2_0, fun h => (hf10_0).elim h.2.2.2.1 h.2.2.2.2, rfl, rfl⟩)
        · refine V_to (ws2 := [(h0, .inr (10, [.ref h1, .ref h2, .ref h3, .ref h4, .int (nI pm), .ref h5, .ref h6, .int ty, .ref h7, .int om, .int sp, .int wr])), (h1, .inl (gI g, 113, .inl z)), (h2, .inl (gI g, 678, .inl past))]) ?_ rfl
          refine V_if_eq (tgt := 54) C dX10_tariff_39 (by decide) (fun _ => ?_) (fun h => absurd (by decide) h)
          refine V_bipush (v := (-2)) C dX10_tariff_54 (by decide) ?_
          refine hret _ _ _ _ dX10_tariff_56 ?_
          exact Or.inr (Or.inl ⟨hf2_0, fun h => (hf8_0).elim h.2.2.1.1 h.2.2.1.2, rfl, rfl⟩)
      · refine V_to (ws2 := [(h0, .inr (10, [.ref h1, .ref h2, .ref h3, .ref h4, .int (nI pm), .ref h5, .ref h6, .int ty, .ref h7, .int om, .int sp, .int wr])), (h1, .inl (gI g, 113, .inl z)), (h2, .inl (gI g, 678, .inl past))]) ?_ rfl
        refine V_if_eq (tgt := 54) C dX10_tariff_27 (by decide) (fun _ => ?_) (fun h => absurd (by decide) h)
        refine V_bipush (v := (-2)) C dX10_tariff_54 (by decide) ?_
        refine hret _ _ _ _ dX10_tariff_56 ?_
        exact Or.inr (Or.inl ⟨hf2_0, fun h => (hf6_0).elim h.2.1.1 h.2.1.2, rfl, rfl⟩)
    · refine V_to (ws2 := [(h0, .inr (10, [.ref h1, .ref h2, .ref h3, .ref h4, .int (nI pm), .ref h5, .ref h6, .int ty, .ref h7, .int om, .int sp, .int wr])), (h1, .inl (gI g, 113, .inl z)), (h2, .inl (gI g, 678, .inl past))]) ?_ rfl
      refine V_if_eq (tgt := 54) C dX10_tariff_17 (by decide) (fun _ => ?_) (fun h => absurd (by decide) h)
      refine V_bipush (v := (-2)) C dX10_tariff_54 (by decide) ?_
      refine hret _ _ _ _ dX10_tariff_56 ?_
      exact Or.inr (Or.inl ⟨hf2_0, fun h => (hf4_0).elim h.1.1 h.1.2, rfl, rfl⟩)
  · refine V_to (ws2 := [(h0, .inr (10, [.ref h1, .ref h2, .ref h3, .ref h4, .int (nI pm), .ref h5, .ref h6, .int ty, .ref h7, .int om, .int sp, .int wr])), (h1, .inl (gI g, 113, .inl z)), (h2, .inl (gI g, 678, .inl past))]) ?_ rfl
    refine V_if_ne (tgt := 9) C dX10_tariff_4 (by decide) (fun h => absurd rfl h) (fun _ => ?_)
    refine V_iconst (v := (-1)) C dX10_tariff_7 (by decide) ?_
    refine hret _ _ _ _ dX10_tariff_8 ?_
    exact Or.inl ⟨hf2_0, rfl, rfl⟩
set_option maxRecDepth 100000 in
set_option maxHeartbeats 4000000 in
theorem c_X10_hour (g : Gd) (h0 : Nat) (h1 : Nat) (h2 : Nat) (h3 : Nat) (h4 : Nat) (h5 : Nat) (h6 : Nat) (h7 : Nat) (pm : Nat) (ty : Int32) (om : Int32) (sp : Int32) (wr : Int32) (z : Nat → Int32) (past : Nat → Int32) (hh : Int32) (tt : Int32) (hpm : pm ≤ 6) : Ki g yX10_hour cX10_hour 4 (some .int) 2 0 0 [.ref h0, .int hh, .int tt] [(h0, .inr (10, [.ref h1, .ref h2, .ref h3, .ref h4, .int (nI pm), .ref h5, .ref h6, .int ty, .ref h7, .int om, .int sp, .int wr])), (h1, .inl (gI g, 113, .inl z)), (h2, .inl (gI g, 678, .inl past))] (fun (r : Int32) (w : va_W) => (¬ okHr hh tt ∧ r = (-1) ∧ w = [(h0, .inr (10, [.ref h1, .ref h2, .ref h3, .ref h4, .int (nI pm), .ref h5, .ref h6, .int ty, .ref h7, .int om, .int sp, .int wr])), (h1, .inl (gI g, 113, .inl z)), (h2, .inl (gI g, 678, .inl past))]) ∨ (∃ (h9 : Nat) (t0 : Nat), h9 < 24 ∧ t0 < 3 ∧ hh = nI h9 ∧ tt = nI t0 ∧ r = z (12 + h9) ∧ w = [(h0, .inr (10, [.ref h1, .ref h2, .ref h3, .ref h4, .int (nI (min (pm + 1) 6)), .ref h5, .ref h6, .int ty, .ref h7, .int om, .int sp, .int wr])), (h1, .inl (gI g, 113, .inl (upd z (12 + h9) (nI t0)))), (h2, .inl (gI g, 678, .inl (recP z past pm)))])) := by
  refine Ki.of (by decide) (Nat.le_of_ble_eq_true rfl) (fun X C hI hret => ?_)
  show V g X 0 0 [(h0, .inr (10, [.ref h1, .ref h2, .ref h3, .ref h4, .int (nI pm), .ref h5, .ref h6, .int ty, .ref h7, .int om, .int sp, .int wr])), (h1, .inl (gI g, 113, .inl z)), (h2, .inl (gI g, 678, .inl past))] 0 [(0, .ref h0), (1, .int hh), (2, .int tt)] []
  refine V_iload_n C 1 dX10_hour_0 rfl rfl ?_
  refine V_iconst (v := 0) C dX10_hour_1 (by decide) ?_
  refine V_bipush (v := 23) C dX10_hour_2 (by decide) ?_
  refine V_callSi (na := 3) (As := [.int hh, .int 0, .int 23]) (rest := []) (wr := [(h0, .inr (10, [.ref h1, .ref h2, .ref h3, .ref h4, .int (nI pm), .ref h5, .ref h6, .int ty, .ref h7, .int om, .int sp, .int wr])), (h1, .inl (gI g, 113, .inl z)), (h2, .inl (gI g, 678, .inl past))]) C (c_X10_in g hh 0 23 ) ⟨⟨ini_X10, co_X10_in, ⟨by decide, by decide, by decide +kernel⟩, by decide⟩, ml_X10_33, sm_X10_in⟩ [] [0, 1, 2] rfl rfl rfl rfl (by decide) rfl rfl (Nat.le_of_ble_eq_true rfl) (by omega) (by omega) dX10_hour_4 (fun r_1 w_ hw_2 => ?_)
  rcases hw_2 with ⟨hf2_0, hf2_1, rfl, rfl⟩ | ⟨hf2_0, rfl, rfl⟩
  · refine V_to (ws2 := [(h0, .inr (10, [.ref h1, .ref h2, .ref h3, .ref h4, .int (nI pm), .ref h5, .ref h6, .int ty, .ref h7, .int om, .int sp, .int wr])), (h1, .inl (gI g, 113, .inl z)), (h2, .inl (gI g, 678, .inl past))]) ?_ rfl
    refine V_if_eq (tgt := 17) C dX10_hour_7 (by decide) (fun h => absurd h (by decide)) (fun _ => ?_)
    refine V_iload_n C 2 dX10_hour_10 rfl rfl ?_
    refine V_callSi (na := 1) (As := [.int tt]) (rest := []) (wr := [(h0, .inr (10, [.ref h1, .ref h2, .ref h3, .ref h4, .int (nI pm), .ref h5, .ref h6, .int ty, .ref h7, .int om, .int sp, .int wr])), (h1, .inl (gI g, 113, .inl z)), (h2, .inl (gI g, 678, .inl past))]) C (c_X10_isTariff g tt ) ⟨⟨ini_X10, co_X10_isTariff, ⟨by decide, by decide, by decide +kernel⟩, by decide⟩, ml_X10_48, sm_X10_isTariff⟩ [] [0, 1, 2] rfl rfl rfl rfl (by decide) rfl rfl (Nat.le_of_ble_eq_true rfl) (by omega) (by omega) dX10_hour_11 (fun r_3 w_ hw_4 => ?_)
    rcases hw_4 with ⟨hf4_0, rfl, rfl⟩ | ⟨hf4_0, rfl, rfl⟩
    · refine V_to (ws2 := [(h0, .inr (10, [.ref h1, .ref h2, .ref h3, .ref h4, .int (nI pm), .ref h5, .ref h6, .int ty, .ref h7, .int om, .int sp, .int wr])), (h1, .inl (gI g, 113, .inl z)), (h2, .inl (gI g, 678, .inl past))]) ?_ rfl
      refine V_if_ne (tgt := 19) C dX10_hour_14 (by decide) (fun _ => ?_) (fun h => absurd h (by decide))
      obtain ⟨t0, -, ht0, rfl⟩ := rg_nI 0 2 rfl rfl (by omega) (by omega) hf4_0.1 hf4_0.2
      have ht0 : t0 < 3 := by omega
      obtain ⟨h9, -, hh9, rfl⟩ := rg_nI 0 23 rfl rfl (by omega) (by omega) hf2_0 hf2_1
      have hh9 : h9 < 24 := by omega
      refine V_aload_n C 0 dX10_hour_19 rfl rfl ?_
      refine V_callVv (q0 := 0) (na := 0) (As := []) (rest := []) (wr := []) C (c_X10_record g h0 h1 h2 h3 h4 h5 h6 h7 pm ty om sp wr z past (show pm ≤ 6 from by first | assumption | omega | exact ix_nI (by omega) (by omega) | decide)) ⟨⟨ini_X10, co_X10_record, ⟨by decide, by decide, by decide +kernel⟩, by decide⟩, ml_X10_45, im_X10_record, se_X10_record⟩ [0, 1, 2] [] rfl rfl rfl rfl (by decide) rfl rfl rfl rfl (Nat.le_of_ble_eq_true rfl) (by omega) (by omega) dX10_hour_20 (fun w_ hw_6 => ?_)
      obtain rfl := hw_6
      refine V_to (ws2 := [(h0, .inr (10, [.ref h1, .ref h2, .ref h3, .ref h4, .int (nI (min (pm + 1) 6)), .ref h5, .ref h6, .int ty, .ref h7, .int om, .int sp, .int wr])), (h1, .inl (gI g, 113, .inl z)), (h2, .inl (gI g, 678, .inl (recP z past pm)))]) ?_ rfl
      refine V_aload_n C 0 dX10_hour_23 rfl rfl ?_
      refine V_get (v := .ref h1) C 0 rfl rfl in_X10 0 (by decide) fl_X10_7 rfl rfl dX10_hour_24 ?_
      refine V_bipush (v := 12) C dX10_hour_27 (by decide) ?_
      refine V_iload_n C 1 dX10_hour_29 rfl rfl ?_
      refine V_iadd C dX10_hour_30 ?_
      refine V_ev (show (12 + (nI h9) : Int32) = nI (12 + h9) from nI_add 12 h9) ?_
      refine V_iald C 1 rfl (ix_nI (show 12 + h9 < 113 by omega) (by omega)) dX10_hour_31 ?_
      refine V_istore_n (L2 := [(3, .int (z (12 + h9))), (0, .ref h0), (1, .int (nI h9)), (2, .int (nI t0))]) C dX10_hour_32 rfl (by decide) rfl ?_
      refine V_aload_n C 1 dX10_hour_33 rfl rfl ?_
      refine V_get (v := .ref h1) C 0 rfl rfl in_X10 0 (by decide) fl_X10_7 rfl rfl dX10_hour_34 ?_
      refine V_bipush (v := 12) C dX10_hour_37 (by decide) ?_
      refine V_iload_n C 2 dX10_hour_39 rfl rfl ?_
      refine V_iadd C dX10_hour_40 ?_
      refine V_ev (show (12 + (nI h9) : Int32) = nI (12 + h9) from nI_add 12 h9) ?_
      refine V_iload_n C 3 dX10_hour_41 rfl rfl ?_
      refine V_iast (ws2 := [(h0, .inr (10, [.ref h1, .ref h2, .ref h3, .ref h4, .int (nI (min (pm + 1) 6)), .ref h5, .ref h6, .int ty, .ref h7, .int om, .int sp, .int wr])), (h1, .inl (gI g, 113, .inl (upd z (12 + h9) (nI t0)))), (h2, .inl (gI g, 678, .inl (recP z past pm)))]) C 1 rfl (ix_nI (show 12 + h9 < 113 by omega) (by omega)) dX10_hour_42 rfl ?_
      refine V_iload_n C 0 dX10_hour_43 rfl rfl ?_
      refine hret _ _ _ _ dX10_hour_44 ?_
      exact Or.inr ⟨h9, t0, hh9, ht0, rfl, rfl, rfl, rfl⟩
    · refine V_to (ws2 := [(h0, .inr (10, [.ref h1, .ref h2, .ref h3, .ref h4, .int (nI pm), .ref h5, .ref h6, .int ty, .ref h7, .int om, .int sp, .int wr])), (h1, .inl (gI g, 113, .inl z)), (h2, .inl (gI g, 678, .inl past))]) ?_ rfl
      refine V_if_ne (tgt := 19) C dX10_hour_14 (by decide) (fun h => absurd rfl h) (fun _ => ?_)
      refine V_iconst (v := (-1)) C dX10_hour_17 (by decide) ?_
      refine hret _ _ _ _ dX10_hour_18 ?_
      exact Or.inl ⟨fun h => (hf4_0) h.2, rfl, rfl⟩
  · refine V_to (ws2 := [(h0, .inr (10, [.ref h1, .ref h2, .ref h3, .ref h4, .int (nI pm), .ref h5, .ref h6, .int ty, .ref h7, .int om, .int sp, .int wr])), (h1, .inl (gI g, 113, .inl z)), (h2, .inl (gI g, 678, .inl past))]) ?_ rfl
    refine V_if_eq (tgt := 17) C dX10_hour_7 (by decide) (fun _ => ?_) (fun h => absurd (by decide) h)
    refine V_iconst (v := (-1)) C dX10_hour_17 (by decide) ?_
    refine hret _ _ _ _ dX10_hour_18 ?_
    exact Or.inl ⟨fun h => (hf2_0).elim h.1.1 h.1.2, rfl, rfl⟩
set_option maxRecDepth 100000 in
set_option maxHeartbeats 4000000 in
theorem c_X10_priceOfExtra (g : Gd) (h0 : Nat) (h1 : Nat) (h2 : Nat) (h3 : Nat) (h4 : Nat) (h5 : Nat) (h6 : Nat) (h7 : Nat) (pm : Nat) (ty : Int32) (om : Int32) (sp : Int32) (wr : Int32) (z : Nat → Int32) (past : Nat → Int32) (cc0 : Int32) (hpm : pm ≤ 6) : Ki g yX10_priceOfExtra cX10_priceOfExtra 3 (some .int) 1 0 0 [.ref h0, .int cc0] [(h0, .inr (10, [.ref h1, .ref h2, .ref h3, .ref h4, .int (nI pm), .ref h5, .ref h6, .int ty, .ref h7, .int om, .int sp, .int wr])), (h1, .inl (gI g, 113, .inl z)), (h2, .inl (gI g, 678, .inl past))] (fun (r : Int32) (w : va_W) => (¬ ok99 cc0 ∧ r = (-2) ∧ w = [(h0, .inr (10, [.ref h1, .ref h2, .ref h3, .ref h4, .int (nI pm), .ref h5, .ref h6, .int ty, .ref h7, .int om, .int sp, .int wr])), (h1, .inl (gI g, 113, .inl z)), (h2, .inl (gI g, 678, .inl past))]) ∨ (ok99 cc0 ∧ r = z 36 ∧ w = [(h0, .inr (10, [.ref h1, .ref h2, .ref h3, .ref h4, .int (nI (min (pm + 1) 6)), .ref h5, .ref h6, .int ty, .ref h7, .int om, .int sp, .int wr])), (h1, .inl (gI g, 113, .inl (upd z 36 cc0))), (h2, .inl (gI g, 678, .inl (recP z past pm)))])) := by
  refine Ki.of (by decide) (Nat.le_of_ble_eq_true rfl) (fun X C hI hret => ?_)
  show V g X 0 0 [(h0, .inr (10, [.ref h1, .ref h2, .ref h3, .ref h4, .int (nI pm), .ref h5, .ref h6, .int ty, .ref h7, .int om, .int sp, .int wr])), (h1, .inl (gI g, 113, .inl z)), (h2, .inl (gI g, 678, .inl past))] 0 [(0, .ref h0), (1, .int cc0)] []
  refine V_iload_n C 1 dX10_priceOfExtra_0 rfl rfl ?_
  refine V_iconst (v := 0) C dX10_priceOfExtra_1 (by decide) ?_
  refine V_bipush (v := 99) C dX10_priceOfExtra_2 (by decide) ?_
  refine V_callSi (na := 3) (As := [.int cc0, .int 0, .int 99]) (rest := []) (wr := [(h0, .inr (10, [.ref h1, .ref h2, .ref h3, .ref h4, .int (nI pm), .ref h5, .ref h6, .int ty, .ref h7, .int om, .int sp, .int wr])), (h1, .inl (gI g, 113, .inl z)), (h2, .inl (gI g, 678, .inl past))]) C (c_X10_in g cc0 0 99 ) ⟨⟨ini_X10, co_X10_in, ⟨by decide, by decide, by decide +kernel⟩, by decide⟩, ml_X10_33, sm_X10_in⟩ [] [0, 1, 2] rfl rfl rfl rfl (by decide) rfl rfl (Nat.le_of_ble_eq_true rfl) (by omega) (by omega) dX10_priceOfExtra_4 (fun r_1 w_ hw_2 => ?_)
  rcases hw_2 with ⟨hf2_0, hf2_1, rfl, rfl⟩ | ⟨hf2_0, rfl, rfl⟩
  · refine V_to (ws2 := [(h0, .inr (10, [.ref h1, .ref h2, .ref h3, .ref h4, .int (nI pm), .ref h5, .ref h6, .int ty, .ref h7, .int om, .int sp, .int wr])), (h1, .inl (gI g, 113, .inl z)), (h2, .inl (gI g, 678, .inl past))]) ?_ rfl
    refine V_if_ne (tgt := 13) C dX10_priceOfExtra_7 (by decide) (fun _ => ?_) (fun h => absurd h (by decide))
    refine V_aload_n C 0 dX10_priceOfExtra_13 rfl rfl ?_
    refine V_callVv (q0 := 0) (na := 0) (As := []) (rest := []) (wr := []) C (c_X10_record g h0 h1 h2 h3 h4 h5 h6 h7 pm ty om sp wr z past (show pm ≤ 6 from by first | assumption | omega | exact ix_nI (by omega) (by omega) | decide)) ⟨⟨ini_X10, co_X10_record, ⟨by decide, by decide, by decide +kernel⟩, by decide⟩, ml_X10_45, im_X10_record, se_X10_record⟩ [0, 1, 2] [] rfl rfl rfl rfl (by decide) rfl rfl rfl rfl (Nat.le_of_ble_eq_true rfl) (by omega) (by omega) dX10_priceOfExtra_14 (fun w_ hw_4 => ?_)
    obtain rfl := hw_4
    refine V_to (ws2 := [(h0, .inr (10, [.ref h1, .ref h2, .ref h3, .ref h4, .int (nI (min (pm + 1) 6)), .ref h5, .ref h6, .int ty, .ref h7, .int om, .int sp, .int wr])), (h1, .inl (gI g, 113, .inl z)), (h2, .inl (gI g, 678, .inl (recP z past pm)))]) ?_ rfl
    refine V_aload_n C 0 dX10_priceOfExtra_17 rfl rfl ?_
    refine V_get (v := .ref h1) C 0 rfl rfl in_X10 0 (by decide) fl_X10_7 rfl rfl dX10_priceOfExtra_18 ?_
    refine V_bipush (v := 36) C dX10_priceOfExtra_21 (by decide) ?_
    refine V_iald C 1 rfl (show ix 36 36 113 from ix_nI (k := 36) (by omega) (by omega)) dX10_priceOfExtra_23 ?_
    refine V_istore_n (L2 := [(2, .int (z 36)), (0, .ref h0), (1, .int cc0)]) C dX10_priceOfExtra_24 rfl (by decide) rfl ?_
    refine V_aload_n C 1 dX10_priceOfExtra_25 rfl rfl ?_
    refine V_get (v := .ref h1) C 0 rfl rfl in_X10 0 (by decide) fl_X10_7 rfl rfl dX10_priceOfExtra_26 ?_
    refine V_bipush (v := 36) C dX10_priceOfExtra_29 (by decide) ?_
    refine V_iload_n C 2 dX10_priceOfExtra_31 rfl rfl ?_
    refine V_iast (ws2 := [(h0, .inr (10, [.ref h1, .ref h2, .ref h3, .ref h4, .int (nI (min (pm + 1) 6)), .ref h5, .ref h6, .int ty, .ref h7, .int om, .int sp, .int wr])), (h1, .inl (gI g, 113, .inl (upd z 36 cc0))), (h2, .inl (gI g, 678, .inl (recP z past pm)))]) C 1 rfl (show ix 36 36 113 from ix_nI (k := 36) (by omega) (by omega)) dX10_priceOfExtra_32 rfl ?_
    refine V_iload_n C 0 dX10_priceOfExtra_33 rfl rfl ?_
    refine hret _ _ _ _ dX10_priceOfExtra_34 ?_
    exact Or.inr ⟨⟨hf2_0, hf2_1⟩, rfl, rfl⟩
  · refine V_to (ws2 := [(h0, .inr (10, [.ref h1, .ref h2, .ref h3, .ref h4, .int (nI pm), .ref h5, .ref h6, .int ty, .ref h7, .int om, .int sp, .int wr])), (h1, .inl (gI g, 113, .inl z)), (h2, .inl (gI g, 678, .inl past))]) ?_ rfl
    refine V_if_ne (tgt := 13) C dX10_priceOfExtra_7 (by decide) (fun h => absurd rfl h) (fun _ => ?_)
    refine V_bipush (v := (-2)) C dX10_priceOfExtra_10 (by decide) ?_
    refine hret _ _ _ _ dX10_priceOfExtra_12 ?_
    exact Or.inl ⟨fun h => (hf2_0).elim h.1 h.2, rfl, rfl⟩
set_option maxRecDepth 100000 in
set_option maxHeartbeats 4000000 in
theorem c_X10_hire (g : Gd) (h0 : Nat) (h1 : Nat) (h2 : Nat) (h3 : Nat) (h4 : Nat) (h5 : Nat) (h6 : Nat) (h7 : Nat) (pm : Nat) (ty : Int32) (om : Int32) (sp : Int32) (wr : Int32) (z : Nat → Int32) (past : Nat → Int32) (c : Nat) (t : Nat) (hpm : pm ≤ 6) (hc : c < 86400) (hz : z 37 = nI c) (ht : t < 3) (hzt : z (12 + c / 3600) = nI t) : Ki g yX10_hire cX10_hire 1 (some .int) 3 0 0 [.ref h0] [(h0, .inr (10, [.ref h1, .ref h2, .ref h3, .ref h4, .int (nI pm), .ref h5, .ref h6, .int ty, .ref h7, .int om, .int sp, .int wr])), (h1, .inl (gI g, 113, .inl z)), (h2, .inl (gI g, 678, .inl past))] (fun (r : Int32) (w : va_W) => (¬ z 38 = 0 ∧ r = (-5) ∧ w = [(h0, .inr (10, [.ref h1, .ref h2, .ref h3, .ref h4, .int (nI pm), .ref h5, .ref h6, .int ty, .ref h7, .int om, .int sp, .int wr])), (h1, .inl (gI g, 113, .inl z)), (h2, .inl (gI g, 678, .inl past))]) ∨ (z 38 = 0 ∧ r = nI t ∧ w = [(h0, .inr (10, [.ref h1, .ref h2, .ref h3, .ref h4, .int (nI (min (pm + 1) 6)), .ref h5, .ref h6, .int ty, .ref h7, .int om, .int sp, .int wr])), (h1, .inl (gI g, 113, .inl (hireZ z t))), (h2, .inl (gI g, 678, .inl (recP z past pm)))])) := by
  refine Ki.of (by decide) (Nat.le_of_ble_eq_true rfl) (fun X C hI hret => ?_)
  show V g X 0 0 [(h0, .inr (10, [.ref h1, .ref h2, .ref h3, .ref h4, .int (nI pm), .ref h5, .ref h6, .int ty, .ref h7, .int om, .int sp, .int wr])), (h1, .inl (gI g, 113, .inl z)), (h2, .inl (gI g, 678, .inl past))] 0 [(0, .ref h0)] []
  refine V_aload_n C 0 dX10_hire_0 rfl rfl ?_
  refine V_get (v := .ref h1) C 0 rfl rfl in_X10 0 (by decide) fl_X10_7 rfl rfl dX10_hire_1 ?_
  refine V_bipush (v := 38) C dX10_hire_4 (by decide) ?_
  refine V_iald C 1 rfl (show ix 38 38 113 from ix_nI (k := 38) (by omega) (by omega)) dX10_hire_6 ?_
  refine V_if_eq (tgt := 13) C dX10_hire_7 (by decide) (fun c_7 => ?_) (fun c_7 => ?_)
  · refine V_aload_n C 0 dX10_hire_13 rfl rfl ?_
    refine V_callVv (q0 := 0) (na := 0) (As := []) (rest := []) (wr := []) C (c_X10_record g h0 h1 h2 h3 h4 h5 h6 h7 pm ty om sp wr z past (show pm ≤ 6 from by first | assumption | omega | exact ix_nI (by omega) (by omega) | decide)) ⟨⟨ini_X10, co_X10_record, ⟨by decide, by decide, by decide +kernel⟩, by decide⟩, ml_X10_45, im_X10_record, se_X10_record⟩ [0, 1, 2] [] rfl rfl rfl rfl (by decide) rfl rfl rfl rfl (Nat.le_of_ble_eq_true rfl) (by omega) (by omega) dX10_hire_14 (fun w_ hw_2 => ?_)
    obtain rfl := hw_2
    refine V_to (ws2 := [(h0, .inr (10, [.ref h1, .ref h2, .ref h3, .ref h4, .int (nI (min (pm + 1) 6)), .ref h5, .ref h6, .int ty, .ref h7, .int om, .int sp, .int wr])), (h1, .inl (gI g, 113, .inl z)), (h2, .inl (gI g, 678, .inl (recP z past pm)))]) ?_ rfl
    refine V_aload_n C 0 dX10_hire_17 rfl rfl ?_
    refine V_callVi (q0 := 0) (na := 0) (As := []) (rest := []) (wr := [(h2, .inl (gI g, 678, .inl (recP z past pm)))]) C (c_X10_hireIt g h0 h1 h2 h3 h4 h5 h6 h7 (nI (min (pm + 1) 6)) ty om sp wr z c t (show c < 86400 from by first | assumption | omega | exact ix_nI (by omega) (by omega) | decide) (show z 37 = nI c from by first | assumption | omega | exact ix_nI (by omega) (by omega) | decide) (show t < 3 from by first | assumption | omega | exact ix_nI (by omega) (by omega) | decide) (show z (12 + c / 3600) = nI t from by first | assumption | omega | exact ix_nI (by omega) (by omega) | decide)) ⟨⟨ini_X10, co_X10_hireIt, ⟨by decide, by decide, by decide +kernel⟩, by decide⟩, ml_X10_59, im_X10_hireIt, se_X10_hireIt⟩ [0, 1] [2] rfl rfl rfl rfl (by decide) rfl rfl rfl rfl (Nat.le_of_ble_eq_true rfl) (by omega) (by omega) dX10_hire_18 (fun r_3 w_ hw_4 => ?_)
    obtain ⟨rfl, rfl⟩ := hw_4
    refine V_to (ws2 := [(h2, .inl (gI g, 678, .inl (recP z past pm))), (h0, .inr (10, [.ref h1, .ref h2, .ref h3, .ref h4, .int (nI (min (pm + 1) 6)), .ref h5, .ref h6, .int ty, .ref h7, .int om, .int sp, .int wr])), (h1, .inl (gI g, 113, .inl (hireZ z t)))]) ?_ rfl
    refine V_perm (ws2 := [(h0, .inr (10, [.ref h1, .ref h2, .ref h3, .ref h4, .int (nI (min (pm + 1) 6)), .ref h5, .ref h6, .int ty, .ref h7, .int om, .int sp, .int wr])), (h1, .inl (gI g, 113, .inl (hireZ z t))), (h2, .inl (gI g, 678, .inl (recP z past pm)))]) [1, 2, 0] rfl rfl ?_
    refine hret _ _ _ _ dX10_hire_21 ?_
    exact Or.inr ⟨c_7, rfl, rfl⟩
  · refine V_bipush (v := (-5)) C dX10_hire_10 (by decide) ?_
    refine hret _ _ _ _ dX10_hire_12 ?_
    exact Or.inl ⟨c_7, rfl, rfl⟩
set_option maxRecDepth 100000 in
set_option maxHeartbeats 4000000 in
theorem c_X10_whyNotDrive (g : Gd) (h0 : Nat) (h1 : Nat) (h2 : Nat) (h3 : Nat) (h4 : Nat) (h5 : Nat) (h6 : Nat) (h7 : Nat) (pm : Int32) (ty : Int32) (om : Int32) (sp : Int32) (wr : Int32) (z : Nat → Int32) (p : Int32) (q : Int32)  : Ki g yX10_whyNotDrive cX10_whyNotDrive 3 (some .int) 2 0 0 [.ref h0, .int p, .int q] [(h0, .inr (10, [.ref h1, .ref h2, .ref h3, .ref h4, .int pm, .ref h5, .ref h6, .int ty, .ref h7, .int om, .int sp, .int wr])), (h1, .inl (gI g, 113, .inl z))] (fun (r : Int32) (w : va_W) => (¬ okD p q ∧ r = (-2) ∧ w = [(h0, .inr (10, [.ref h1, .ref h2, .ref h3, .ref h4, .int pm, .ref h5, .ref h6, .int ty, .ref h7, .int om, .int sp, .int wr])), (h1, .inl (gI g, 113, .inl z))]) ∨ (okD p q ∧ ¬ z 38 = 1 ∧ r = (-5) ∧ w = [(h0, .inr (10, [.ref h1, .ref h2, .ref h3, .ref h4, .int pm, .ref h5, .ref h6, .int ty, .ref h7, .int om, .int sp, .int wr])), (h1, .inl (gI g, 113, .inl z))]) ∨ (okD p q ∧ z 38 = 1 ∧ r = 0 ∧ w = [(h0, .inr (10, [.ref h1, .ref h2, .ref h3, .ref h4, .int pm, .ref h5, .ref h6, .int ty, .ref h7, .int om, .int sp, .int wr])), (h1, .inl (gI g, 113, .inl z))])) := by
  refine Ki.of (by decide) (Nat.le_of_ble_eq_true rfl) (fun X C hI hret => ?_)
  show V g X 0 0 [(h0, .inr (10, [.ref h1, .ref h2, .ref h3, .ref h4, .int pm, .ref h5, .ref h6, .int ty, .ref h7, .int om, .int sp, .int wr])), (h1, .inl (gI g, 113, .inl z))] 0 [(0, .ref h0), (1, .int p), (2, .int q)] []
  refine V_iload_n C 1 dX10_whyNotDrive_0 rfl rfl ?_
  refine V_iload_n C 2 dX10_whyNotDrive_1 rfl rfl ?_
  refine V_callSi (na := 2) (As := [.int p, .int q]) (rest := []) (wr := [(h0, .inr (10, [.ref h1, .ref h2, .ref h3, .ref h4, .int pm, .ref h5, .ref h6, .int ty, .ref h7, .int om, .int sp, .int wr])), (h1, .inl (gI g, 113, .inl z))]) C (c_X10_isDrive g p q ) ⟨⟨ini_X10, co_X10_isDrive, ⟨by decide, by decide, by decide +kernel⟩, by decide⟩, ml_X10_72, sm_X10_isDrive⟩ [] [0, 1] rfl rfl rfl rfl (by decide) rfl rfl (Nat.le_of_ble_eq_true rfl) (by omega) (by omega) dX10_whyNotDrive_2 (fun r_1 w_ hw_2 => ?_)
  rcases hw_2 with ⟨hf2_0, rfl, rfl⟩ | ⟨hf2_0, rfl, rfl⟩
  · refine V_to (ws2 := [(h0, .inr (10, [.ref h1, .ref h2, .ref h3, .ref h4, .int pm, .ref h5, .ref h6, .int ty, .ref h7, .int om, .int sp, .int wr])), (h1, .inl (gI g, 113, .inl z))]) ?_ rfl
    refine V_if_ne (tgt := 13) C dX10_whyNotDrive_5 (by decide) (fun _ => ?_) (fun h => absurd h (by decide))
    refine V_aload_n C 0 dX10_whyNotDrive_13 rfl rfl ?_
    refine V_get (v := .ref h1) C 0 rfl rfl in_X10 0 (by decide) fl_X10_7 rfl rfl dX10_whyNotDrive_14 ?_
    refine V_bipush (v := 38) C dX10_whyNotDrive_17 (by decide) ?_
    refine V_iald C 1 rfl (show ix 38 38 113 from ix_nI (k := 38) (by omega) (by omega)) dX10_whyNotDrive_19 ?_
    refine V_iconst (v := 1) C dX10_whyNotDrive_20 (by decide) ?_
    refine V_icmp_eq (tgt := 29) C dX10_whyNotDrive_21 (by decide) (fun c_21 => ?_) (fun c_21 => ?_)
    · refine V_iconst (v := 0) C dX10_whyNotDrive_29 (by decide) ?_
      refine hret _ _ _ _ dX10_whyNotDrive_30 ?_
      exact Or.inr (Or.inr ⟨hf2_0, c_21, rfl, rfl⟩)
    · refine V_bipush (v := (-5)) C dX10_whyNotDrive_24 (by decide) ?_
      refine V_goto (tgt := 30) C dX10_whyNotDrive_26 (by decide) ?_
      refine hret _ _ _ _ dX10_whyNotDrive_30 ?_
      exact Or.inr (Or.inl ⟨hf2_0, c_21, rfl, rfl⟩)
  · refine V_to (ws2 := [(h0, .inr (10, [.ref h1, .ref h2, .ref h3, .ref h4, .int pm, .ref h5, .ref h6, .int ty, .ref h7, .int om, .int sp, .int wr])), (h1, .inl (gI g, 113, .inl z))]) ?_ rfl
    refine V_if_ne (tgt := 13) C dX10_whyNotDrive_5 (by decide) (fun h => absurd rfl h) (fun _ => ?_)
    refine V_bipush (v := (-2)) C dX10_whyNotDrive_8 (by decide) ?_
    refine V_goto (tgt := 30) C dX10_whyNotDrive_10 (by decide) ?_
    refine hret _ _ _ _ dX10_whyNotDrive_30 ?_
    exact Or.inl ⟨hf2_0, rfl, rfl⟩
set_option maxRecDepth 100000 in
set_option maxHeartbeats 4000000 in
theorem c_X10_drive (g : Gd) (h0 : Nat) (h1 : Nat) (h2 : Nat) (h3 : Nat) (h4 : Nat) (h5 : Nat) (h6 : Nat) (h7 : Nat) (pm : Nat) (ty : Int32) (om : Int32) (sp : Int32) (wr : Int32) (z : Nat → Int32) (past : Nat → Int32) (p : Int32) (q : Int32) (hpm : pm ≤ 6) (hd : (z 38 = 1 → DV z)) : Ki g yX10_drive cX10_drive 4 (some .int) 4 0 0 [.ref h0, .int p, .int q] [(h0, .inr (10, [.ref h1, .ref h2, .ref h3, .ref h4, .int (nI pm), .ref h5, .ref h6, .int ty, .ref h7, .int om, .int sp, .int wr])), (h1, .inl (gI g, 113, .inl z)), (h2, .inl (gI g, 678, .inl past))] (fun (r : Int32) (w : va_W) => (¬ okD p q ∧ r = (-2) ∧ w = [(h0, .inr (10, [.ref h1, .ref h2, .ref h3, .ref h4, .int (nI pm), .ref h5, .ref h6, .int ty, .ref h7, .int om, .int sp, .int wr])), (h1, .inl (gI g, 113, .inl z)), (h2, .inl (gI g, 678, .inl past))]) ∨ (okD p q ∧ ¬ z 38 = 1 ∧ r = (-5) ∧ w = [(h0, .inr (10, [.ref h1, .ref h2, .ref h3, .ref h4, .int (nI pm), .ref h5, .ref h6, .int ty, .ref h7, .int om, .int sp, .int wr])), (h1, .inl (gI g, 113, .inl z)), (h2, .inl (gI g, 678, .inl past))]) ∨ (∃ (P : Nat) (S : Nat), P ≤ 9999 ∧ 1 ≤ S ∧ S ≤ 9999 ∧ p = nI P ∧ q = nI S ∧ z 38 = 1 ∧ r = (drvZ z P S S).2 ∧ w = [(h0, .inr (10, [.ref h1, .ref h2, .ref h3, .ref h4, .int (nI (min (pm + 1) 6)), .ref h5, .ref h6, .int ty, .ref h7, .int om, .int sp, .int wr])), (h1, .inl (gI g, 113, .inl (drvF z P S))), (h2, .inl (gI g, 678, .inl (recP z past pm)))])) := by
  refine Ki.of (by decide) (Nat.le_of_ble_eq_true rfl) (fun X C hI hret => ?_)
  show V g X 0 0 [(h0, .inr (10, [.ref h1, .ref h2, .ref h3, .ref h4, .int (nI pm), .ref h5, .ref h6, .int ty, .ref h7, .int om, .int sp, .int wr])), (h1, .inl (gI g, 113, .inl z)), (h2, .inl (gI g, 678, .inl past))] 0 [(0, .ref h0), (1, .int p), (2, .int q)] []
  refine V_aload_n C 0 dX10_drive_0 rfl rfl ?_
  refine V_iload_n C 1 dX10_drive_1 rfl rfl ?_
  refine V_iload_n C 2 dX10_drive_2 rfl rfl ?_
  refine V_callVi (q0 := 0) (na := 2) (As := [.int p, .int q]) (rest := []) (wr := [(h2, .inl (gI g, 678, .inl past))]) C (c_X10_whyNotDrive g h0 h1 h2 h3 h4 h5 h6 h7 (nI pm) ty om sp wr z p q ) ⟨⟨ini_X10, co_X10_whyNotDrive, ⟨by decide, by decide, by decide +kernel⟩, by decide⟩, ml_X10_76, im_X10_whyNotDrive, se_X10_whyNotDrive⟩ [0, 1] [2] rfl rfl rfl rfl (by decide) rfl rfl rfl rfl (Nat.le_of_ble_eq_true rfl) (by omega) (by omega) dX10_drive_3 (fun r_1 w_ hw_2 => ?_)
  rcases hw_2 with ⟨hf2_0, rfl, rfl⟩ | ⟨hf2_0, hf2_1, rfl, rfl⟩ | ⟨hf2_0, hf2_1, rfl, rfl⟩
  · refine V_to (ws2 := [(h2, .inl (gI g, 678, .inl past)), (h0, .inr (10, [.ref h1, .ref h2, .ref h3, .ref h4, .int (nI pm), .ref h5, .ref h6, .int ty, .ref h7, .int om, .int sp, .int wr])), (h1, .inl (gI g, 113, .inl z))]) ?_ rfl
    refine V_istore_n (L2 := [(3, .int (-2)), (0, .ref h0), (1, .int p), (2, .int q)]) C dX10_drive_6 rfl (by decide) rfl ?_
    refine V_iload_n C 0 dX10_drive_7 rfl rfl ?_
    refine V_if_ge (tgt := 13) C dX10_drive_8 (by decide) (fun h => absurd h (by decide)) (fun _ => ?_)
    refine V_iload_n C 0 dX10_drive_11 rfl rfl ?_
    refine V_perm (ws2 := [(h0, .inr (10, [.ref h1, .ref h2, .ref h3, .ref h4, .int (nI pm), .ref h5, .ref h6, .int ty, .ref h7, .int om, .int sp, .int wr])), (h1, .inl (gI g, 113, .inl z)), (h2, .inl (gI g, 678, .inl past))]) [1, 2, 0] rfl rfl ?_
    refine hret _ _ _ _ dX10_drive_12 ?_
    exact Or.inl ⟨hf2_0, rfl, rfl⟩
  · refine V_to (ws2 := [(h2, .inl (gI g, 678, .inl past)), (h0, .inr (10, [.ref h1, .ref h2, .ref h3, .ref h4, .int (nI pm), .ref h5, .ref h6, .int ty, .ref h7, .int om, .int sp, .int wr])), (h1, .inl (gI g, 113, .inl z))]) ?_ rfl
    refine V_istore_n (L2 := [(3, .int (-5)), (0, .ref h0), (1, .int p), (2, .int q)]) C dX10_drive_6 rfl (by decide) rfl ?_
    refine V_iload_n C 0 dX10_drive_7 rfl rfl ?_
    refine V_if_ge (tgt := 13) C dX10_drive_8 (by decide) (fun h => absurd h (by decide)) (fun _ => ?_)
    refine V_iload_n C 0 dX10_drive_11 rfl rfl ?_
    refine V_perm (ws2 := [(h0, .inr (10, [.ref h1, .ref h2, .ref h3, .ref h4, .int (nI pm), .ref h5, .ref h6, .int ty, .ref h7, .int om, .int sp, .int wr])), (h1, .inl (gI g, 113, .inl z)), (h2, .inl (gI g, 678, .inl past))]) [1, 2, 0] rfl rfl ?_
    refine hret _ _ _ _ dX10_drive_12 ?_
    exact Or.inr (Or.inl ⟨hf2_0, hf2_1, rfl, rfl⟩)
  · refine V_to (ws2 := [(h2, .inl (gI g, 678, .inl past)), (h0, .inr (10, [.ref h1, .ref h2, .ref h3, .ref h4, .int (nI pm), .ref h5, .ref h6, .int ty, .ref h7, .int om, .int sp, .int wr])), (h1, .inl (gI g, 113, .inl z))]) ?_ rfl
    refine V_istore_n (L2 := [(3, .int 0), (0, .ref h0), (1, .int p), (2, .int q)]) C dX10_drive_6 rfl (by decide) rfl ?_
    refine V_iload_n C 0 dX10_drive_7 rfl rfl ?_
    refine V_if_ge (tgt := 13) C dX10_drive_8 (by decide) (fun _ => ?_) (fun h => absurd (by decide) h)
    obtain ⟨P, -, hP, rfl⟩ := rg_nI 0 9999 rfl rfl (by omega) (by omega) hf2_0.1 hf2_0.2.1
    obtain ⟨S, hS1, hS2, rfl⟩ := rg_nI 1 9999 rfl rfl (by omega) (by omega) hf2_0.2.2.1 hf2_0.2.2.2
    refine V_aload_n C 1 dX10_drive_13 rfl rfl ?_
    refine V_callVv (q0 := 1) (na := 0) (As := []) (rest := []) (wr := []) C (c_X10_record g h0 h1 h2 h3 h4 h5 h6 h7 pm ty om sp wr z past (show pm ≤ 6 from by first | assumption | omega | exact ix_nI (by omega) (by omega) | decide)) ⟨⟨ini_X10, co_X10_record, ⟨by decide, by decide, by decide +kernel⟩, by decide⟩, ml_X10_45, im_X10_record, se_X10_record⟩ [1, 2, 0] [] rfl rfl rfl rfl (by decide) rfl rfl rfl rfl (Nat.le_of_ble_eq_true rfl) (by omega) (by omega) dX10_drive_14 (fun w_ hw_4 => ?_)
    obtain rfl := hw_4
    refine V_to (ws2 := [(h0, .inr (10, [.ref h1, .ref h2, .ref h3, .ref h4, .int (nI (min (pm + 1) 6)), .ref h5, .ref h6, .int ty, .ref h7, .int om, .int sp, .int wr])), (h1, .inl (gI g, 113, .inl z)), (h2, .inl (gI g, 678, .inl (recP z past pm)))]) ?_ rfl
    refine V_aload_n C 1 dX10_drive_17 rfl rfl ?_
    refine V_iload_n C 2 dX10_drive_18 rfl rfl ?_
    refine V_iload_n C 3 dX10_drive_19 rfl rfl ?_
    refine V_callVi (q0 := 0) (na := 2) (As := [.int (nI P), .int (nI S)]) (rest := []) (wr := [(h2, .inl (gI g, 678, .inl (recP z past pm)))]) C (c_X10_driveIt g h0 h1 h2 h3 h4 h5 h6 h7 (nI (min (pm + 1) 6)) ty om sp wr z P S (show P ≤ 9999 from by first | assumption | omega | exact ix_nI (by omega) (by omega) | decide) (show 1 ≤ S from by first | assumption | omega | exact ix_nI (by omega) (by omega) | decide) (show S ≤ 9999 from by first | assumption | omega | exact ix_nI (by omega) (by omega) | decide) (hd hf2_1)) ⟨⟨ini_X10, co_X10_driveIt, ⟨by decide, by decide, by decide +kernel⟩, by decide⟩, ml_X10_79, im_X10_driveIt, se_X10_driveIt⟩ [0, 1] [2] rfl rfl rfl rfl (by decide) rfl rfl rfl rfl (Nat.le_of_ble_eq_true rfl) (by omega) (by omega) dX10_drive_20 (fun r_5 w_ hw_6 => ?_)
    obtain ⟨rfl, rfl⟩ := hw_6
    refine V_to (ws2 := [(h2, .inl (gI g, 678, .inl (recP z past pm))), (h0, .inr (10, [.ref h1, .ref h2, .ref h3, .ref h4, .int (nI (min (pm + 1) 6)), .ref h5, .ref h6, .int ty, .ref h7, .int om, .int sp, .int wr])), (h1, .inl (gI g, 113, .inl (drvF z P S)))]) ?_ rfl
    refine V_perm (ws2 := [(h0, .inr (10, [.ref h1, .ref h2, .ref h3, .ref h4, .int (nI (min (pm + 1) 6)), .ref h5, .ref h6, .int ty, .ref h7, .int om, .int sp, .int wr])), (h1, .inl (gI g, 113, .inl (drvF z P S))), (h2, .inl (gI g, 678, .inl (recP z past pm)))]) [1, 2, 0] rfl rfl ?_
    refine hret _ _ _ _ dX10_drive_23 ?_
    exact Or.inr (Or.inr ⟨P, S, hP, hS1, hS2, rfl, rfl, hf2_1, rfl, rfl⟩)
set_option maxRecDepth 100000 in
set_option maxHeartbeats 4000000 in
theorem c_X10_whyNotRest (g : Gd) (h0 : Nat) (h1 : Nat) (h2 : Nat) (h3 : Nat) (h4 : Nat) (h5 : Nat) (h6 : Nat) (h7 : Nat) (pm : Int32) (ty : Int32) (om : Int32) (sp : Int32) (wr : Int32) (z : Nat → Int32) (q : Int32)  : Ki g yX10_whyNotRest cX10_whyNotRest 2 (some .int) 1 0 0 [.ref h0, .int q] [(h0, .inr (10, [.ref h1, .ref h2, .ref h3, .ref h4, .int pm, .ref h5, .ref h6, .int ty, .ref h7, .int om, .int sp, .int wr])), (h1, .inl (gI g, 113, .inl z))] (fun (r : Int32) (w : va_W) => (¬ okS q ∧ r = (-2) ∧ w = [(h0, .inr (10, [.ref h1, .ref h2, .ref h3, .ref h4, .int pm, .ref h5, .ref h6, .int ty, .ref h7, .int om, .int sp, .int wr])), (h1, .inl (gI g, 113, .inl z))]) ∨ (okS q ∧ z 38 = 1 ∧ r = (-5) ∧ w = [(h0, .inr (10, [.ref h1, .ref h2, .ref h3, .ref h4, .int pm, .ref h5, .ref h6, .int ty, .ref h7, .int om, .int sp, .int wr])), (h1, .inl (gI g, 113, .inl z))]) ∨ (okS q ∧ ¬ z 38 = 1 ∧ r = 0 ∧ w = [(h0, .inr (10, [.ref h1, .ref h2, .ref h3, .ref h4, .int pm, .ref h5, .ref h6, .int ty, .ref h7, .int om, .int sp, .int wr])), (h1, .inl (gI g, 113, .inl z))])) := by
  refine Ki.of (by decide) (Nat.le_of_ble_eq_true rfl) (fun X C hI hret => ?_)
  show V g X 0 0 [(h0, .inr (10, [.ref h1, .ref h2, .ref h3, .ref h4, .int pm, .ref h5, .ref h6, .int ty, .ref h7, .int om, .int sp, .int wr])), (h1, .inl (gI g, 113, .inl z))] 0 [(0, .ref h0), (1, .int q)] []
  refine V_iload_n C 1 dX10_whyNotRest_0 rfl rfl ?_
  refine V_iconst (v := 1) C dX10_whyNotRest_1 (by decide) ?_
  refine V_sipush (v := 9999) C dX10_whyNotRest_2 (by decide) ?_
  refine V_callSi (na := 3) (As := [.int q, .int 1, .int 9999]) (rest := []) (wr := [(h0, .inr (10, [.ref h1, .ref h2, .ref h3, .ref h4, .int pm, .ref h5, .ref h6, .int ty, .ref h7, .int om, .int sp, .int wr])), (h1, .inl (gI g, 113, .inl z))]) C (c_X10_in g q 1 9999 ) ⟨⟨ini_X10, co_X10_in, ⟨by decide, by decide, by decide +kernel⟩, by decide⟩, ml_X10_33, sm_X10_in⟩ [] [0, 1] rfl rfl rfl rfl (by decide) rfl rfl (Nat.le_of_ble_eq_true rfl) (by omega) (by omega) dX10_whyNotRest_5 (fun r_1 w_ hw_2 => ?_)
  rcases hw_2 with ⟨hf2_0, hf2_1, rfl, rfl⟩ | ⟨hf2_0, rfl, rfl⟩
  · refine V_to (ws2 := [(h0, .inr (10, [.ref h1, .ref h2, .ref h3, .ref h4, .int pm, .ref h5, .ref h6, .int ty, .ref h7, .int om, .int sp, .int wr])), (h1, .inl (gI g, 113, .inl z))]) ?_ rfl
    refine V_if_ne (tgt := 16) C dX10_whyNotRest_8 (by decide) (fun _ => ?_) (fun h => absurd h (by decide))
    refine V_aload_n C 0 dX10_whyNotRest_16 rfl rfl ?_
    refine V_get (v := .ref h1) C 0 rfl rfl in_X10 0 (by decide) fl_X10_7 rfl rfl dX10_whyNotRest_17 ?_
    refine V_bipush (v := 38) C dX10_whyNotRest_20 (by decide) ?_
    refine V_iald C 1 rfl (show ix 38 38 113 from ix_nI (k := 38) (by omega) (by omega)) dX10_whyNotRest_22 ?_
    refine V_iconst (v := 1) C dX10_whyNotRest_23 (by decide) ?_
    refine V_icmp_ne (tgt := 32) C dX10_whyNotRest_24 (by decide) (fun c_24 => ?_) (fun c_24 => ?_)
    · refine V_iconst (v := 0) C dX10_whyNotRest_32 (by decide) ?_
      refine hret _ _ _ _ dX10_whyNotRest_33 ?_
      exact Or.inr (Or.inr ⟨⟨hf2_0, hf2_1⟩, c_24, rfl, rfl⟩)
    · refine V_bipush (v := (-5)) C dX10_whyNotRest_27 (by decide) ?_
      refine V_goto (tgt := 33) C dX10_whyNotRest_29 (by decide) ?_
      refine hret _ _ _ _ dX10_whyNotRest_33 ?_
      exact Or.inr (Or.inl ⟨⟨hf2_0, hf2_1⟩, c_24, rfl, rfl⟩)
  · refine V_to (ws2 := [(h0, .inr (10, [.ref h1, .ref h2, .ref h3, .ref h4, .int pm, .ref h5, .ref h6, .int ty, .ref h7, .int om, .int sp, .int wr])), (h1, .inl (gI g, 113, .inl z))]) ?_ rfl
    refine V_if_ne (tgt := 16) C dX10_whyNotRest_8 (by decide) (fun h => absurd rfl h) (fun _ => ?_)
    refine V_bipush (v := (-2)) C dX10_whyNotRest_11 (by decide) ?_
    refine V_goto (tgt := 33) C dX10_whyNotRest_13 (by decide) ?_
    refine hret _ _ _ _ dX10_whyNotRest_33 ?_
    exact Or.inl ⟨fun h => (hf2_0).elim h.1 h.2, rfl, rfl⟩
set_option maxRecDepth 100000 in
set_option maxHeartbeats 4000000 in
theorem c_X10_restIt (g : Gd) (h0 : Nat) (h1 : Nat) (h2 : Nat) (h3 : Nat) (h4 : Nat) (h5 : Nat) (h6 : Nat) (h7 : Nat) (pm : Int32) (ty : Int32) (om : Int32) (sp : Int32) (wr : Int32) (z : Nat → Int32) (c : Nat) (S : Nat) (hc : c < 86400) (hz : z 37 = nI c) (hS1 : 1 ≤ S) (hS2 : S ≤ 9999) : Ki g yX10_restIt cX10_restIt 2 (some .int) 0 0 0 [.ref h0, .int (nI S)] [(h0, .inr (10, [.ref h1, .ref h2, .ref h3, .ref h4, .int pm, .ref h5, .ref h6, .int ty, .ref h7, .int om, .int sp, .int wr])), (h1, .inl (gI g, 113, .inl z))] (fun (r : Int32) (w : va_W) => r = nI ((c + S) % 86400) ∧ w = [(h0, .inr (10, [.ref h1, .ref h2, .ref h3, .ref h4, .int pm, .ref h5, .ref h6, .int ty, .ref h7, .int om, .int sp, .int wr])), (h1, .inl (gI g, 113, .inl (restZ z c S)))]) := by
  refine Ki.of (by decide) (Nat.le_of_ble_eq_true rfl) (fun X C hI hret => ?_)
  show V g X 0 0 [(h0, .inr (10, [.ref h1, .ref h2, .ref h3, .ref h4, .int pm, .ref h5, .ref h6, .int ty, .ref h7, .int om, .int sp, .int wr])), (h1, .inl (gI g, 113, .inl z))] 0 [(0, .ref h0), (1, .int (nI S))] []
  refine V_aload_n C 0 dX10_restIt_0 rfl rfl ?_
  refine V_get (v := .ref h1) C 0 rfl rfl in_X10 0 (by decide) fl_X10_7 rfl rfl dX10_restIt_1 ?_
  refine V_bipush (v := 37) C dX10_restIt_4 (by decide) ?_
  refine V_aload_n C 0 dX10_restIt_6 rfl rfl ?_
  refine V_get (v := .ref h1) C 0 rfl rfl in_X10 0 (by decide) fl_X10_7 rfl rfl dX10_restIt_7 ?_
  refine V_bipush (v := 37) C dX10_restIt_10 (by decide) ?_
  refine V_iald C 1 rfl (show ix 37 37 113 from ix_nI (k := 37) (by omega) (by omega)) dX10_restIt_12 ?_
  refine V_ev (show (z 37 : Int32) = nI c from hz) ?_
  refine V_iload_n C 1 dX10_restIt_13 rfl rfl ?_
  refine V_iadd C dX10_restIt_14 ?_
  refine V_ev (show ((nI c) + (nI S) : Int32) = nI (c + S) from nI_add c S) ?_
  refine V_ldc (v := 86400) C k_X10_68 dX10_restIt_15 ?_
  refine V_irem C dX10_restIt_17 (by decide) ?_
  refine V_ev (show ((nI (c + S)) - (nI (c + S)) / 86400 * 86400 : Int32) = nI ((c + S) % 86400) from pk_rem (d := 86400) (by omega) (by omega) (by omega)) ?_
  refine V_iast (ws2 := [(h0, .inr (10, [.ref h1, .ref h2, .ref h3, .ref h4, .int pm, .ref h5, .ref h6, .int ty, .ref h7, .int om, .int sp, .int wr])), (h1, .inl (gI g, 113, .inl (upd z 37 (nI ((c + S) % 86400)))))]) C 1 rfl (show ix 37 37 113 from ix_nI (k := 37) (by omega) (by omega)) dX10_restIt_18 rfl ?_
  refine V_aload_n C 0 dX10_restIt_19 rfl rfl ?_
  refine V_get (v := .ref h1) C 0 rfl rfl in_X10 0 (by decide) fl_X10_7 rfl rfl dX10_restIt_20 ?_
  refine V_bipush (v := 43) C dX10_restIt_23 (by decide) ?_
  refine V_dup2 C dX10_restIt_25 rfl rfl ?_
  refine V_iald C 1 rfl (show ix 43 43 113 from ix_nI (k := 43) (by omega) (by omega)) dX10_restIt_26 ?_
  refine V_ev (show (upd z 37 (nI ((c + S) % 86400))) 43 = z 43 from (upd_n (show 43 ≠ 37 from by omega))) ?_
  refine V_aload_n C 0 dX10_restIt_27 rfl rfl ?_
  refine V_get (v := .ref h1) C 0 rfl rfl in_X10 0 (by decide) fl_X10_7 rfl rfl dX10_restIt_28 ?_
  refine V_bipush (v := 38) C dX10_restIt_31 (by decide) ?_
  refine V_iald C 1 rfl (show ix 38 38 113 from ix_nI (k := 38) (by omega) (by omega)) dX10_restIt_33 ?_
  refine V_ev (show (upd z 37 (nI ((c + S) % 86400))) 38 = z 38 from (upd_n (show 38 ≠ 37 from by omega))) ?_
  refine V_iconst (v := 2) C dX10_restIt_34 (by decide) ?_
  refine V_icmp_ne (tgt := 42) C dX10_restIt_35 (by decide) (fun c_35 => ?_) (fun c_35 => ?_)
  · refine V_iconst (v := 0) C dX10_restIt_42 (by decide) ?_
    refine V_iadd C dX10_restIt_43 ?_
    refine V_iast (ws2 := [(h0, .inr (10, [.ref h1, .ref h2, .ref h3, .ref h4, .int pm, .ref h5, .ref h6, .int ty, .ref h7, .int om, .int sp, .int wr])), (h1, .inl (gI g, 113, .inl (upd (upd z 37 (nI ((c + S) % 86400))) 43 ((z 43) + 0))))]) C 1 rfl (show ix 43 43 113 from ix_nI (k := 43) (by omega) (by omega)) dX10_restIt_44 rfl ?_
    refine V_aload_n C 0 dX10_restIt_45 rfl rfl ?_
    refine V_get (v := .ref h1) C 0 rfl rfl in_X10 0 (by decide) fl_X10_7 rfl rfl dX10_restIt_46 ?_
    refine V_bipush (v := 37) C dX10_restIt_49 (by decide) ?_
    refine V_iald C 1 rfl (show ix 37 37 113 from ix_nI (k := 37) (by omega) (by omega)) dX10_restIt_51 ?_
    refine V_ev (show (upd (upd z 37 (nI ((c + S) % 86400))) 43 ((z 43) + 0)) 37 = nI ((c + S) % 86400) from ((upd_n (show 37 ≠ 43 from by omega)).trans (upd_s))) ?_
    refine hret _ _ _ _ dX10_restIt_52 ?_
    exact ⟨rfl, by simp only [restZ, if_neg c_35]⟩
  · refine V_iload_n C 1 dX10_restIt_38 rfl rfl ?_
    refine V_goto (tgt := 43) C dX10_restIt_39 (by decide) ?_
    refine V_iadd C dX10_restIt_43 ?_
    refine V_iast (ws2 := [(h0, .inr (10, [.ref h1, .ref h2, .ref h3, .ref h4, .int pm, .ref h5, .ref h6, .int ty, .ref h7, .int om, .int sp, .int wr])), (h1, .inl (gI g, 113, .inl (upd (upd z 37 (nI ((c + S) % 86400))) 43 ((z 43) + (nI S)))))]) C 1 rfl (show ix 43 43 113 from ix_nI (k := 43) (by omega) (by omega)) dX10_restIt_44 rfl ?_
    refine V_aload_n C 0 dX10_restIt_45 rfl rfl ?_
    refine V_get (v := .ref h1) C 0 rfl rfl in_X10 0 (by decide) fl_X10_7 rfl rfl dX10_restIt_46 ?_
    refine V_bipush (v := 37) C dX10_restIt_49 (by decide) ?_
    refine V_iald C 1 rfl (show ix 37 37 113 from ix_nI (k := 37) (by omega) (by omega)) dX10_restIt_51 ?_
    refine V_ev (show (upd (upd z 37 (nI ((c + S) % 86400))) 43 ((z 43) + (nI S))) 37 = nI ((c + S) % 86400) from ((upd_n (show 37 ≠ 43 from by omega)).trans (upd_s))) ?_
    refine hret _ _ _ _ dX10_restIt_52 ?_
    exact ⟨rfl, by simp only [restZ, if_pos c_35]⟩
set_option maxRecDepth 100000 in
set_option maxHeartbeats 4000000 in
theorem c_X10_rest (g : Gd) (h0 : Nat) (h1 : Nat) (h2 : Nat) (h3 : Nat) (h4 : Nat) (h5 : Nat) (h6 : Nat) (h7 : Nat) (pm : Nat) (ty : Int32) (om : Int32) (sp : Int32) (wr : Int32) (z : Nat → Int32) (past : Nat → Int32) (c : Nat) (q : Int32) (hpm : pm ≤ 6) (hc : c < 86400) (hz : z 37 = nI c) : Ki g yX10_rest cX10_rest 3 (some .int) 2 0 0 [.ref h0, .int q] [(h0, .inr (10, [.ref h1, .ref h2, .ref h3, .ref h4, .int (nI pm), .ref h5, .ref h6, .int ty, .ref h7, .int om, .int sp, .int wr])), (h1, .inl (gI g, 113, .inl z)), (h2, .inl (gI g, 678, .inl past))] (fun (r : Int32) (w : va_W) => (¬ okS q ∧ r = (-2) ∧ w = [(h0, .inr (10, [.ref h1, .ref h2, .ref h3, .ref h4, .int (nI pm), .ref h5, .ref h6, .int ty, .ref h7, .int om, .int sp, .int wr])), (h1, .inl (gI g, 113, .inl z)), (h2, .inl (gI g, 678, .inl past))]) ∨ (okS q ∧ z 38 = 1 ∧ r = (-5) ∧ w = [(h0, .inr (10, [.ref h1, .ref h2, .ref h3, .ref h4, .int (nI pm), .ref h5, .ref h6, .int ty, .ref h7, .int om, .int sp, .int wr])), (h1, .inl (gI g, 113, .inl z)), (h2, .inl (gI g, 678, .inl past))]) ∨ (∃ (S : Nat), 1 ≤ S ∧ S ≤ 9999 ∧ q = nI S ∧ ¬ z 38 = 1 ∧ r = nI ((c + S) % 86400) ∧ w = [(h0, .inr (10, [.ref h1, .ref h2, .ref h3, .ref h4, .int (nI (min (pm + 1) 6)), .ref h5, .ref h6, .int ty, .ref h7, .int om, .int sp, .int wr])), (h1, .inl (gI g, 113, .inl (restZ z c S))), (h2, .inl (gI g, 678, .inl (recP z past pm)))])) := by
  refine Ki.of (by decide) (Nat.le_of_ble_eq_true rfl) (fun X C hI hret => ?_)
  show V g X 0 0 [(h0, .inr (10, [.ref h1, .ref h2, .ref h3, .ref h4, .int (nI pm), .ref h5, .ref h6, .int ty, .ref h7, .int om, .int sp, .int wr])), (h1, .inl (gI g, 113, .inl z)), (h2, .inl (gI g, 678, .inl past))] 0 [(0, .ref h0), (1, .int q)] []
  refine V_aload_n C 0 dX10_rest_0 rfl rfl ?_
  refine V_iload_n C 1 dX10_rest_1 rfl rfl ?_
  refine V_callVi (q0 := 0) (na := 1) (As := [.int q]) (rest := []) (wr := [(h2, .inl (gI g, 678, .inl past))]) C (c_X10_whyNotRest g h0 h1 h2 h3 h4 h5 h6 h7 (nI pm) ty om sp wr z q ) ⟨⟨ini_X10, co_X10_whyNotRest, ⟨by decide, by decide, by decide +kernel⟩, by decide⟩, ml_X10_82, im_X10_whyNotRest, se_X10_whyNotRest⟩ [0, 1] [2] rfl rfl rfl rfl (by decide) rfl rfl rfl rfl (Nat.le_of_ble_eq_true rfl) (by omega) (by omega) dX10_rest_2 (fun r_1 w_ hw_2 => ?_)
  rcases hw_2 with ⟨hf2_0, rfl, rfl⟩ | ⟨hf2_0, hf2_1, rfl, rfl⟩ | ⟨hf2_0, hf2_1, rfl, rfl⟩
  · refine V_to (ws2 := [(h2, .inl (gI g, 678, .inl past)), (h0, .inr (10, [.ref h1, .ref h2, .ref h3, .ref h4, .int (nI pm), .ref h5, .ref h6, .int ty, .ref h7, .int om, .int sp, .int wr])), (h1, .inl (gI g, 113, .inl z))]) ?_ rfl
    refine V_istore_n (L2 := [(2, .int (-2)), (0, .ref h0), (1, .int q)]) C dX10_rest_5 rfl (by decide) rfl ?_
    refine V_iload_n C 0 dX10_rest_6 rfl rfl ?_
    refine V_if_ge (tgt := 12) C dX10_rest_7 (by decide) (fun h => absurd h (by decide)) (fun _ => ?_)
    refine V_iload_n C 0 dX10_rest_10 rfl rfl ?_
    refine V_perm (ws2 := [(h0, .inr (10, [.ref h1, .ref h2, .ref h3, .ref h4, .int (nI pm), .ref h5, .ref h6, .int ty, .ref h7, .int om, .int sp, .int wr])), (h1, .inl (gI g, 113, .inl z)), (h2, .inl (gI g, 678, .inl past))]) [1, 2, 0] rfl rfl ?_
    refine hret _ _ _ _ dX10_rest_11 ?_
    exact Or.inl ⟨hf2_0, rfl, rfl⟩
  · refine V_to (ws2 := [(h2, .inl (gI g, 678, .inl past)), (h0, .inr (10, [.ref h1, .ref h2, .ref h3, .ref h4, .int (nI pm), .ref h5, .ref h6, .int ty, .ref h7, .int om, .int sp, .int wr])), (h1, .inl (gI g, 113, .inl z))]) ?_ rfl
    refine V_istore_n (L2 := [(2, .int (-5)), (0, .ref h0), (1, .int q)]) C dX10_rest_5 rfl (by decide) rfl ?_
    refine V_iload_n C 0 dX10_rest_6 rfl rfl ?_
    refine V_if_ge (tgt := 12) C dX10_rest_7 (by decide) (fun h => absurd h (by decide)) (fun _ => ?_)
    refine V_iload_n C 0 dX10_rest_10 rfl rfl ?_
    refine V_perm (ws2 := [(h0, .inr (10, [.ref h1, .ref h2, .ref h3, .ref h4, .int (nI pm), .ref h5, .ref h6, .int ty, .ref h7, .int om, .int sp, .int wr])), (h1, .inl (gI g, 113, .inl z)), (h2, .inl (gI g, 678, .inl past))]) [1, 2, 0] rfl rfl ?_
    refine hret _ _ _ _ dX10_rest_11 ?_
    exact Or.inr (Or.inl ⟨hf2_0, hf2_1, rfl, rfl⟩)
  · refine V_to (ws2 := [(h2, .inl (gI g, 678, .inl past)), (h0, .inr (10, [.ref h1, .ref h2, .ref h3, .ref h4, .int (nI pm), .ref h5, .ref h6, .int ty, .ref h7, .int om, .int sp, .int wr])), (h1, .inl (gI g, 113, .inl z))]) ?_ rfl
    refine V_istore_n (L2 := [(2, .int 0), (0, .ref h0), (1, .int q)]) C dX10_rest_5 rfl (by decide) rfl ?_
    refine V_iload_n C 0 dX10_rest_6 rfl rfl ?_
    refine V_if_ge (tgt := 12) C dX10_rest_7 (by decide) (fun _ => ?_) (fun h => absurd (by decide) h)
    obtain ⟨S, hS1, hS2, rfl⟩ := rg_nI 1 9999 rfl rfl (by omega) (by omega) hf2_0.1 hf2_0.2
    refine V_aload_n C 1 dX10_rest_12 rfl rfl ?_
    refine V_callVv (q0 := 1) (na := 0) (As := []) (rest := []) (wr := []) C (c_X10_record g h0 h1 h2 h3 h4 h5 h6 h7 pm ty om sp wr z past (show pm ≤ 6 from by first | assumption | omega | exact ix_nI (by omega) (by omega) | decide)) ⟨⟨ini_X10, co_X10_record, ⟨by decide, by decide, by decide +kernel⟩, by decide⟩, ml_X10_45, im_X10_record, se_X10_record⟩ [1, 2, 0] [] rfl rfl rfl rfl (by decide) rfl rfl rfl rfl (Nat.le_of_ble_eq_true rfl) (by omega) (by omega) dX10_rest_13 (fun w_ hw_4 => ?_)
    obtain rfl := hw_4
    refine V_to (ws2 := [(h0, .inr (10, [.ref h1, .ref h2, .ref h3, .ref h4, .int (nI (min (pm + 1) 6)), .ref h5, .ref h6, .int ty, .ref h7, .int om, .int sp, .int wr])), (h1, .inl (gI g, 113, .inl z)), (h2, .inl (gI g, 678, .inl (recP z past pm)))]) ?_ rfl
    refine V_aload_n C 1 dX10_rest_16 rfl rfl ?_
    refine V_iload_n C 2 dX10_rest_17 rfl rfl ?_
    refine V_callVi (q0 := 0) (na := 1) (As := [.int (nI S)]) (rest := []) (wr := [(h2, .inl (gI g, 678, .inl (recP z past pm)))]) C (c_X10_restIt g h0 h1 h2 h3 h4 h5 h6 h7 (nI (min (pm + 1) 6)) ty om sp wr z c S (show c < 86400 from by first | assumption | omega | exact ix_nI (by omega) (by omega) | decide) (show z 37 = nI c from by first | assumption | omega | exact ix_nI (by omega) (by omega) | decide) (show 1 ≤ S from by first | assumption | omega | exact ix_nI (by omega) (by omega) | decide) (show S ≤ 9999 from by first | assumption | omega | exact ix_nI (by omega) (by omega) | decide)) ⟨⟨ini_X10, co_X10_restIt, ⟨by decide, by decide, by decide +kernel⟩, by decide⟩, ml_X10_85, im_X10_restIt, se_X10_restIt⟩ [0, 1] [2] rfl rfl rfl rfl (by decide) rfl rfl rfl rfl (Nat.le_of_ble_eq_true rfl) (by omega) (by omega) dX10_rest_18 (fun r_5 w_ hw_6 => ?_)
    obtain ⟨rfl, rfl⟩ := hw_6
    refine V_to (ws2 := [(h2, .inl (gI g, 678, .inl (recP z past pm))), (h0, .inr (10, [.ref h1, .ref h2, .ref h3, .ref h4, .int (nI (min (pm + 1) 6)), .ref h5, .ref h6, .int ty, .ref h7, .int om, .int sp, .int wr])), (h1, .inl (gI g, 113, .inl (restZ z c S)))]) ?_ rfl
    refine V_perm (ws2 := [(h0, .inr (10, [.ref h1, .ref h2, .ref h3, .ref h4, .int (nI (min (pm + 1) 6)), .ref h5, .ref h6, .int ty, .ref h7, .int om, .int sp, .int wr])), (h1, .inl (gI g, 113, .inl (restZ z c S))), (h2, .inl (gI g, 678, .inl (recP z past pm)))]) [1, 2, 0] rfl rfl ?_
    refine hret _ _ _ _ dX10_rest_21 ?_
    exact Or.inr (Or.inr ⟨S, hS1, hS2, rfl, hf2_1, rfl, rfl⟩)
set_option maxRecDepth 100000 in
set_option maxHeartbeats 4000000 in
theorem c_X10_haltIt (g : Gd) (h0 : Nat) (h1 : Nat) (h2 : Nat) (h3 : Nat) (h4 : Nat) (h5 : Nat) (h6 : Nat) (h7 : Nat) (pm : Int32) (ty : Int32) (om : Int32) (sp : Int32) (wr : Int32) (z : Nat → Int32)  : Ki g yX10_haltIt cX10_haltIt 1 (some .int) 0 0 0 [.ref h0] [(h0, .inr (10, [.ref h1, .ref h2, .ref h3, .ref h4, .int pm, .ref h5, .ref h6, .int ty, .ref h7, .int om, .int sp, .int wr])), (h1, .inl (gI g, 113, .inl z))] (fun (r : Int32) (w : va_W) => r = 3 - z 38 ∧ w = [(h0, .inr (10, [.ref h1, .ref h2, .ref h3, .ref h4, .int pm, .ref h5, .ref h6, .int ty, .ref h7, .int om, .int sp, .int wr])), (h1, .inl (gI g, 113, .inl (haltZ z)))]) := by
  refine Ki.of (by decide) (Nat.le_of_ble_eq_true rfl) (fun X C hI hret => ?_)
  show V g X 0 0 [(h0, .inr (10, [.ref h1, .ref h2, .ref h3, .ref h4, .int pm, .ref h5, .ref h6, .int ty, .ref h7, .int om, .int sp, .int wr])), (h1, .inl (gI g, 113, .inl z))] 0 [(0, .ref h0)] []
  refine V_aload_n C 0 dX10_haltIt_0 rfl rfl ?_
  refine V_get (v := .ref h1) C 0 rfl rfl in_X10 0 (by decide) fl_X10_7 rfl rfl dX10_haltIt_1 ?_
  refine V_bipush (v := 38) C dX10_haltIt_4 (by decide) ?_
  refine V_iconst (v := 3) C dX10_haltIt_6 (by decide) ?_
  refine V_aload_n C 0 dX10_haltIt_7 rfl rfl ?_
  refine V_get (v := .ref h1) C 0 rfl rfl in_X10 0 (by decide) fl_X10_7 rfl rfl dX10_haltIt_8 ?_
  refine V_bipush (v := 38) C dX10_haltIt_11 (by decide) ?_
  refine V_iald C 1 rfl (show ix 38 38 113 from ix_nI (k := 38) (by omega) (by omega)) dX10_haltIt_13 ?_
  refine V_isub C dX10_haltIt_14 ?_
  refine V_iast (ws2 := [(h0, .inr (10, [.ref h1, .ref h2, .ref h3, .ref h4, .int pm, .ref h5, .ref h6, .int ty, .ref h7, .int om, .int sp, .int wr])), (h1, .inl (gI g, 113, .inl (upd z 38 (3 - (z 38)))))]) C 1 rfl (show ix 38 38 113 from ix_nI (k := 38) (by omega) (by omega)) dX10_haltIt_15 rfl ?_
  refine V_aload_n C 0 dX10_haltIt_16 rfl rfl ?_
  refine V_get (v := .ref h1) C 0 rfl rfl in_X10 0 (by decide) fl_X10_7 rfl rfl dX10_haltIt_17 ?_
  refine V_bipush (v := 38) C dX10_haltIt_20 (by decide) ?_
  refine V_iald C 1 rfl (show ix 38 38 113 from ix_nI (k := 38) (by omega) (by omega)) dX10_haltIt_22 ?_
  refine V_ev (show (upd z 38 (3 - (z 38))) 38 = 3 - (z 38) from (upd_s)) ?_
  refine hret _ _ _ _ dX10_haltIt_23 ?_
  exact ⟨rfl, rfl⟩
set_option maxRecDepth 100000 in
set_option maxHeartbeats 4000000 in
theorem c_X10_halt (g : Gd) (h0 : Nat) (h1 : Nat) (h2 : Nat) (h3 : Nat) (h4 : Nat) (h5 : Nat) (h6 : Nat) (h7 : Nat) (pm : Nat) (ty : Int32) (om : Int32) (sp : Int32) (wr : Int32) (z : Nat → Int32) (past : Nat → Int32) (hpm : pm ≤ 6) : Ki g yX10_halt cX10_halt 1 (some .int) 1 0 0 [.ref h0] [(h0, .inr (10, [.ref h1, .ref h2, .ref h3, .ref h4, .int (nI pm), .ref h5, .ref h6, .int ty, .ref h7, .int om, .int sp, .int wr])), (h1, .inl (gI g, 113, .inl z)), (h2, .inl (gI g, 678, .inl past))] (fun (r : Int32) (w : va_W) => (z 38 = 0 ∧ r = (-5) ∧ w = [(h0, .inr (10, [.ref h1, .ref h2, .ref h3, .ref h4, .int (nI pm), .ref h5, .ref h6, .int ty, .ref h7, .int om, .int sp, .int wr])), (h1, .inl (gI g, 113, .inl z)), (h2, .inl (gI g, 678, .inl past))]) ∨ (¬ z 38 = 0 ∧ r = 3 - z 38 ∧ w = [(h0, .inr (10, [.ref h1, .ref h2, .ref h3, .ref h4, .int (nI (min (pm + 1) 6)), .ref h5, .ref h6, .int ty, .ref h7, .int om, .int sp, .int wr])), (h1, .inl (gI g, 113, .inl (haltZ z))), (h2, .inl (gI g, 678, .inl (recP z past pm)))])) := by
  refine Ki.of (by decide) (Nat.le_of_ble_eq_true rfl) (fun X C hI hret => ?_)
  show V g X 0 0 [(h0, .inr (10, [.ref h1, .ref h2, .ref h3, .ref h4, .int (nI pm), .ref h5, .ref h6, .int ty, .ref h7, .int om, .int sp, .int wr])), (h1, .inl (gI g, 113, .inl z)), (h2, .inl (gI g, 678, .inl past))] 0 [(0, .ref h0)] []
  refine V_aload_n C 0 dX10_halt_0 rfl rfl ?_
  refine V_get (v := .ref h1) C 0 rfl rfl in_X10 0 (by decide) fl_X10_7 rfl rfl dX10_halt_1 ?_
  refine V_bipush (v := 38) C dX10_halt_4 (by decide) ?_
  refine V_iald C 1 rfl (show ix 38 38 113 from ix_nI (k := 38) (by omega) (by omega)) dX10_halt_6 ?_
  refine V_if_ne (tgt := 13) C dX10_halt_7 (by decide) (fun c_7 => ?_) (fun c_7 => ?_)
  · refine V_aload_n C 0 dX10_halt_13 rfl rfl ?_
    refine V_callVv (q0 := 0) (na := 0) (As := []) (rest := []) (wr := []) C (c_X10_record g h0 h1 h2 h3 h4 h5 h6 h7 pm ty om sp wr z past (show pm ≤ 6 from by first | assumption | omega | exact ix_nI (by omega) (by omega) | decide)) ⟨⟨ini_X10, co_X10_record, ⟨by decide, by decide, by decide +kernel⟩, by decide⟩, ml_X10_45, im_X10_record, se_X10_record⟩ [0, 1, 2] [] rfl rfl rfl rfl (by decide) rfl rfl rfl rfl (Nat.le_of_ble_eq_true rfl) (by omega) (by omega) dX10_halt_14 (fun w_ hw_2 => ?_)
    obtain rfl := hw_2
    refine V_to (ws2 := [(h0, .inr (10, [.ref h1, .ref h2, .ref h3, .ref h4, .int (nI (min (pm + 1) 6)), .ref h5, .ref h6, .int ty, .ref h7, .int om, .int sp, .int wr])), (h1, .inl (gI g, 113, .inl z)), (h2, .inl (gI g, 678, .inl (recP z past pm)))]) ?_ rfl
    refine V_aload_n C 0 dX10_halt_17 rfl rfl ?_
    refine V_callVi (q0 := 0) (na := 0) (As := []) (rest := []) (wr := [(h2, .inl (gI g, 678, .inl (recP z past pm)))]) C (c_X10_haltIt g h0 h1 h2 h3 h4 h5 h6 h7 (nI (min (pm + 1) 6)) ty om sp wr z ) ⟨⟨ini_X10, co_X10_haltIt, ⟨by decide, by decide, by decide +kernel⟩, by decide⟩, ml_X10_88, im_X10_haltIt, se_X10_haltIt⟩ [0, 1] [2] rfl rfl rfl rfl (by decide) rfl rfl rfl rfl (Nat.le_of_ble_eq_true rfl) (by omega) (by omega) dX10_halt_18 (fun r_3 w_ hw_4 => ?_)
    obtain ⟨rfl, rfl⟩ := hw_4
    refine V_to (ws2 := [(h2, .inl (gI g, 678, .inl (recP z past pm))), (h0, .inr (10, [.ref h1, .ref h2, .ref h3, .ref h4, .int (nI (min (pm + 1) 6)), .ref h5, .ref h6, .int ty, .ref h7, .int om, .int sp, .int wr])), (h1, .inl (gI g, 113, .inl (haltZ z)))]) ?_ rfl
    refine V_perm (ws2 := [(h0, .inr (10, [.ref h1, .ref h2, .ref h3, .ref h4, .int (nI (min (pm + 1) 6)), .ref h5, .ref h6, .int ty, .ref h7, .int om, .int sp, .int wr])), (h1, .inl (gI g, 113, .inl (haltZ z))), (h2, .inl (gI g, 678, .inl (recP z past pm)))]) [1, 2, 0] rfl rfl ?_
    refine hret _ _ _ _ dX10_halt_21 ?_
    exact Or.inr ⟨c_7, rfl, rfl⟩
  · refine V_bipush (v := (-5)) C dX10_halt_10 (by decide) ?_
    refine hret _ _ _ _ dX10_halt_12 ?_
    exact Or.inl ⟨c_7, rfl, rfl⟩
set_option maxRecDepth 100000 in
set_option maxHeartbeats 4000000 in
theorem c_X10_whyNotExtra (g : Gd) (h0 : Nat) (h1 : Nat) (h2 : Nat) (h3 : Nat) (h4 : Nat) (h5 : Nat) (h6 : Nat) (h7 : Nat) (pm : Int32) (ty : Int32) (om : Int32) (sp : Int32) (wr : Int32) (z : Nat → Int32)  : Ki g yX10_whyNotExtra cX10_whyNotExtra 1 (some .int) 0 0 0 [.ref h0] [(h0, .inr (10, [.ref h1, .ref h2, .ref h3, .ref h4, .int pm, .ref h5, .ref h6, .int ty, .ref h7, .int om, .int sp, .int wr])), (h1, .inl (gI g, 113, .inl z))] (fun (r : Int32) (w : va_W) => (z 38 = 0 ∧ r = (-5) ∧ w = [(h0, .inr (10, [.ref h1, .ref h2, .ref h3, .ref h4, .int pm, .ref h5, .ref h6, .int ty, .ref h7, .int om, .int sp, .int wr])), (h1, .inl (gI g, 113, .inl z))]) ∨ (¬ z 38 = 0 ∧ z 46 = 9 ∧ r = (-4) ∧ w = [(h0, .inr (10, [.ref h1, .ref h2, .ref h3, .ref h4, .int pm, .ref h5, .ref h6, .int ty, .ref h7, .int om, .int sp, .int wr])), (h1, .inl (gI g, 113, .inl z))]) ∨ (¬ z 38 = 0 ∧ ¬ z 46 = 9 ∧ r = 0 ∧ w = [(h0, .inr (10, [.ref h1, .ref h2, .ref h3, .ref h4, .int pm, .ref h5, .ref h6, .int ty, .ref h7, .int om, .int sp, .int wr])), (h1, .inl (gI g, 113, .inl z))])) := by
  refine Ki.of (by decide) (Nat.le_of_ble_eq_true rfl) (fun X C hI hret => ?_)
  show V g X 0 0 [(h0, .inr (10, [.ref h1, .ref h2, .ref h3, .ref h4, .int pm, .ref h5, .ref h6, .int ty, .ref h7, .int om, .int sp, .int wr])), (h1, .inl (gI g, 113, .inl z))] 0 [(0, .ref h0)] []
  refine V_aload_n C 0 dX10_whyNotExtra_0 rfl rfl ?_
  refine V_get (v := .ref h1) C 0 rfl rfl in_X10 0 (by decide) fl_X10_7 rfl rfl dX10_whyNotExtra_1 ?_
  refine V_bipush (v := 38) C dX10_whyNotExtra_4 (by decide) ?_
  refine V_iald C 1 rfl (show ix 38 38 113 from ix_nI (k := 38) (by omega) (by omega)) dX10_whyNotExtra_6 ?_
  refine V_if_ne (tgt := 15) C dX10_whyNotExtra_7 (by decide) (fun c_7 => ?_) (fun c_7 => ?_)
  · refine V_aload_n C 0 dX10_whyNotExtra_15 rfl rfl ?_
    refine V_get (v := .ref h1) C 0 rfl rfl in_X10 0 (by decide) fl_X10_7 rfl rfl dX10_whyNotExtra_16 ?_
    refine V_bipush (v := 46) C dX10_whyNotExtra_19 (by decide) ?_
    refine V_iald C 1 rfl (show ix 46 46 113 from ix_nI (k := 46) (by omega) (by omega)) dX10_whyNotExtra_21 ?_
    refine V_bipush (v := 9) C dX10_whyNotExtra_22 (by decide) ?_
    refine V_icmp_ne (tgt := 32) C dX10_whyNotExtra_24 (by decide) (fun c_24 => ?_) (fun c_24 => ?_)
    · refine V_iconst (v := 0) C dX10_whyNotExtra_32 (by decide) ?_
      refine hret _ _ _ _ dX10_whyNotExtra_33 ?_
      exact Or.inr (Or.inr ⟨c_7, c_24, rfl, rfl⟩)
    · refine V_bipush (v := (-4)) C dX10_whyNotExtra_27 (by decide) ?_
      refine V_goto (tgt := 33) C dX10_whyNotExtra_29 (by decide) ?_
      refine hret _ _ _ _ dX10_whyNotExtra_33 ?_
      exact Or.inr (Or.inl ⟨c_7, c_24, rfl, rfl⟩)
  · refine V_bipush (v := (-5)) C dX10_whyNotExtra_10 (by decide) ?_
    refine V_goto (tgt := 33) C dX10_whyNotExtra_12 (by decide) ?_
    refine hret _ _ _ _ dX10_whyNotExtra_33 ?_
    exact Or.inl ⟨c_7, rfl, rfl⟩
set_option maxRecDepth 100000 in
set_option maxHeartbeats 4000000 in
theorem c_X10_extraIt (g : Gd) (h0 : Nat) (h1 : Nat) (h2 : Nat) (h3 : Nat) (h4 : Nat) (h5 : Nat) (h6 : Nat) (h7 : Nat) (pm : Int32) (ty : Int32) (om : Int32) (sp : Int32) (wr : Int32) (z : Nat → Int32)  : Ki g yX10_extraIt cX10_extraIt 1 (some .int) 0 0 0 [.ref h0] [(h0, .inr (10, [.ref h1, .ref h2, .ref h3, .ref h4, .int pm, .ref h5, .ref h6, .int ty, .ref h7, .int om, .int sp, .int wr])), (h1, .inl (gI g, 113, .inl z))] (fun (r : Int32) (w : va_W) => r = z 46 + 1 ∧ w = [(h0, .inr (10, [.ref h1, .ref h2, .ref h3, .ref h4, .int pm, .ref h5, .ref h6, .int ty, .ref h7, .int om, .int sp, .int wr])), (h1, .inl (gI g, 113, .inl (extraZ z)))]) := by
  refine Ki.of (by decide) (Nat.le_of_ble_eq_true rfl) (fun X C hI hret => ?_)
  show V g X 0 0 [(h0, .inr (10, [.ref h1, .ref h2, .ref h3, .ref h4, .int pm, .ref h5, .ref h6, .int ty, .ref h7, .int om, .int sp, .int wr])), (h1, .inl (gI g, 113, .inl z))] 0 [(0, .ref h0)] []
  refine V_aload_n C 0 dX10_extraIt_0 rfl rfl ?_
  refine V_get (v := .ref h1) C 0 rfl rfl in_X10 0 (by decide) fl_X10_7 rfl rfl dX10_extraIt_1 ?_
  refine V_bipush (v := 46) C dX10_extraIt_4 (by decide) ?_
  refine V_dup2 C dX10_extraIt_6 rfl rfl ?_
  refine V_iald C 1 rfl (show ix 46 46 113 from ix_nI (k := 46) (by omega) (by omega)) dX10_extraIt_7 ?_
  refine V_iconst (v := 1) C dX10_extraIt_8 (by decide) ?_
  refine V_iadd C dX10_extraIt_9 ?_
  refine V_iast (ws2 := [(h0, .inr (10, [.ref h1, .ref h2, .ref h3, .ref h4, .int pm, .ref h5, .ref h6, .int ty, .ref h7, .int om, .int sp, .int wr])), (h1, .inl (gI g, 113, .inl (upd z 46 ((z 46) + 1))))]) C 1 rfl (show ix 46 46 113 from ix_nI (k := 46) (by omega) (by omega)) dX10_extraIt_10 rfl ?_
  refine V_aload_n C 0 dX10_extraIt_11 rfl rfl ?_
  refine V_get (v := .ref h1) C 0 rfl rfl in_X10 0 (by decide) fl_X10_7 rfl rfl dX10_extraIt_12 ?_
  refine V_bipush (v := 40) C dX10_extraIt_15 (by decide) ?_
  refine V_dup2 C dX10_extraIt_17 rfl rfl ?_
  refine V_iald C 1 rfl (show ix 40 40 113 from ix_nI (k := 40) (by omega) (by omega)) dX10_extraIt_18 ?_
  refine V_ev (show (upd z 46 ((z 46) + 1)) 40 = z 40 from (upd_n (show 40 ≠ 46 from by omega))) ?_
  refine V_aload_n C 0 dX10_extraIt_19 rfl rfl ?_
  refine V_get (v := .ref h1) C 0 rfl rfl in_X10 0 (by decide) fl_X10_7 rfl rfl dX10_extraIt_20 ?_
  refine V_bipush (v := 36) C dX10_extraIt_23 (by decide) ?_
  refine V_iald C 1 rfl (show ix 36 36 113 from ix_nI (k := 36) (by omega) (by omega)) dX10_extraIt_25 ?_
  refine V_ev (show (upd z 46 ((z 46) + 1)) 36 = z 36 from (upd_n (show 36 ≠ 46 from by omega))) ?_
  refine V_iadd C dX10_extraIt_26 ?_
  refine V_iast (ws2 := [(h0, .inr (10, [.ref h1, .ref h2, .ref h3, .ref h4, .int pm, .ref h5, .ref h6, .int ty, .ref h7, .int om, .int sp, .int wr])), (h1, .inl (gI g, 113, .inl (upd (upd z 46 ((z 46) + 1)) 40 ((z 40) + (z 36)))))]) C 1 rfl (show ix 40 40 113 from ix_nI (k := 40) (by omega) (by omega)) dX10_extraIt_27 rfl ?_
  refine V_aload_n C 0 dX10_extraIt_28 rfl rfl ?_
  refine V_get (v := .ref h1) C 0 rfl rfl in_X10 0 (by decide) fl_X10_7 rfl rfl dX10_extraIt_29 ?_
  refine V_bipush (v := 46) C dX10_extraIt_32 (by decide) ?_
  refine V_iald C 1 rfl (show ix 46 46 113 from ix_nI (k := 46) (by omega) (by omega)) dX10_extraIt_34 ?_
  refine V_ev (show (upd (upd z 46 ((z 46) + 1)) 40 ((z 40) + (z 36))) 46 = (z 46) + 1 from ((upd_n (show 46 ≠ 40 from by omega)).trans (upd_s))) ?_
  refine hret _ _ _ _ dX10_extraIt_35 ?_
  exact ⟨rfl, rfl⟩
set_option maxRecDepth 100000 in
set_option maxHeartbeats 4000000 in
theorem c_X10_extra (g : Gd) (h0 : Nat) (h1 : Nat) (h2 : Nat) (h3 : Nat) (h4 : Nat) (h5 : Nat) (h6 : Nat) (h7 : Nat) (pm : Nat) (ty : Int32) (om : Int32) (sp : Int32) (wr : Int32) (z : Nat → Int32) (past : Nat → Int32) (hpm : pm ≤ 6) : Ki g yX10_extra cX10_extra 2 (some .int) 1 0 0 [.ref h0] [(h0, .inr (10, [.ref h1, .ref h2, .ref h3, .ref h4, .int (nI pm), .ref h5, .ref h6, .int ty, .ref h7, .int om, .int sp, .int wr])), (h1, .inl (gI g, 113, .inl z)), (h2, .inl (gI g, 678, .inl past))] (fun (r : Int32) (w : va_W) => (z 38 = 0 ∧ r = (-5) ∧ w = [(h0, .inr (10, [.ref h1, .ref h2, .ref h3, .ref h4, .int (nI pm), .ref h5, .ref h6, .int ty, .ref h7, .int om, .int sp, .int wr])), (h1, .inl (gI g, 113, .inl z)), (h2, .inl (gI g, 678, .inl past))]) ∨ (¬ z 38 = 0 ∧ z 46 = 9 ∧ r = (-4) ∧ w = [(h0, .inr (10, [.ref h1, .ref h2, .ref h3, .ref h4, .int (nI pm), .ref h5, .ref h6, .int ty, .ref h7, .int om, .int sp, .int wr])), (h1, .inl (gI g, 113, .inl z)), (h2, .inl (gI g, 678, .inl past))]) ∨ (¬ z 38 = 0 ∧ ¬ z 46 = 9 ∧ r = z 46 + 1 ∧ w = [(h0, .inr (10, [.ref h1, .ref h2, .ref h3, .ref h4, .int (nI (min (pm + 1) 6)), .ref h5, .ref h6, .int ty, .ref h7, .int om, .int sp, .int wr])), (h1, .inl (gI g, 113, .inl (extraZ z))), (h2, .inl (gI g, 678, .inl (recP z past pm)))])) := by
  refine Ki.of (by decide) (Nat.le_of_ble_eq_true rfl) (fun X C hI hret => ?_)
  show V g X 0 0 [(h0, .inr (10, [.ref h1, .ref h2, .ref h3, .ref h4, .int (nI pm), .ref h5, .ref h6, .int ty, .ref h7, .int om, .int sp, .int wr])), (h1, .inl (gI g, 113, .inl z)), (h2, .inl (gI g, 678, .inl past))] 0 [(0, .ref h0)] []
  refine V_aload_n C 0 dX10_extra_0 rfl rfl ?_
  refine V_callVi (q0 := 0) (na := 0) (As := []) (rest := []) (wr := [(h2, .inl (gI g, 678, .inl past))]) C (c_X10_whyNotExtra g h0 h1 h2 h3 h4 h5 h6 h7 (nI pm) ty om sp wr z ) ⟨⟨ini_X10, co_X10_whyNotExtra, ⟨by decide, by decide, by decide +kernel⟩, by decide⟩, ml_X10_91, im_X10_whyNotExtra, se_X10_whyNotExtra⟩ [0, 1] [2] rfl rfl rfl rfl (by decide) rfl rfl rfl rfl (Nat.le_of_ble_eq_true rfl) (by omega) (by omega) dX10_extra_1 (fun r_1 w_ hw_2 => ?_)
  rcases hw_2 with ⟨hf2_0, rfl, rfl⟩ | ⟨hf2_0, hf2_1, rfl, rfl⟩ | ⟨hf2_0, hf2_1, rfl, rfl⟩
  · refine V_to (ws2 := [(h2, .inl (gI g, 678, .inl past)), (h0, .inr (10, [.ref h1, .ref h2, .ref h3, .ref h4, .int (nI pm), .ref h5, .ref h6, .int ty, .ref h7, .int om, .int sp, .int wr])), (h1, .inl (gI g, 113, .inl z))]) ?_ rfl
    refine V_istore_n (L2 := [(1, .int (-5)), (0, .ref h0)]) C dX10_extra_4 rfl (by decide) rfl ?_
    refine V_iload_n C 0 dX10_extra_5 rfl rfl ?_
    refine V_if_ge (tgt := 11) C dX10_extra_6 (by decide) (fun h => absurd h (by decide)) (fun _ => ?_)
    refine V_iload_n C 0 dX10_extra_9 rfl rfl ?_
    refine V_perm (ws2 := [(h0, .inr (10, [.ref h1, .ref h2, .ref h3, .ref h4, .int (nI pm), .ref h5, .ref h6, .int ty, .ref h7, .int om, .int sp, .int wr])), (h1, .inl (gI g, 113, .inl z)), (h2, .inl (gI g, 678, .inl past))]) [1, 2, 0] rfl rfl ?_
    refine hret _ _ _ _ dX10_extra_10 ?_
    exact Or.inl ⟨hf2_0, rfl, rfl⟩
  · refine V_to (ws2 := [(h2, .inl (gI g, 678, .inl past)), (h0, .inr (10, [.ref h1, .ref h2, .ref h3, .ref h4, .int (nI pm), .ref h5, .ref h6, .int ty, .ref h7, .int om, .int sp, .int wr])), (h1, .inl (gI g, 113, .inl z))]) ?_ rfl
    refine V_istore_n (L2 := [(1, .int (-4)), (0, .ref h0)]) C dX10_extra_4 rfl (by decide) rfl ?_
    refine V_iload_n C 0 dX10_extra_5 rfl rfl ?_
    refine V_if_ge (tgt := 11) C dX10_extra_6 (by decide) (fun h => absurd h (by decide)) (fun _ => ?_)
    refine V_iload_n C 0 dX10_extra_9 rfl rfl ?_
    refine V_perm (ws2 := [(h0, .inr (10, [.ref h1, .ref h2, .ref h3, .ref h4, .int (nI pm), .ref h5, .ref h6, .int ty, .ref h7, .int om, .int sp, .int wr])), (h1, .inl (gI g, 113, .inl z)), (h2, .inl (gI g, 678, .inl past))]) [1, 2, 0] rfl rfl ?_
    refine hret _ _ _ _ dX10_extra_10 ?_
    exact Or.inr (Or.inl ⟨hf2_0, hf2_1, rfl, rfl⟩)
  · refine V_to (ws2 := [(h2, .inl (gI g, 678, .inl past)), (h0, .inr (10, [.ref h1, .ref h2, .ref h3, .ref h4, .int (nI pm), .ref h5, .ref h6, .int ty, .ref h7, .int om, .int sp, .int wr])), (h1, .inl (gI g, 113, .inl z))]) ?_ rfl
    refine V_istore_n (L2 := [(1, .int 0), (0, .ref h0)]) C dX10_extra_4 rfl (by decide) rfl ?_
    refine V_iload_n C 0 dX10_extra_5 rfl rfl ?_
    refine V_if_ge (tgt := 11) C dX10_extra_6 (by decide) (fun _ => ?_) (fun h => absurd (by decide) h)
    refine V_aload_n C 1 dX10_extra_11 rfl rfl ?_
    refine V_callVv (q0 := 1) (na := 0) (As := []) (rest := []) (wr := []) C (c_X10_record g h0 h1 h2 h3 h4 h5 h6 h7 pm ty om sp wr z past (show pm ≤ 6 from by first | assumption | omega | exact ix_nI (by omega) (by omega) | decide)) ⟨⟨ini_X10, co_X10_record, ⟨by decide, by decide, by decide +kernel⟩, by decide⟩, ml_X10_45, im_X10_record, se_X10_record⟩ [1, 2, 0] [] rfl rfl rfl rfl (by decide) rfl rfl rfl rfl (Nat.le_of_ble_eq_true rfl) (by omega) (by omega) dX10_extra_12 (fun w_ hw_4 => ?_)
    obtain rfl := hw_4
    refine V_to (ws2 := [(h0, .inr (10, [.ref h1, .ref h2, .ref h3, .ref h4, .int (nI (min (pm + 1) 6)), .ref h5, .ref h6, .int ty, .ref h7, .int om, .int sp, .int wr])), (h1, .inl (gI g, 113, .inl z)), (h2, .inl (gI g, 678, .inl (recP z past pm)))]) ?_ rfl
    refine V_aload_n C 1 dX10_extra_15 rfl rfl ?_
    refine V_callVi (q0 := 0) (na := 0) (As := []) (rest := []) (wr := [(h2, .inl (gI g, 678, .inl (recP z past pm)))]) C (c_X10_extraIt g h0 h1 h2 h3 h4 h5 h6 h7 (nI (min (pm + 1) 6)) ty om sp wr z ) ⟨⟨ini_X10, co_X10_extraIt, ⟨by decide, by decide, by decide +kernel⟩, by decide⟩, ml_X10_94, im_X10_extraIt, se_X10_extraIt⟩ [0, 1] [2] rfl rfl rfl rfl (by decide) rfl rfl rfl rfl (Nat.le_of_ble_eq_true rfl) (by omega) (by omega) dX10_extra_16 (fun r_5 w_ hw_6 => ?_)
    obtain ⟨rfl, rfl⟩ := hw_6
    refine V_to (ws2 := [(h2, .inl (gI g, 678, .inl (recP z past pm))), (h0, .inr (10, [.ref h1, .ref h2, .ref h3, .ref h4, .int (nI (min (pm + 1) 6)), .ref h5, .ref h6, .int ty, .ref h7, .int om, .int sp, .int wr])), (h1, .inl (gI g, 113, .inl (extraZ z)))]) ?_ rfl
    refine V_perm (ws2 := [(h0, .inr (10, [.ref h1, .ref h2, .ref h3, .ref h4, .int (nI (min (pm + 1) 6)), .ref h5, .ref h6, .int ty, .ref h7, .int om, .int sp, .int wr])), (h1, .inl (gI g, 113, .inl (extraZ z))), (h2, .inl (gI g, 678, .inl (recP z past pm)))]) [1, 2, 0] rfl rfl ?_
    refine hret _ _ _ _ dX10_extra_19 ?_
    exact Or.inr (Or.inr ⟨hf2_0, hf2_1, rfl, rfl⟩)
set_option maxRecDepth 100000 in
set_option maxHeartbeats 4000000 in
theorem c_X10_endIt (g : Gd) (h0 : Nat) (h1 : Nat) (h2 : Nat) (h3 : Nat) (h4 : Nat) (h5 : Nat) (h6 : Nat) (h7 : Nat) (pm : Int32) (ty : Int32) (om : Int32) (sp : Int32) (wr : Int32) (z : Nat → Int32)  : Ki g yX10_endIt cX10_endIt 3 (some .int) 0 0 0 [.ref h0] [(h0, .inr (10, [.ref h1, .ref h2, .ref h3, .ref h4, .int pm, .ref h5, .ref h6, .int ty, .ref h7, .int om, .int sp, .int wr])), (h1, .inl (gI g, 113, .inl z))] (fun (r : Int32) (w : va_W) => r = z 39 + z 40 ∧ w = [(h0, .inr (10, [.ref h1, .ref h2, .ref h3, .ref h4, .int pm, .ref h5, .ref h6, .int ty, .ref h7, .int om, .int sp, .int wr])), (h1, .inl (gI g, 113, .inl (endZ z)))]) := by
  refine Ki.of (by decide) (Nat.le_of_ble_eq_true rfl) (fun X C hI hret => ?_)
  show V g X 0 0 [(h0, .inr (10, [.ref h1, .ref h2, .ref h3, .ref h4, .int pm, .ref h5, .ref h6, .int ty, .ref h7, .int om, .int sp, .int wr])), (h1, .inl (gI g, 113, .inl z))] 0 [(0, .ref h0)] []
  refine V_aload_n C 0 dX10_endIt_0 rfl rfl ?_
  refine V_get (v := .ref h1) C 0 rfl rfl in_X10 0 (by decide) fl_X10_7 rfl rfl dX10_endIt_1 ?_
  refine V_bipush (v := 39) C dX10_endIt_4 (by decide) ?_
  refine V_iald C 1 rfl (show ix 39 39 113 from ix_nI (k := 39) (by omega) (by omega)) dX10_endIt_6 ?_
  refine V_aload_n C 0 dX10_endIt_7 rfl rfl ?_
  refine V_get (v := .ref h1) C 0 rfl rfl in_X10 0 (by decide) fl_X10_7 rfl rfl dX10_endIt_8 ?_
  refine V_bipush (v := 40) C dX10_endIt_11 (by decide) ?_
  refine V_iald C 1 rfl (show ix 40 40 113 from ix_nI (k := 40) (by omega) (by omega)) dX10_endIt_13 ?_
  refine V_iadd C dX10_endIt_14 ?_
  refine V_istore_n (L2 := [(1, .int ((z 39) + (z 40))), (0, .ref h0)]) C dX10_endIt_15 rfl (by decide) rfl ?_
  refine V_bipush (v := 59) C dX10_endIt_16 (by decide) ?_
  refine V_istore_n (L2 := [(2, .int 59), (1, .int ((z 39) + (z 40))), (0, .ref h0)]) C dX10_endIt_18 rfl (by decide) rfl ?_
  refine V_to (ws2 := [(h0, .inr (10, [.ref h1, .ref h2, .ref h3, .ref h4, .int pm, .ref h5, .ref h6, .int ty, .ref h7, .int om, .int sp, .int wr])), (h1, .inl (gI g, 113, .inl (shL z 59)))]) ?_ (by rw [shL_0])
  have loop_19 : ∀ (fu_19 : Nat) (j : Nat), j ≤ 59 → 4 ≤ j → j < fu_19 → V g X 0 0 [(h0, .inr (10, [.ref h1, .ref h2, .ref h3, .ref h4, .int pm, .ref h5, .ref h6, .int ty, .ref h7, .int om, .int sp, .int wr])), (h1, .inl (gI g, 113, .inl (shL z j)))] 19 [(0, .ref h0), (1, .int (z 39 + z 40)), (2, .int (nI j))] [] := by
    intro fu_19
    induction fu_19 with
    | zero => intro j hj hl hm; exact absurd hm (by omega)
    | succ fu_19 ih_19 =>
      intro j hj hl hm
      refine V_iload_n C 2 dX10_endIt_19 rfl rfl ?_
      refine V_iconst (v := 5) C dX10_endIt_20 (by decide) ?_
      refine V_icmp_lt (tgt := 50) C dX10_endIt_21 (by decide) (fun c_21 => ?_) (fun c_21 => ?_)
      · have hj2 : j = 4 := by
          have q := (nI_ltI (a := j) (b := 5) (by omega) (by omega)).mp c_21
          omega
        subst hj2
        refine V_aload_n C 0 dX10_endIt_50 rfl rfl ?_
        refine V_get (v := .ref h1) C 0 rfl rfl in_X10 0 (by decide) fl_X10_7 rfl rfl dX10_endIt_51 ?_
        refine V_bipush (v := 53) C dX10_endIt_54 (by decide) ?_
        refine V_iload_n C 1 dX10_endIt_56 rfl rfl ?_
        refine V_iast (ws2 := [(h0, .inr (10, [.ref h1, .ref h2, .ref h3, .ref h4, .int pm, .ref h5, .ref h6, .int ty, .ref h7, .int om, .int sp, .int wr])), (h1, .inl (gI g, 113, .inl (upd (shL z 4) 53 (z 39 + z 40))))]) C 1 rfl (show ix 53 53 113 from ix_nI (k := 53) (by omega) (by omega)) dX10_endIt_57 rfl ?_
        refine V_aload_n C 0 dX10_endIt_58 rfl rfl ?_
        refine V_get (v := .ref h1) C 0 rfl rfl in_X10 0 (by decide) fl_X10_7 rfl rfl dX10_endIt_59 ?_
        refine V_bipush (v := 54) C dX10_endIt_62 (by decide) ?_
        refine V_aload_n C 0 dX10_endIt_64 rfl rfl ?_
        refine V_get (v := .ref h1) C 0 rfl rfl in_X10 0 (by decide) fl_X10_7 rfl rfl dX10_endIt_65 ?_
        refine V_bipush (v := 41) C dX10_endIt_68 (by decide) ?_
        refine V_iald C 1 rfl (show ix 41 41 113 from ix_nI (k := 41) (by omega) (by omega)) dX10_endIt_70 ?_
        refine V_ev (show (upd (shL z 4) 53 (z 39 + z 40)) 41 = z 41 from ((upd_n (show 41 ≠ 53 from by omega)).trans (shL_n (show ¬ (53 + 4 < 41 ∧ 41 < 113) from by omega)))) ?_
        refine V_iast (ws2 := [(h0, .inr (10, [.ref h1, .ref h2, .ref h3, .ref h4, .int pm, .ref h5, .ref h6, .int ty, .ref h7, .int om, .int sp, .int wr])), (h1, .inl (gI g, 113, .inl (upd (upd (shL z 4) 53 (z 39 + z 40)) 54 (z 41))))]) C 1 rfl (show ix 54 54 113 from ix_nI (k := 54) (by omega) (by omega)) dX10_endIt_71 rfl ?_
        refine V_aload_n C 0 dX10_endIt_72 rfl rfl ?_
        refine V_get (v := .ref h1) C 0 rfl rfl in_X10 0 (by decide) fl_X10_7 rfl rfl dX10_endIt_73 ?_
        refine V_bipush (v := 55) C dX10_endIt_76 (by decide) ?_
        refine V_aload_n C 0 dX10_endIt_78 rfl rfl ?_
        refine V_get (v := .ref h1) C 0 rfl rfl in_X10 0 (by decide) fl_X10_7 rfl rfl dX10_endIt_79 ?_
        refine V_bipush (v := 42) C dX10_endIt_82 (by decide) ?_
        refine V_iald C 1 rfl (show ix 42 42 113 from ix_nI (k := 42) (by omega) (by omega)) dX10_endIt_84 ?_
        refine V_ev (show (upd (upd (shL z 4) 53 (z 39 + z 40)) 54 (z 41)) 42 = z 42 from ((upd_n (show 42 ≠ 54 from by omega)).trans ((upd_n (show 42 ≠ 53 from by omega)).trans (shL_n (show ¬ (53 + 4 < 42 ∧ 42 < 113) from by omega))))) ?_
        refine V_aload_n C 0 dX10_endIt_85 rfl rfl ?_
        refine V_get (v := .ref h1) C 0 rfl rfl in_X10 0 (by decide) fl_X10_7 rfl rfl dX10_endIt_86 ?_
        refine V_bipush (v := 43) C dX10_endIt_89 (by decide) ?_
        refine V_iald C 1 rfl (show ix 43 43 113 from ix_nI (k := 43) (by omega) (by omega)) dX10_endIt_91 ?_
        refine V_ev (show (upd (upd (shL z 4) 53 (z 39 + z 40)) 54 (z 41)) 43 = z 43 from ((upd_n (show 43 ≠ 54 from by omega)).trans ((upd_n (show 43 ≠ 53 from by omega)).trans (shL_n (show ¬ (53 + 4 < 43 ∧ 43 < 113) from by omega))))) ?_
        refine V_iadd C dX10_endIt_92 ?_
        refine V_iast (ws2 := [(h0, .inr (10, [.ref h1, .ref h2, .ref h3, .ref h4, .int pm, .ref h5, .ref h6, .int ty, .ref h7, .int om, .int sp, .int wr])), (h1, .inl (gI g, 113, .inl (upd (upd (upd (shL z 4) 53 (z 39 + z 40)) 54 (z 41)) 55 ((z 42) + (z 43)))))]) C 1 rfl (show ix 55 55 113 from ix_nI (k := 55) (by omega) (by omega)) dX10_endIt_93 rfl ?_
        refine V_aload_n C 0 dX10_endIt_94 rfl rfl ?_
        refine V_get (v := .ref h1) C 0 rfl rfl in_X10 0 (by decide) fl_X10_7 rfl rfl dX10_endIt_95 ?_
        refine V_bipush (v := 56) C dX10_endIt_98 (by decide) ?_
        refine V_aload_n C 0 dX10_endIt_100 rfl rfl ?_
        refine V_get (v := .ref h1) C 0 rfl rfl in_X10 0 (by decide) fl_X10_7 rfl rfl dX10_endIt_101 ?_
        refine V_bipush (v := 44) C dX10_endIt_104 (by decide) ?_
        refine V_iald C 1 rfl (show ix 44 44 113 from ix_nI (k := 44) (by omega) (by omega)) dX10_endIt_106 ?_
        refine V_ev (show (upd (upd (upd (shL z 4) 53 (z 39 + z 40)) 54 (z 41)) 55 ((z 42) + (z 43))) 44 = z 44 from ((upd_n (show 44 ≠ 55 from by omega)).trans ((upd_n (show 44 ≠ 54 from by omega)).trans ((upd_n (show 44 ≠ 53 from by omega)).trans (shL_n (show ¬ (53 + 4 < 44 ∧ 44 < 113) from by omega)))))) ?_
        refine V_aload_n C 0 dX10_endIt_107 rfl rfl ?_
        refine V_get (v := .ref h1) C 0 rfl rfl in_X10 0 (by decide) fl_X10_7 rfl rfl dX10_endIt_108 ?_
        refine V_bipush (v := 45) C dX10_endIt_111 (by decide) ?_
        refine V_iald C 1 rfl (show ix 45 45 113 from ix_nI (k := 45) (by omega) (by omega)) dX10_endIt_113 ?_
        refine V_ev (show (upd (upd (upd (shL z 4) 53 (z 39 + z 40)) 54 (z 41)) 55 ((z 42) + (z 43))) 45 = z 45 from ((upd_n (show 45 ≠ 55 from by omega)).trans ((upd_n (show 45 ≠ 54 from by omega)).trans ((upd_n (show 45 ≠ 53 from by omega)).trans (shL_n (show ¬ (53 + 4 < 45 ∧ 45 < 113) from by omega)))))) ?_
        refine V_iadd C dX10_endIt_114 ?_
        refine V_iast (ws2 := [(h0, .inr (10, [.ref h1, .ref h2, .ref h3, .ref h4, .int pm, .ref h5, .ref h6, .int ty, .ref h7, .int om, .int sp, .int wr])), (h1, .inl (gI g, 113, .inl (upd (upd (upd (upd (shL z 4) 53 (z 39 + z 40)) 54 (z 41)) 55 ((z 42) + (z 43))) 56 ((z 44) + (z 45)))))]) C 1 rfl (show ix 56 56 113 from ix_nI (k := 56) (by omega) (by omega)) dX10_endIt_115 rfl ?_
        refine V_aload_n C 0 dX10_endIt_116 rfl rfl ?_
        refine V_get (v := .ref h1) C 0 rfl rfl in_X10 0 (by decide) fl_X10_7 rfl rfl dX10_endIt_117 ?_
        refine V_bipush (v := 57) C dX10_endIt_120 (by decide) ?_
        refine V_aload_n C 0 dX10_endIt_122 rfl rfl ?_
        refine V_get (v := .ref h1) C 0 rfl rfl in_X10 0 (by decide) fl_X10_7 rfl rfl dX10_endIt_123 ?_
        refine V_bipush (v := 49) C dX10_endIt_126 (by decide) ?_
        refine V_iald C 1 rfl (show ix 49 49 113 from ix_nI (k := 49) (by omega) (by omega)) dX10_endIt_128 ?_
        refine V_ev (show (upd (upd (upd (upd (shL z 4) 53 (z 39 + z 40)) 54 (z 41)) 55 ((z 42) + (z 43))) 56 ((z 44) + (z 45))) 49 = z 49 from ((upd_n (show 49 ≠ 56 from by omega)).trans ((upd_n (show 49 ≠ 55 from by omega)).trans ((upd_n (show 49 ≠ 54 from by omega)).trans ((upd_n (show 49 ≠ 53 from by omega)).trans (shL_n (show ¬ (53 + 4 < 49 ∧ 49 < 113) from by omega))))))) ?_
        refine V_iast (ws2 := [(h0, .inr (10, [.ref h1, .ref h2, .ref h3, .ref h4, .int pm, .ref h5, .ref h6, .int ty, .ref h7, .int om, .int sp, .int wr])), (h1, .inl (gI g, 113, .inl (upd (upd (upd (upd (upd (shL z 4) 53 (z 39 + z 40)) 54 (z 41)) 55 ((z 42) + (z 43))) 56 ((z 44) + (z 45))) 57 (z 49))))]) C 1 rfl (show ix 57 57 113 from ix_nI (k := 57) (by omega) (by omega)) dX10_endIt_129 rfl ?_
        refine V_aload_n C 0 dX10_endIt_130 rfl rfl ?_
        refine V_get (v := .ref h1) C 0 rfl rfl in_X10 0 (by decide) fl_X10_7 rfl rfl dX10_endIt_131 ?_
        refine V_bipush (v := 52) C dX10_endIt_134 (by decide) ?_
        refine V_aload_n C 0 dX10_endIt_136 rfl rfl ?_
        refine V_get (v := .ref h1) C 0 rfl rfl in_X10 0 (by decide) fl_X10_7 rfl rfl dX10_endIt_137 ?_
        refine V_bipush (v := 52) C dX10_endIt_140 (by decide) ?_
        refine V_iald C 1 rfl (show ix 52 52 113 from ix_nI (k := 52) (by omega) (by omega)) dX10_endIt_142 ?_
        refine V_ev (show (upd (upd (upd (upd (upd (shL z 4) 53 (z 39 + z 40)) 54 (z 41)) 55 ((z 42) + (z 43))) 56 ((z 44) + (z 45))) 57 (z 49)) 52 = z 52 from ((upd_n (show 52 ≠ 57 from by omega)).trans ((upd_n (show 52 ≠ 56 from by omega)).trans ((upd_n (show 52 ≠ 55 from by omega)).trans ((upd_n (show 52 ≠ 54 from by omega)).trans ((upd_n (show 52 ≠ 53 from by omega)).trans (shL_n (show ¬ (53 + 4 < 52 ∧ 52 < 113) from by omega)))))))) ?_
        refine V_bipush (v := 12) C dX10_endIt_143 (by decide) ?_
        refine V_icmp_ge (tgt := 160) C dX10_endIt_145 (by decide) (fun c_145 => ?_) (fun c_145 => ?_)
        · refine V_bipush (v := 12) C dX10_endIt_160 (by decide) ?_
          refine V_iast (ws2 := [(h0, .inr (10, [.ref h1, .ref h2, .ref h3, .ref h4, .int pm, .ref h5, .ref h6, .int ty, .ref h7, .int om, .int sp, .int wr])), (h1, .inl (gI g, 113, .inl (upd (upd (upd (upd (upd (upd (shL z 4) 53 (z 39 + z 40)) 54 (z 41)) 55 ((z 42) + (z 43))) 56 ((z 44) + (z 45))) 57 (z 49)) 52 12)))]) C 1 rfl (show ix 52 52 113 from ix_nI (k := 52) (by omega) (by omega)) dX10_endIt_162 rfl ?_
          refine V_aload_n C 0 dX10_endIt_163 rfl rfl ?_
          refine V_get (v := .ref h1) C 0 rfl rfl in_X10 0 (by decide) fl_X10_7 rfl rfl dX10_endIt_164 ?_
          refine V_bipush (v := 50) C dX10_endIt_167 (by decide) ?_
          refine V_dup2 C dX10_endIt_169 rfl rfl ?_
          refine V_iald C 1 rfl (show ix 50 50 113 from ix_nI (k := 50) (by omega) (by omega)) dX10_endIt_170 ?_
          refine V_ev (show (upd (upd (upd (upd (upd (upd (shL z 4) 53 (z 39 + z 40)) 54 (z 41)) 55 ((z 42) + (z 43))) 56 ((z 44) + (z 45))) 57 (z 49)) 52 12) 50 = z 50 from ((upd_n (show 50 ≠ 52 from by omega)).trans ((upd_n (show 50 ≠ 57 from by omega)).trans ((upd_n (show 50 ≠ 56 from by omega)).trans ((upd_n (show 50 ≠ 55 from by omega)).trans ((upd_n (show 50 ≠ 54 from by omega)).trans ((upd_n (show 50 ≠ 53 from by omega)).trans (shL_n (show ¬ (53 + 4 < 50 ∧ 50 < 113) from by omega))))))))) ?_
          refine V_iconst (v := 1) C dX10_endIt_171 (by decide) ?_
          refine V_iadd C dX10_endIt_172 ?_
          refine V_iast (ws2 := [(h0, .inr (10, [.ref h1, .ref h2, .ref h3, .ref h4, .int pm, .ref h5, .ref h6, .int ty, .ref h7, .int om, .int sp, .int wr])), (h1, .inl (gI g, 113, .inl (upd (upd (upd (upd (upd (upd (upd (shL z 4) 53 (z 39 + z 40)) 54 (z 41)) 55 ((z 42) + (z 43))) 56 ((z 44) + (z 45))) 57 (z 49)) 52 12) 50 ((z 50) + 1))))]) C 1 rfl (show ix 50 50 113 from ix_nI (k := 50) (by omega) (by omega)) dX10_endIt_173 rfl ?_
          refine V_aload_n C 0 dX10_endIt_174 rfl rfl ?_
          refine V_get (v := .ref h1) C 0 rfl rfl in_X10 0 (by decide) fl_X10_7 rfl rfl dX10_endIt_175 ?_
          refine V_bipush (v := 51) C dX10_endIt_178 (by decide) ?_
          refine V_aload_n C 0 dX10_endIt_180 rfl rfl ?_
          refine V_get (v := .ref h1) C 0 rfl rfl in_X10 0 (by decide) fl_X10_7 rfl rfl dX10_endIt_181 ?_
          refine V_bipush (v := 51) C dX10_endIt_184 (by decide) ?_
          refine V_iald C 1 rfl (show ix 51 51 113 from ix_nI (k := 51) (by omega) (by omega)) dX10_endIt_186 ?_
          refine V_ev (show (upd (upd (upd (upd (upd (upd (upd (shL z 4) 53 (z 39 + z 40)) 54 (z 41)) 55 ((z 42) + (z 43))) 56 ((z 44) + (z 45))) 57 (z 49)) 52 12) 50 ((z 50) + 1)) 51 = z 51 from ((upd_n (show 51 ≠ 50 from by omega)).trans ((upd_n (show 51 ≠ 52 from by omega)).trans ((upd_n (show 51 ≠ 57 from by omega)).trans ((upd_n (show 51 ≠ 56 from by omega)).trans ((upd_n (show 51 ≠ 55 from by omega)).trans ((upd_n (show 51 ≠ 54 from by omega)).trans ((upd_n (show 51 ≠ 53 from by omega)).trans (shL_n (show ¬ (53 + 4 < 51 ∧ 51 < 113) from by omega)))))))))) ?_
          refine V_iload_n C 1 dX10_endIt_187 rfl rfl ?_
          refine V_iadd C dX10_endIt_188 ?_
          refine V_ldc (v := 1000000) C k_X10_97 dX10_endIt_189 ?_
          refine V_irem C dX10_endIt_191 (by decide) ?_
          refine V_iast (ws2 := [(h0, .inr (10, [.ref h1, .ref h2, .ref h3, .ref h4, .int pm, .ref h5, .ref h6, .int ty, .ref h7, .int om, .int sp, .int wr])), (h1, .inl (gI g, 113, .inl (upd (upd (upd (upd (upd (upd (upd (upd (shL z 4) 53 (z 39 + z 40)) 54 (z 41)) 55 ((z 42) + (z 43))) 56 ((z 44) + (z 45))) 57 (z 49)) 52 12) 50 ((z 50) + 1)) 51 (((z 51) + (z 39 + z 40)) - ((z 51) + (z 39 + z 40)) / 1000000 * 1000000))))]) C 1 rfl (show ix 51 51 113 from ix_nI (k := 51) (by omega) (by omega)) dX10_endIt_192 rfl ?_
          refine V_aload_n C 0 dX10_endIt_193 rfl rfl ?_
          refine V_get (v := .ref h1) C 0 rfl rfl in_X10 0 (by decide) fl_X10_7 rfl rfl dX10_endIt_194 ?_
          refine V_bipush (v := 38) C dX10_endIt_197 (by decide) ?_
          refine V_iconst (v := 0) C dX10_endIt_199 (by decide) ?_
          refine V_iast (ws2 := [(h0, .inr (10, [.ref h1, .ref h2, .ref h3, .ref h4, .int pm, .ref h5, .ref h6, .int ty, .ref h7, .int om, .int sp, .int wr])), (h1, .inl (gI g, 113, .inl (upd (upd (upd (upd (upd (upd (upd (upd (upd (shL z 4) 53 (z 39 + z 40)) 54 (z 41)) 55 ((z 42) + (z 43))) 56 ((z 44) + (z 45))) 57 (z 49)) 52 12) 50 ((z 50) + 1)) 51 (((z 51) + (z 39 + z 40)) - ((z 51) + (z 39 + z 40)) / 1000000 * 1000000)) 38 0)))]) C 1 rfl (show ix 38 38 113 from ix_nI (k := 38) (by omega) (by omega)) dX10_endIt_200 rfl ?_
          refine V_iload_n C 1 dX10_endIt_201 rfl rfl ?_
          refine hret _ _ _ _ dX10_endIt_202 ?_
          exact ⟨rfl, by simp only [endZ, if_pos c_145]⟩
        · refine V_aload_n C 0 dX10_endIt_148 rfl rfl ?_
          refine V_get (v := .ref h1) C 0 rfl rfl in_X10 0 (by decide) fl_X10_7 rfl rfl dX10_endIt_149 ?_
          refine V_bipush (v := 52) C dX10_endIt_152 (by decide) ?_
          refine V_iald C 1 rfl (show ix 52 52 113 from ix_nI (k := 52) (by omega) (by omega)) dX10_endIt_154 ?_
          refine V_ev (show (upd (upd (upd (upd (upd (shL z 4) 53 (z 39 + z 40)) 54 (z 41)) 55 ((z 42) + (z 43))) 56 ((z 44) + (z 45))) 57 (z 49)) 52 = z 52 from ((upd_n (show 52 ≠ 57 from by omega)).trans ((upd_n (show 52 ≠ 56 from by omega)).trans ((upd_n (show 52 ≠ 55 from by omega)).trans ((upd_n (show 52 ≠ 54 from by omega)).trans ((upd_n (show 52 ≠ 53 from by omega)).trans (shL_n (show ¬ (53 + 4 < 52 ∧ 52 < 113) from by omega)))))))) ?_
          refine V_iconst (v := 1) C dX10_endIt_155 (by decide) ?_
          refine V_iadd C dX10_endIt_156 ?_
          refine V_goto (tgt := 162) C dX10_endIt_157 (by decide) ?_
          refine V_iast (ws2 := [(h0, .inr (10, [.ref h1, .ref h2, .ref h3, .ref h4, .int pm, .ref h5, .ref h6, .int ty, .ref h7, .int om, .int sp, .int wr])), (h1, .inl (gI g, 113, .inl (upd (upd (upd (upd (upd (upd (shL z 4) 53 (z 39 + z 40)) 54 (z 41)) 55 ((z 42) + (z 43))) 56 ((z 44) + (z 45))) 57 (z 49)) 52 ((z 52) + 1))))]) C 1 rfl (show ix 52 52 113 from ix_nI (k := 52) (by omega) (by omega)) dX10_endIt_162 rfl ?_
          refine V_aload_n C 0 dX10_endIt_163 rfl rfl ?_
          refine V_get (v := .ref h1) C 0 rfl rfl in_X10 0 (by decide) fl_X10_7 rfl rfl dX10_endIt_164 ?_
          refine V_bipush (v := 50) C dX10_endIt_167 (by decide) ?_
          refine V_dup2 C dX10_endIt_169 rfl rfl ?_
          refine V_iald C 1 rfl (show ix 50 50 113 from ix_nI (k := 50) (by omega) (by omega)) dX10_endIt_170 ?_
          refine V_ev (show (upd (upd (upd (upd (upd (upd (shL z 4) 53 (z 39 + z 40)) 54 (z 41)) 55 ((z 42) + (z 43))) 56 ((z 44) + (z 45))) 57 (z 49)) 52 ((z 52) + 1)) 50 = z 50 from ((upd_n (show 50 ≠ 52 from by omega)).trans ((upd_n (show 50 ≠ 57 from by omega)).trans ((upd_n (show 50 ≠ 56 from by omega)).trans ((upd_n (show 50 ≠ 55 from by omega)).trans ((upd_n (show 50 ≠ 54 from by omega)).trans ((upd_n (show 50 ≠ 53 from by omega)).trans (shL_n (show ¬ (53 + 4 < 50 ∧ 50 < 113) from by omega))))))))) ?_
          refine V_iconst (v := 1) C dX10_endIt_171 (by decide) ?_
          refine V_iadd C dX10_endIt_172 ?_
          refine V_iast (ws2 := [(h0, .inr (10, [.ref h1, .ref h2, .ref h3, .ref h4, .int pm, .ref h5, .ref h6, .int ty, .ref h7, .int om, .int sp, .int wr])), (h1, .inl (gI g, 113, .inl (upd (upd (upd (upd (upd (upd (upd (shL z 4) 53 (z 39 + z 40)) 54 (z 41)) 55 ((z 42) + (z 43))) 56 ((z 44) + (z 45))) 57 (z 49)) 52 ((z 52) + 1)) 50 ((z 50) + 1))))]) C 1 rfl (show ix 50 50 113 from ix_nI (k := 50) (by omega) (by omega)) dX10_endIt_173 rfl ?_
          refine V_aload_n C 0 dX10_endIt_174 rfl rfl ?_
          refine V_get (v := .ref h1) C 0 rfl rfl in_X10 0 (by decide) fl_X10_7 rfl rfl dX10_endIt_175 ?_
          refine V_bipush (v := 51) C dX10_endIt_178 (by decide) ?_
          refine V_aload_n C 0 dX10_endIt_180 rfl rfl ?_
          refine V_get (v := .ref h1) C 0 rfl rfl in_X10 0 (by decide) fl_X10_7 rfl rfl dX10_endIt_181 ?_
          refine V_bipush (v := 51) C dX10_endIt_184 (by decide) ?_
          refine V_iald C 1 rfl (show ix 51 51 113 from ix_nI (k := 51) (by omega) (by omega)) dX10_endIt_186 ?_
          refine V_ev (show (upd (upd (upd (upd (upd (upd (upd (shL z 4) 53 (z 39 + z 40)) 54 (z 41)) 55 ((z 42) + (z 43))) 56 ((z 44) + (z 45))) 57 (z 49)) 52 ((z 52) + 1)) 50 ((z 50) + 1)) 51 = z 51 from ((upd_n (show 51 ≠ 50 from by omega)).trans ((upd_n (show 51 ≠ 52 from by omega)).trans ((upd_n (show 51 ≠ 57 from by omega)).trans ((upd_n (show 51 ≠ 56 from by omega)).trans ((upd_n (show 51 ≠ 55 from by omega)).trans ((upd_n (show 51 ≠ 54 from by omega)).trans ((upd_n (show 51 ≠ 53 from by omega)).trans (shL_n (show ¬ (53 + 4 < 51 ∧ 51 < 113) from by omega)))))))))) ?_
          refine V_iload_n C 1 dX10_endIt_187 rfl rfl ?_
          refine V_iadd C dX10_endIt_188 ?_
          refine V_ldc (v := 1000000) C k_X10_97 dX10_endIt_189 ?_
          refine V_irem C dX10_endIt_191 (by decide) ?_
          refine V_iast (ws2 := [(h0, .inr (10, [.ref h1, .ref h2, .ref h3, .ref h4, .int pm, .ref h5, .ref h6, .int ty, .ref h7, .int om, .int sp, .int wr])), (h1, .inl (gI g, 113, .inl (upd (upd (upd (upd (upd (upd (upd (upd (shL z 4) 53 (z 39 + z 40)) 54 (z 41)) 55 ((z 42) + (z 43))) 56 ((z 44) + (z 45))) 57 (z 49)) 52 ((z 52) + 1)) 50 ((z 50) + 1)) 51 (((z 51) + (z 39 + z 40)) - ((z 51) + (z 39 + z 40)) / 1000000 * 1000000))))]) C 1 rfl (show ix 51 51 113 from ix_nI (k := 51) (by omega) (by omega)) dX10_endIt_192 rfl ?_
          refine V_aload_n C 0 dX10_endIt_193 rfl rfl ?_
          refine V_get (v := .ref h1) C 0 rfl rfl in_X10 0 (by decide) fl_X10_7 rfl rfl dX10_endIt_194 ?_
          refine V_bipush (v := 38) C dX10_endIt_197 (by decide) ?_
          refine V_iconst (v := 0) C dX10_endIt_199 (by decide) ?_
          refine V_iast (ws2 := [(h0, .inr (10, [.ref h1, .ref h2, .ref h3, .ref h4, .int pm, .ref h5, .ref h6, .int ty, .ref h7, .int om, .int sp, .int wr])), (h1, .inl (gI g, 113, .inl (upd (upd (upd (upd (upd (upd (upd (upd (upd (shL z 4) 53 (z 39 + z 40)) 54 (z 41)) 55 ((z 42) + (z 43))) 56 ((z 44) + (z 45))) 57 (z 49)) 52 ((z 52) + 1)) 50 ((z 50) + 1)) 51 (((z 51) + (z 39 + z 40)) - ((z 51) + (z 39 + z 40)) / 1000000 * 1000000)) 38 0)))]) C 1 rfl (show ix 38 38 113 from ix_nI (k := 38) (by omega) (by omega)) dX10_endIt_200 rfl ?_
          refine V_iload_n C 1 dX10_endIt_201 rfl rfl ?_
          refine hret _ _ _ _ dX10_endIt_202 ?_
          exact ⟨rfl, by simp only [endZ, if_neg c_145]⟩
      · have hj2 : 5 ≤ j := by
          rcases Nat.lt_or_ge j 5 with q | q
          · exact absurd ((nI_ltI (a := j) (b := 5) (by omega) (by omega)).mpr q) c_21
          · exact q
        refine V_aload_n C 0 dX10_endIt_24 rfl rfl ?_
        refine V_get (v := .ref h1) C 0 rfl rfl in_X10 0 (by decide) fl_X10_7 rfl rfl dX10_endIt_25 ?_
        refine V_bipush (v := 53) C dX10_endIt_28 (by decide) ?_
        refine V_iload_n C 2 dX10_endIt_30 rfl rfl ?_
        refine V_iadd C dX10_endIt_31 ?_
        refine V_ev (show (53 + (nI j) : Int32) = nI (53 + j) from nI_add 53 j) ?_
        refine V_aload_n C 0 dX10_endIt_32 rfl rfl ?_
        refine V_get (v := .ref h1) C 0 rfl rfl in_X10 0 (by decide) fl_X10_7 rfl rfl dX10_endIt_33 ?_
        refine V_bipush (v := 53) C dX10_endIt_36 (by decide) ?_
        refine V_iload_n C 2 dX10_endIt_38 rfl rfl ?_
        refine V_iadd C dX10_endIt_39 ?_
        refine V_ev (show (53 + (nI j) : Int32) = nI (53 + j) from nI_add 53 j) ?_
        refine V_iconst (v := 5) C dX10_endIt_40 (by decide) ?_
        refine V_isub C dX10_endIt_41 ?_
        refine V_ev (show ((nI (53 + j)) - 5 : Int32) = nI (53 + j - 5) from pk_sub (b := 5) (by omega)) ?_
        refine V_iald C 1 rfl (ix_nI (show 53 + j - 5 < 113 by omega) (by omega)) dX10_endIt_42 ?_
        refine V_ev (show ((shL z j) (53 + j - 5) : Int32) = z (53 + j - 5) from shL_r (by omega)) ?_
        refine V_iast (ws2 := [(h0, .inr (10, [.ref h1, .ref h2, .ref h3, .ref h4, .int pm, .ref h5, .ref h6, .int ty, .ref h7, .int om, .int sp, .int wr])), (h1, .inl (gI g, 113, .inl (upd (shL z j) (53 + j) (z (53 + j - 5)))))]) C 1 rfl (ix_nI (show 53 + j < 113 by omega) (by omega)) dX10_endIt_43 rfl ?_
        refine V_to (ws2 := [(h0, .inr (10, [.ref h1, .ref h2, .ref h3, .ref h4, .int pm, .ref h5, .ref h6, .int ty, .ref h7, .int om, .int sp, .int wr])), (h1, .inl (gI g, 113, .inl (shL z (j - 1))))]) ?_ (by rw [shL_t (by omega) (by omega)])
        refine V_iinc (v := nI (j - 1)) (L2 := [(2, .int (nI (j - 1))), (0, .ref h0), (1, .int (z 39 + z 40))]) C 2 dX10_endIt_44 rfl (nI_m1 (by omega)) (by decide) rfl ?_
        refine V_goto (tgt := 19) C dX10_endIt_47 (by decide) ?_
        refine V_locs (L2 := [(0, .ref h0), (1, .int (z 39 + z 40)), (2, .int (nI (j - 1)))]) [1, 2, 0] rfl ?_
        exact ih_19 (j - 1) (show (j - 1) ≤ 59 from by first | assumption | omega | rfl) (show 4 ≤ (j - 1) from by first | assumption | omega | rfl) (by omega)
  refine V_locs (L2 := [(0, .ref h0), (1, .int ((z 39) + (z 40))), (2, .int 59)]) [2, 1, 0] rfl ?_
  exact loop_19 (59 + 1) 59 (show 59 ≤ 59 from by first | assumption | omega | rfl) (show 4 ≤ 59 from by first | assumption | omega | rfl) (by omega)
set_option maxRecDepth 100000 in
set_option maxHeartbeats 4000000 in
theorem c_X10_end (g : Gd) (h0 : Nat) (h1 : Nat) (h2 : Nat) (h3 : Nat) (h4 : Nat) (h5 : Nat) (h6 : Nat) (h7 : Nat) (pm : Nat) (ty : Int32) (om : Int32) (sp : Int32) (wr : Int32) (z : Nat → Int32) (past : Nat → Int32) (hpm : pm ≤ 6) : Ki g yX10_end cX10_end 1 (some .int) 1 0 0 [.ref h0] [(h0, .inr (10, [.ref h1, .ref h2, .ref h3, .ref h4, .int (nI pm), .ref h5, .ref h6, .int ty, .ref h7, .int om, .int sp, .int wr])), (h1, .inl (gI g, 113, .inl z)), (h2, .inl (gI g, 678, .inl past))] (fun (r : Int32) (w : va_W) => (z 38 = 0 ∧ r = (-5) ∧ w = [(h0, .inr (10, [.ref h1, .ref h2, .ref h3, .ref h4, .int (nI pm), .ref h5, .ref h6, .int ty, .ref h7, .int om, .int sp, .int wr])), (h1, .inl (gI g, 113, .inl z)), (h2, .inl (gI g, 678, .inl past))]) ∨ (¬ z 38 = 0 ∧ r = z 39 + z 40 ∧ w = [(h0, .inr (10, [.ref h1, .ref h2, .ref h3, .ref h4, .int (nI (min (pm + 1) 6)), .ref h5, .ref h6, .int ty, .ref h7, .int om, .int sp, .int wr])), (h1, .inl (gI g, 113, .inl (endZ z))), (h2, .inl (gI g, 678, .inl (recP z past pm)))])) := by
  refine Ki.of (by decide) (Nat.le_of_ble_eq_true rfl) (fun X C hI hret => ?_)
  show V g X 0 0 [(h0, .inr (10, [.ref h1, .ref h2, .ref h3, .ref h4, .int (nI pm), .ref h5, .ref h6, .int ty, .ref h7, .int om, .int sp, .int wr])), (h1, .inl (gI g, 113, .inl z)), (h2, .inl (gI g, 678, .inl past))] 0 [(0, .ref h0)] []
  refine V_aload_n C 0 dX10_end_0 rfl rfl ?_
  refine V_get (v := .ref h1) C 0 rfl rfl in_X10 0 (by decide) fl_X10_7 rfl rfl dX10_end_1 ?_
  refine V_bipush (v := 38) C dX10_end_4 (by decide) ?_
  refine V_iald C 1 rfl (show ix 38 38 113 from ix_nI (k := 38) (by omega) (by omega)) dX10_end_6 ?_
  refine V_if_ne (tgt := 13) C dX10_end_7 (by decide) (fun c_7 => ?_) (fun c_7 => ?_)
  · refine V_aload_n C 0 dX10_end_13 rfl rfl ?_
    refine V_callVv (q0 := 0) (na := 0) (As := []) (rest := []) (wr := []) C (c_X10_record g h0 h1 h2 h3 h4 h5 h6 h7 pm ty om sp wr z past (show pm ≤ 6 from by first | assumption | omega | exact ix_nI (by omega) (by omega) | decide)) ⟨⟨ini_X10, co_X10_record, ⟨by decide, by decide, by decide +kernel⟩, by decide⟩, ml_X10_45, im_X10_record, se_X10_record⟩ [0, 1, 2] [] rfl rfl rfl rfl (by decide) rfl rfl rfl rfl (Nat.le_of_ble_eq_true rfl) (by omega) (by omega) dX10_end_14 (fun w_ hw_2 => ?_)
    obtain rfl := hw_2
    refine V_to (ws2 := [(h0, .inr (10, [.ref h1, .ref h2, .ref h3, .ref h4, .int (nI (min (pm + 1) 6)), .ref h5, .ref h6, .int ty, .ref h7, .int om, .int sp, .int wr])), (h1, .inl (gI g, 113, .inl z)), (h2, .inl (gI g, 678, .inl (recP z past pm)))]) ?_ rfl
    refine V_aload_n C 0 dX10_end_17 rfl rfl ?_
    refine V_callVi (q0 := 0) (na := 0) (As := []) (rest := []) (wr := [(h2, .inl (gI g, 678, .inl (recP z past pm)))]) C (c_X10_endIt g h0 h1 h2 h3 h4 h5 h6 h7 (nI (min (pm + 1) 6)) ty om sp wr z ) ⟨⟨ini_X10, co_X10_endIt, ⟨by decide, by decide, by decide +kernel⟩, by decide⟩, ml_X10_98, im_X10_endIt, se_X10_endIt⟩ [0, 1] [2] rfl rfl rfl rfl (by decide) rfl rfl rfl rfl (Nat.le_of_ble_eq_true rfl) (by omega) (by omega) dX10_end_18 (fun r_3 w_ hw_4 => ?_)
    obtain ⟨rfl, rfl⟩ := hw_4
    refine V_to (ws2 := [(h2, .inl (gI g, 678, .inl (recP z past pm))), (h0, .inr (10, [.ref h1, .ref h2, .ref h3, .ref h4, .int (nI (min (pm + 1) 6)), .ref h5, .ref h6, .int ty, .ref h7, .int om, .int sp, .int wr])), (h1, .inl (gI g, 113, .inl (endZ z)))]) ?_ rfl
    refine V_perm (ws2 := [(h0, .inr (10, [.ref h1, .ref h2, .ref h3, .ref h4, .int (nI (min (pm + 1) 6)), .ref h5, .ref h6, .int ty, .ref h7, .int om, .int sp, .int wr])), (h1, .inl (gI g, 113, .inl (endZ z))), (h2, .inl (gI g, 678, .inl (recP z past pm)))]) [1, 2, 0] rfl rfl ?_
    refine hret _ _ _ _ dX10_end_21 ?_
    exact Or.inr ⟨c_7, rfl, rfl⟩
  · refine V_bipush (v := (-5)) C dX10_end_10 (by decide) ?_
    refine hret _ _ _ _ dX10_end_12 ?_
    exact Or.inl ⟨c_7, rfl, rfl⟩
