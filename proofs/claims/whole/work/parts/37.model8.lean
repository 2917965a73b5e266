
set_option maxRecDepth 100000 in
set_option maxHeartbeats 4000000 in
theorem c_X10_whyNot (g : Gd) (h0 : Nat) (h1 : Nat) (h2 : Nat) (h3 : Nat) (h4 : Nat) (h5 : Nat) (h6 : Nat) (h7 : Nat) (pm : Int32) (ty : Int32) (om : Int32) (sp : Int32) (wr : Int32) (z : Nat → Int32) (cc : Int32) (aa : Int32) (bb : Int32) (hl : isL cc) : Ki g yX10_whyNot cX10_whyNot 4 (some .int) 3 0 0 [.ref h0, .int cc, .int aa, .int bb] [(h0, .inr (10, [.ref h1, .ref h2, .ref h3, .ref h4, .int pm, .ref h5, .ref h6, .int ty, .ref h7, .int om, .int sp, .int wr])), (h1, .inl (gI g, 113, .inl z))] (fun (r : Int32) (w : va_W) => (∃ (v9 : Int32), ¬ okO z cc aa bb ∧ v9 < 0 ∧ r = v9 ∧ w = [(h0, .inr (10, [.ref h1, .ref h2, .ref h3, .ref h4, .int pm, .ref h5, .ref h6, .int ty, .ref h7, .int om, .int sp, .int wr])), (h1, .inl (gI g, 113, .inl z))]) ∨ (okO z cc aa bb ∧ r = 0 ∧ w = [(h0, .inr (10, [.ref h1, .ref h2, .ref h3, .ref h4, .int pm, .ref h5, .ref h6, .int ty, .ref h7, .int om, .int sp, .int wr])), (h1, .inl (gI g, 113, .inl z))])) := by
  refine Ki.of (by decide) (Nat.le_of_ble_eq_true rfl) (fun X C hI hret => ?_)
  show V g X 0 0 [(h0, .inr (10, [.ref h1, .ref h2, .ref h3, .ref h4, .int pm, .ref h5, .ref h6, .int ty, .ref h7, .int om, .int sp, .int wr])), (h1, .inl (gI g, 113, .inl z))] 0 [(0, .ref h0), (1, .int cc), (2, .int aa), (3, .int bb)] []
  rcases hl with rfl | rfl | rfl | rfl | rfl | rfl
  · refine V_iload_n C 1 dX10_whyNot_0 rfl rfl ?_
    refine V_lookup (tgt := 44) (off := 43) C dX10_whyNot_1 (by decide) (by decide) (by decide) ?_
    refine V_aload_n C 0 dX10_whyNot_44 rfl rfl ?_
    refine V_get (v := .ref h1) C 0 rfl rfl in_X10 0 (by decide) fl_X10_7 rfl rfl dX10_whyNot_45 ?_
    refine V_bipush (v := 38) C dX10_whyNot_48 (by decide) ?_
    refine V_iald C 1 rfl (show ix 38 38 113 from ix_nI (k := 38) (by omega) (by omega)) dX10_whyNot_50 ?_
    refine V_if_ne (tgt := 58) C dX10_whyNot_51 (by decide) (fun c_51 => ?_) (fun c_51 => ?_)
    · refine V_bipush (v := (-5)) C dX10_whyNot_58 (by decide) ?_
      refine hret _ _ _ _ dX10_whyNot_60 ?_
      exact Or.inl ⟨(-5), fun h9 => absurd (okO_h.mp h9) (c_51), by decide, rfl, rfl⟩
    · refine V_iconst (v := 0) C dX10_whyNot_54 (by decide) ?_
      refine V_goto (tgt := 60) C dX10_whyNot_55 (by decide) ?_
      refine hret _ _ _ _ dX10_whyNot_60 ?_
      exact Or.inr ⟨okO_h.mpr c_51, rfl, rfl⟩
  · refine V_iload_n C 1 dX10_whyNot_0 rfl rfl ?_
    refine V_lookup (tgt := 61) (off := 60) C dX10_whyNot_1 (by decide) (by decide) (by decide) ?_
    refine V_aload_n C 0 dX10_whyNot_61 rfl rfl ?_
    refine V_iload_n C 2 dX10_whyNot_62 rfl rfl ?_
    refine V_iload_n C 3 dX10_whyNot_63 rfl rfl ?_
    refine V_callVi (q0 := 0) (na := 2) (As := [.int aa, .int bb]) (rest := []) (wr := []) C (c_X10_whyNotDrive g h0 h1 h2 h3 h4 h5 h6 h7 pm ty om sp wr z aa bb ) ⟨⟨ini_X10, co_X10_whyNotDrive, ⟨by decide, by decide, by decide +kernel⟩, by decide⟩, ml_X10_76, im_X10_whyNotDrive, se_X10_whyNotDrive⟩ [0, 1] [] rfl rfl rfl rfl (by decide) rfl rfl rfl rfl (Nat.le_of_ble_eq_true rfl) (by omega) (by omega) dX10_whyNot_64 (fun r_1 w_ hw_2 => ?_)
    rcases hw_2 with ⟨hf2_0, rfl, rfl⟩ | ⟨hf2_0, hf2_1, rfl, rfl⟩ | ⟨hf2_0, hf2_1, rfl, rfl⟩
    · refine V_to (ws2 := [(h0, .inr (10, [.ref h1, .ref h2, .ref h3, .ref h4, .int pm, .ref h5, .ref h6, .int ty, .ref h7, .int om, .int sp, .int wr])), (h1, .inl (gI g, 113, .inl z))]) ?_ rfl
      refine hret _ _ _ _ dX10_whyNot_67 ?_
      exact Or.inl ⟨(-2), fun h9 => absurd (okO_d.mp h9) (fun q9 => hf2_0 q9.1), by decide, rfl, rfl⟩
    · refine V_to (ws2 := [(h0, .inr (10, [.ref h1, .ref h2, .ref h3, .ref h4, .int pm, .ref h5, .ref h6, .int ty, .ref h7, .int om, .int sp, .int wr])), (h1, .inl (gI g, 113, .inl z))]) ?_ rfl
      refine hret _ _ _ _ dX10_whyNot_67 ?_
      exact Or.inl ⟨(-5), fun h9 => absurd (okO_d.mp h9) (fun q9 => hf2_1 q9.2), by decide, rfl, rfl⟩
    · refine V_to (ws2 := [(h0, .inr (10, [.ref h1, .ref h2, .ref h3, .ref h4, .int pm, .ref h5, .ref h6, .int ty, .ref h7, .int om, .int sp, .int wr])), (h1, .inl (gI g, 113, .inl z))]) ?_ rfl
      refine hret _ _ _ _ dX10_whyNot_67 ?_
      exact Or.inr ⟨okO_d.mpr ⟨hf2_0, hf2_1⟩, rfl, rfl⟩
  · refine V_iload_n C 1 dX10_whyNot_0 rfl rfl ?_
    refine V_lookup (tgt := 68) (off := 67) C dX10_whyNot_1 (by decide) (by decide) (by decide) ?_
    refine V_aload_n C 0 dX10_whyNot_68 rfl rfl ?_
    refine V_iload_n C 2 dX10_whyNot_69 rfl rfl ?_
    refine V_callVi (q0 := 0) (na := 1) (As := [.int aa]) (rest := []) (wr := []) C (c_X10_whyNotRest g h0 h1 h2 h3 h4 h5 h6 h7 pm ty om sp wr z aa ) ⟨⟨ini_X10, co_X10_whyNotRest, ⟨by decide, by decide, by decide +kernel⟩, by decide⟩, ml_X10_82, im_X10_whyNotRest, se_X10_whyNotRest⟩ [0, 1] [] rfl rfl rfl rfl (by decide) rfl rfl rfl rfl (Nat.le_of_ble_eq_true rfl) (by omega) (by omega) dX10_whyNot_70 (fun r_3 w_ hw_4 => ?_)
    rcases hw_4 with ⟨hf4_0, rfl, rfl⟩ | ⟨hf4_0, hf4_1, rfl, rfl⟩ | ⟨hf4_0, hf4_1, rfl, rfl⟩
    · refine V_to (ws2 := [(h0, .inr (10, [.ref h1, .ref h2, .ref h3, .ref h4, .int pm, .ref h5, .ref h6, .int ty, .ref h7, .int om, .int sp, .int wr])), (h1, .inl (gI g, 113, .inl z))]) ?_ rfl
      refine hret _ _ _ _ dX10_whyNot_73 ?_
      exact Or.inl ⟨(-2), fun h9 => absurd (okO_w.mp h9) (fun q9 => hf4_0 q9.1), by decide, rfl, rfl⟩
    · refine V_to (ws2 := [(h0, .inr (10, [.ref h1, .ref h2, .ref h3, .ref h4, .int pm, .ref h5, .ref h6, .int ty, .ref h7, .int om, .int sp, .int wr])), (h1, .inl (gI g, 113, .inl z))]) ?_ rfl
      refine hret _ _ _ _ dX10_whyNot_73 ?_
      exact Or.inl ⟨(-5), fun h9 => absurd (okO_w.mp h9) (fun q9 => q9.2 hf4_1), by decide, rfl, rfl⟩
    · refine V_to (ws2 := [(h0, .inr (10, [.ref h1, .ref h2, .ref h3, .ref h4, .int pm, .ref h5, .ref h6, .int ty, .ref h7, .int om, .int sp, .int wr])), (h1, .inl (gI g, 113, .inl z))]) ?_ rfl
      refine hret _ _ _ _ dX10_whyNot_73 ?_
      exact Or.inr ⟨okO_w.mpr ⟨hf4_0, hf4_1⟩, rfl, rfl⟩
  · refine V_iload_n C 1 dX10_whyNot_0 rfl rfl ?_
    refine V_lookup (tgt := 79) (off := 78) C dX10_whyNot_1 (by decide) (by decide) (by decide) ?_
    refine V_aload_n C 0 dX10_whyNot_79 rfl rfl ?_
    refine V_get (v := .ref h1) C 0 rfl rfl in_X10 0 (by decide) fl_X10_7 rfl rfl dX10_whyNot_80 ?_
    refine V_bipush (v := 38) C dX10_whyNot_83 (by decide) ?_
    refine V_iald C 1 rfl (show ix 38 38 113 from ix_nI (k := 38) (by omega) (by omega)) dX10_whyNot_85 ?_
    refine V_if_ne (tgt := 94) C dX10_whyNot_86 (by decide) (fun c_86 => ?_) (fun c_86 => ?_)
    · refine V_iconst (v := 0) C dX10_whyNot_94 (by decide) ?_
      refine hret _ _ _ _ dX10_whyNot_95 ?_
      exact Or.inr ⟨okO_s.mpr c_86, rfl, rfl⟩
    · refine V_bipush (v := (-5)) C dX10_whyNot_89 (by decide) ?_
      refine V_goto (tgt := 95) C dX10_whyNot_91 (by decide) ?_
      refine hret _ _ _ _ dX10_whyNot_95 ?_
      exact Or.inl ⟨(-5), fun h9 => absurd (okO_s.mp h9) (fun q9 => q9 c_86), by decide, rfl, rfl⟩
  · refine V_iload_n C 1 dX10_whyNot_0 rfl rfl ?_
    refine V_lookup (tgt := 74) (off := 73) C dX10_whyNot_1 (by decide) (by decide) (by decide) ?_
    refine V_aload_n C 0 dX10_whyNot_74 rfl rfl ?_
    refine V_callVi (q0 := 0) (na := 0) (As := []) (rest := []) (wr := []) C (c_X10_whyNotExtra g h0 h1 h2 h3 h4 h5 h6 h7 pm ty om sp wr z ) ⟨⟨ini_X10, co_X10_whyNotExtra, ⟨by decide, by decide, by decide +kernel⟩, by decide⟩, ml_X10_91, im_X10_whyNotExtra, se_X10_whyNotExtra⟩ [0, 1] [] rfl rfl rfl rfl (by decide) rfl rfl rfl rfl (Nat.le_of_ble_eq_true rfl) (by omega) (by omega) dX10_whyNot_75 (fun r_5 w_ hw_6 => ?_)
    rcases hw_6 with ⟨hf6_0, rfl, rfl⟩ | ⟨hf6_0, hf6_1, rfl, rfl⟩ | ⟨hf6_0, hf6_1, rfl, rfl⟩
    · refine V_to (ws2 := [(h0, .inr (10, [.ref h1, .ref h2, .ref h3, .ref h4, .int pm, .ref h5, .ref h6, .int ty, .ref h7, .int om, .int sp, .int wr])), (h1, .inl (gI g, 113, .inl z))]) ?_ rfl
      refine hret _ _ _ _ dX10_whyNot_78 ?_
      exact Or.inl ⟨(-5), fun h9 => absurd (okO_x.mp h9) (fun q9 => q9.1 hf6_0), by decide, rfl, rfl⟩
    · refine V_to (ws2 := [(h0, .inr (10, [.ref h1, .ref h2, .ref h3, .ref h4, .int pm, .ref h5, .ref h6, .int ty, .ref h7, .int om, .int sp, .int wr])), (h1, .inl (gI g, 113, .inl z))]) ?_ rfl
      refine hret _ _ _ _ dX10_whyNot_78 ?_
      exact Or.inl ⟨(-4), fun h9 => absurd (okO_x.mp h9) (fun q9 => q9.2 hf6_1), by decide, rfl, rfl⟩
    · refine V_to (ws2 := [(h0, .inr (10, [.ref h1, .ref h2, .ref h3, .ref h4, .int pm, .ref h5, .ref h6, .int ty, .ref h7, .int om, .int sp, .int wr])), (h1, .inl (gI g, 113, .inl z))]) ?_ rfl
      refine hret _ _ _ _ dX10_whyNot_78 ?_
      exact Or.inr ⟨okO_x.mpr ⟨hf6_0, hf6_1⟩, rfl, rfl⟩
  · refine V_iload_n C 1 dX10_whyNot_0 rfl rfl ?_
    refine V_lookup (tgt := 79) (off := 78) C dX10_whyNot_1 (by decide) (by decide) (by decide) ?_
    refine V_aload_n C 0 dX10_whyNot_79 rfl rfl ?_
    refine V_get (v := .ref h1) C 0 rfl rfl in_X10 0 (by decide) fl_X10_7 rfl rfl dX10_whyNot_80 ?_
    refine V_bipush (v := 38) C dX10_whyNot_83 (by decide) ?_
    refine V_iald C 1 rfl (show ix 38 38 113 from ix_nI (k := 38) (by omega) (by omega)) dX10_whyNot_85 ?_
    refine V_if_ne (tgt := 94) C dX10_whyNot_86 (by decide) (fun c_86 => ?_) (fun c_86 => ?_)
    · refine V_iconst (v := 0) C dX10_whyNot_94 (by decide) ?_
      refine hret _ _ _ _ dX10_whyNot_95 ?_
      exact Or.inr ⟨okO_e.mpr c_86, rfl, rfl⟩
    · refine V_bipush (v := (-5)) C dX10_whyNot_89 (by decide) ?_
      refine V_goto (tgt := 95) C dX10_whyNot_91 (by decide) ?_
      refine hret _ _ _ _ dX10_whyNot_95 ?_
      exact Or.inl ⟨(-5), fun h9 => absurd (okO_e.mp h9) (fun q9 => q9 c_86), by decide, rfl, rfl⟩
set_option maxRecDepth 100000 in
set_option maxHeartbeats 4000000 in
theorem c_X10_does (g : Gd) (h0 : Nat) (h1 : Nat) (h2 : Nat) (h3 : Nat) (h4 : Nat) (h5 : Nat) (h6 : Nat) (h7 : Nat) (pm : Int32) (ty : Int32) (om : Int32) (sp : Int32) (wr : Int32) (z : Nat → Int32) (od : Nat → Int32) (k : Nat) (o1 : Int32) (o2 : Int32) (o3 : Int32) (B : Nat) (hk : k < 41) (hOE : OE od k (o1, o2, o3)) (hZ : IZ z B) : Ki g yX10_does cX10_does 4 (some .boolean) 4 0 0 [.ref h0, .int (nI k)] [(h0, .inr (10, [.ref h1, .ref h2, .ref h3, .ref h4, .int pm, .ref h5, .ref h6, .int ty, .ref h7, .int om, .int sp, .int wr])), (h1, .inl (gI g, 113, .inl z)), (h7, .inl (gI g, 123, .inl od))] (fun (r : Int32) (w : va_W) => (doZ z (o1, o2, o3) = none ∧ r = 0 ∧ w = [(h0, .inr (10, [.ref h1, .ref h2, .ref h3, .ref h4, .int pm, .ref h5, .ref h6, .int ty, .ref h7, .int om, .int sp, .int wr])), (h1, .inl (gI g, 113, .inl z)), (h7, .inl (gI g, 123, .inl od))]) ∨ (∃ (z2 : Zt), doZ z (o1, o2, o3) = some z2 ∧ r = 1 ∧ w = [(h0, .inr (10, [.ref h1, .ref h2, .ref h3, .ref h4, .int pm, .ref h5, .ref h6, .int ty, .ref h7, .int om, .int sp, .int wr])), (h1, .inl (gI g, 113, .inl z2)), (h7, .inl (gI g, 123, .inl od))])) := by
  refine Kz.of (by decide) (Nat.le_of_ble_eq_true rfl) (fun X C hI hret => ?_)
  show V g X 0 0 [(h0, .inr (10, [.ref h1, .ref h2, .ref h3, .ref h4, .int pm, .ref h5, .ref h6, .int ty, .ref h7, .int om, .int sp, .int wr])), (h1, .inl (gI g, 113, .inl z)), (h7, .inl (gI g, 123, .inl od))] 0 [(0, .ref h0), (1, .int (nI k))] []
  have hcc : od (3 * k) = o1 := hOE.1
  have hl : isL o1 := hOE.2.1
  have hw9 : o1 = 119 → od (3 * k + 1) = o3 := hOE.2.2.1
  have hd9 : o1 = 100 → od (3 * k + 1) = o2 ∧ od (3 * k + 2) = o3 := hOE.2.2.2
  obtain ⟨c, t, hc, hz, ht, hzt, -⟩ := hZ.bv.get
  rcases hl with rfl | rfl | rfl | rfl | rfl | rfl
  · refine V_aload_n C 0 dX10_does_0 rfl rfl ?_
    refine V_get (v := .ref h7) C 0 rfl rfl in_X10 8 (by decide) fl_X10_30 rfl rfl dX10_does_1 ?_
    refine V_iconst (v := 3) C dX10_does_4 (by decide) ?_
    refine V_iload_n C 1 dX10_does_5 rfl rfl ?_
    refine V_imul C dX10_does_6 ?_
    refine V_ev (show (3 * (nI k) : Int32) = nI (3 * k) from pk_mul 3 k) ?_
    refine V_iconst (v := 1) C dX10_does_7 (by decide) ?_
    refine V_iadd C dX10_does_8 ?_
    refine V_ev (show ((nI (3 * k)) + 1 : Int32) = nI ((3 * k) + 1) from nI_add (3 * k) 1) ?_
    refine V_iald C 2 rfl (ix_nI (show (3 * k) + 1 < 123 by omega) (by omega)) dX10_does_9 ?_
    refine V_istore_n (L2 := [(2, .int (od ((3 * k) + 1))), (0, .ref h0), (1, .int (nI k))]) C dX10_does_10 rfl (by decide) rfl ?_
    refine V_aload_n C 1 dX10_does_11 rfl rfl ?_
    refine V_get (v := .ref h7) C 0 rfl rfl in_X10 8 (by decide) fl_X10_30 rfl rfl dX10_does_12 ?_
    refine V_iconst (v := 3) C dX10_does_15 (by decide) ?_
    refine V_iload_n C 2 dX10_does_16 rfl rfl ?_
    refine V_imul C dX10_does_17 ?_
    refine V_ev (show (3 * (nI k) : Int32) = nI (3 * k) from pk_mul 3 k) ?_
    refine V_iconst (v := 2) C dX10_does_18 (by decide) ?_
    refine V_iadd C dX10_does_19 ?_
    refine V_ev (show ((nI (3 * k)) + 2 : Int32) = nI ((3 * k) + 2) from nI_add (3 * k) 2) ?_
    refine V_iald C 2 rfl (ix_nI (show (3 * k) + 2 < 123 by omega) (by omega)) dX10_does_20 ?_
    refine V_istore_n (L2 := [(3, .int (od ((3 * k) + 2))), (2, .int (od ((3 * k) + 1))), (0, .ref h0), (1, .int (nI k))]) C dX10_does_21 rfl (by decide) rfl ?_
    refine V_aload_n C 2 dX10_does_22 rfl rfl ?_
    refine V_aload_n C 2 dX10_does_23 rfl rfl ?_
    refine V_get (v := .ref h7) C 0 rfl rfl in_X10 8 (by decide) fl_X10_30 rfl rfl dX10_does_24 ?_
    refine V_iconst (v := 3) C dX10_does_27 (by decide) ?_
    refine V_iload_n C 3 dX10_does_28 rfl rfl ?_
    refine V_imul C dX10_does_29 ?_
    refine V_ev (show (3 * (nI k) : Int32) = nI (3 * k) from pk_mul 3 k) ?_
    refine V_iald C 2 rfl (ix_nI (show 3 * k < 123 by omega) (by omega)) dX10_does_30 ?_
    refine V_ev (show (od (3 * k) : Int32) = 104 from hcc) ?_
    refine V_iload_n C 1 dX10_does_31 rfl rfl ?_
    refine V_iload_n C 0 dX10_does_32 rfl rfl ?_
    refine V_callVi (q0 := 0) (na := 3) (As := [.int 104, .int (od ((3 * k) + 1)), .int (od ((3 * k) + 2))]) (rest := []) (wr := [(h7, .inl (gI g, 123, .inl od))]) C (c_X10_whyNot g h0 h1 h2 h3 h4 h5 h6 h7 pm ty om sp wr z 104 (od ((3 * k) + 1)) (od ((3 * k) + 2)) (by decide)) ⟨⟨ini_X10, co_X10_whyNot, ⟨by decide, by decide, by decide +kernel⟩, by decide⟩, ml_X10_144, im_X10_whyNot, se_X10_whyNot⟩ [0, 1] [2] rfl rfl rfl rfl (by decide) rfl rfl rfl rfl (Nat.le_of_ble_eq_true rfl) (by omega) (by omega) dX10_does_33 (fun r_1 w_ hw_2 => ?_)
    rcases hw_2 with ⟨v9_3, hf3_0, hf3_1, hrr, rfl⟩ | ⟨hf3_0, rfl, rfl⟩
    · subst r_1
      refine V_to (ws2 := [(h7, .inl (gI g, 123, .inl od)), (h0, .inr (10, [.ref h1, .ref h2, .ref h3, .ref h4, .int pm, .ref h5, .ref h6, .int ty, .ref h7, .int om, .int sp, .int wr])), (h1, .inl (gI g, 113, .inl z))]) ?_ rfl
      refine V_if_ge (tgt := 41) C dX10_does_36 (by decide) (fun h => absurd h (Int32.not_le.mpr hf3_1)) (fun _ => ?_)
      refine V_iconst (v := 0) C dX10_does_39 (by decide) ?_
      refine V_perm (ws2 := [(h0, .inr (10, [.ref h1, .ref h2, .ref h3, .ref h4, .int pm, .ref h5, .ref h6, .int ty, .ref h7, .int om, .int sp, .int wr])), (h1, .inl (gI g, 113, .inl z)), (h7, .inl (gI g, 123, .inl od))]) [1, 2, 0] rfl rfl ?_
      refine hret _ _ _ _ dX10_does_40 (by first | rfl | (split <;> rfl) | decide) ?_
      exact Or.inl ⟨by rw [doZ_h]; exact if_neg (fun h9 => hf3_0 (okO_h.mpr (h9))), rfl, rfl⟩
    · refine V_to (ws2 := [(h7, .inl (gI g, 123, .inl od)), (h0, .inr (10, [.ref h1, .ref h2, .ref h3, .ref h4, .int pm, .ref h5, .ref h6, .int ty, .ref h7, .int om, .int sp, .int wr])), (h1, .inl (gI g, 113, .inl z))]) ?_ rfl
      refine V_if_ge (tgt := 41) C dX10_does_36 (by decide) (fun _ => ?_) (fun h => absurd (by decide) h)
      refine V_aload_n C 2 dX10_does_41 rfl rfl ?_
      refine V_get (v := .ref h7) C 1 rfl rfl in_X10 8 (by decide) fl_X10_30 rfl rfl dX10_does_42 ?_
      refine V_iconst (v := 3) C dX10_does_45 (by decide) ?_
      refine V_iload_n C 3 dX10_does_46 rfl rfl ?_
      refine V_imul C dX10_does_47 ?_
      refine V_ev (show (3 * (nI k) : Int32) = nI (3 * k) from pk_mul 3 k) ?_
      refine V_iald C 0 rfl (ix_nI (show 3 * k < 123 by omega) (by omega)) dX10_does_48 ?_
      refine V_ev (show (od (3 * k) : Int32) = 104 from hcc) ?_
      refine V_lookup (tgt := 100) (off := 51) C dX10_does_49 (by decide) (by decide) (by decide) ?_
      refine V_aload_n C 2 dX10_does_100 rfl rfl ?_
      refine V_callVi (q0 := 1) (na := 0) (As := []) (rest := []) (wr := [(h7, .inl (gI g, 123, .inl od))]) C (c_X10_hireIt g h0 h1 h2 h3 h4 h5 h6 h7 pm ty om sp wr z c t (show c < 86400 from by first | assumption | omega | exact ix_nI (by omega) (by omega) | decide) (show z 37 = nI c from by first | assumption | omega | exact ix_nI (by omega) (by omega) | decide) (show t < 3 from by first | assumption | omega | exact ix_nI (by omega) (by omega) | decide) (show z (12 + c / 3600) = nI t from by first | assumption | omega | exact ix_nI (by omega) (by omega) | decide)) ⟨⟨ini_X10, co_X10_hireIt, ⟨by decide, by decide, by decide +kernel⟩, by decide⟩, ml_X10_59, im_X10_hireIt, se_X10_hireIt⟩ [1, 2] [0] rfl rfl rfl rfl (by decide) rfl rfl rfl rfl (Nat.le_of_ble_eq_true rfl) (by omega) (by omega) dX10_does_101 (fun r_4 w_ hw_5 => ?_)
      obtain ⟨rfl, rfl⟩ := hw_5
      refine V_to (ws2 := [(h7, .inl (gI g, 123, .inl od)), (h0, .inr (10, [.ref h1, .ref h2, .ref h3, .ref h4, .int pm, .ref h5, .ref h6, .int ty, .ref h7, .int om, .int sp, .int wr])), (h1, .inl (gI g, 113, .inl (hireZ z t)))]) ?_ rfl
      refine V_pop C dX10_does_104 rfl ?_
      refine V_goto (tgt := 148) C dX10_does_105 (by decide) ?_
      refine V_iconst (v := 1) C dX10_does_148 (by decide) ?_
      refine V_perm (ws2 := [(h0, .inr (10, [.ref h1, .ref h2, .ref h3, .ref h4, .int pm, .ref h5, .ref h6, .int ty, .ref h7, .int om, .int sp, .int wr])), (h1, .inl (gI g, 113, .inl (hireZ z t))), (h7, .inl (gI g, 123, .inl od))]) [1, 2, 0] rfl rfl ?_
      refine hret _ _ _ _ dX10_does_149 (by first | rfl | (split <;> rfl) | decide) ?_
      exact Or.inr ⟨_, by rw [doZ_h, if_pos (okO_h.mp hf3_0), tarN_of hz hc hzt ht], rfl, rfl⟩
  · refine V_aload_n C 0 dX10_does_0 rfl rfl ?_
    refine V_get (v := .ref h7) C 0 rfl rfl in_X10 8 (by decide) fl_X10_30 rfl rfl dX10_does_1 ?_
    refine V_iconst (v := 3) C dX10_does_4 (by decide) ?_
    refine V_iload_n C 1 dX10_does_5 rfl rfl ?_
    refine V_imul C dX10_does_6 ?_
    refine V_ev (show (3 * (nI k) : Int32) = nI (3 * k) from pk_mul 3 k) ?_
    refine V_iconst (v := 1) C dX10_does_7 (by decide) ?_
    refine V_iadd C dX10_does_8 ?_
    refine V_ev (show ((nI (3 * k)) + 1 : Int32) = nI ((3 * k) + 1) from nI_add (3 * k) 1) ?_
    refine V_iald C 2 rfl (ix_nI (show (3 * k) + 1 < 123 by omega) (by omega)) dX10_does_9 ?_
    refine V_istore_n (L2 := [(2, .int (od ((3 * k) + 1))), (0, .ref h0), (1, .int (nI k))]) C dX10_does_10 rfl (by decide) rfl ?_
    refine V_aload_n C 1 dX10_does_11 rfl rfl ?_
    refine V_get (v := .ref h7) C 0 rfl rfl in_X10 8 (by decide) fl_X10_30 rfl rfl dX10_does_12 ?_
    refine V_iconst (v := 3) C dX10_does_15 (by decide) ?_
    refine V_iload_n C 2 dX10_does_16 rfl rfl ?_
    refine V_imul C dX10_does_17 ?_
    refine V_ev (show (3 * (nI k) : Int32) = nI (3 * k) from pk_mul 3 k) ?_
    refine V_iconst (v := 2) C dX10_does_18 (by decide) ?_
    refine V_iadd C dX10_does_19 ?_
    refine V_ev (show ((nI (3 * k)) + 2 : Int32) = nI ((3 * k) + 2) from nI_add (3 * k) 2) ?_
    refine V_iald C 2 rfl (ix_nI (show (3 * k) + 2 < 123 by omega) (by omega)) dX10_does_20 ?_
    refine V_istore_n (L2 := [(3, .int (od ((3 * k) + 2))), (2, .int (od ((3 * k) + 1))), (0, .ref h0), (1, .int (nI k))]) C dX10_does_21 rfl (by decide) rfl ?_
    refine V_aload_n C 2 dX10_does_22 rfl rfl ?_
    refine V_aload_n C 2 dX10_does_23 rfl rfl ?_
    refine V_get (v := .ref h7) C 0 rfl rfl in_X10 8 (by decide) fl_X10_30 rfl rfl dX10_does_24 ?_
    refine V_iconst (v := 3) C dX10_does_27 (by decide) ?_
    refine V_iload_n C 3 dX10_does_28 rfl rfl ?_
    refine V_imul C dX10_does_29 ?_
    refine V_ev (show (3 * (nI k) : Int32) = nI (3 * k) from pk_mul 3 k) ?_
    refine V_iald C 2 rfl (ix_nI (show 3 * k < 123 by omega) (by omega)) dX10_does_30 ?_
    refine V_ev (show (od (3 * k) : Int32) = 100 from hcc) ?_
    refine V_iload_n C 1 dX10_does_31 rfl rfl ?_
    refine V_iload_n C 0 dX10_does_32 rfl rfl ?_
    refine V_callVi (q0 := 0) (na := 3) (As := [.int 100, .int (od ((3 * k) + 1)), .int (od ((3 * k) + 2))]) (rest := []) (wr := [(h7, .inl (gI g, 123, .inl od))]) C (c_X10_whyNot g h0 h1 h2 h3 h4 h5 h6 h7 pm ty om sp wr z 100 (od ((3 * k) + 1)) (od ((3 * k) + 2)) (by decide)) ⟨⟨ini_X10, co_X10_whyNot, ⟨by decide, by decide, by decide +kernel⟩, by decide⟩, ml_X10_144, im_X10_whyNot, se_X10_whyNot⟩ [0, 1] [2] rfl rfl rfl rfl (by decide) rfl rfl rfl rfl (Nat.le_of_ble_eq_true rfl) (by omega) (by omega) dX10_does_33 (fun r_6 w_ hw_7 => ?_)
    rcases hw_7 with ⟨v9_8, hf8_0, hf8_1, hrr, rfl⟩ | ⟨hf8_0, rfl, rfl⟩
    · subst r_6
      refine V_to (ws2 := [(h7, .inl (gI g, 123, .inl od)), (h0, .inr (10, [.ref h1, .ref h2, .ref h3, .ref h4, .int pm, .ref h5, .ref h6, .int ty, .ref h7, .int om, .int sp, .int wr])), (h1, .inl (gI g, 113, .inl z))]) ?_ rfl
      refine V_if_ge (tgt := 41) C dX10_does_36 (by decide) (fun h => absurd h (Int32.not_le.mpr hf8_1)) (fun _ => ?_)
      refine V_iconst (v := 0) C dX10_does_39 (by decide) ?_
      refine V_perm (ws2 := [(h0, .inr (10, [.ref h1, .ref h2, .ref h3, .ref h4, .int pm, .ref h5, .ref h6, .int ty, .ref h7, .int om, .int sp, .int wr])), (h1, .inl (gI g, 113, .inl z)), (h7, .inl (gI g, 123, .inl od))]) [1, 2, 0] rfl rfl ?_
      refine hret _ _ _ _ dX10_does_40 (by first | rfl | (split <;> rfl) | decide) ?_
      have e2 := (hd9 rfl).1
      have e3 := (hd9 rfl).2
      exact Or.inl ⟨by rw [doZ_d]; exact if_neg (fun h9 => hf8_0 (okO_d.mpr (by rw [e2, e3]; exact h9))), rfl, rfl⟩
    · refine V_to (ws2 := [(h7, .inl (gI g, 123, .inl od)), (h0, .inr (10, [.ref h1, .ref h2, .ref h3, .ref h4, .int pm, .ref h5, .ref h6, .int ty, .ref h7, .int om, .int sp, .int wr])), (h1, .inl (gI g, 113, .inl z))]) ?_ rfl
      refine V_if_ge (tgt := 41) C dX10_does_36 (by decide) (fun _ => ?_) (fun h => absurd (by decide) h)
      refine V_aload_n C 2 dX10_does_41 rfl rfl ?_
      refine V_get (v := .ref h7) C 1 rfl rfl in_X10 8 (by decide) fl_X10_30 rfl rfl dX10_does_42 ?_
      refine V_iconst (v := 3) C dX10_does_45 (by decide) ?_
      refine V_iload_n C 3 dX10_does_46 rfl rfl ?_
      refine V_imul C dX10_does_47 ?_
      refine V_ev (show (3 * (nI k) : Int32) = nI (3 * k) from pk_mul 3 k) ?_
      refine V_iald C 0 rfl (ix_nI (show 3 * k < 123 by omega) (by omega)) dX10_does_48 ?_
      refine V_ev (show (od (3 * k) : Int32) = 100 from hcc) ?_
      refine V_lookup (tgt := 108) (off := 59) C dX10_does_49 (by decide) (by decide) (by decide) ?_
      obtain ⟨P, -, hP, hA⟩ := rg_nI 0 9999 rfl rfl (by omega) (by omega) (okO_d.mp hf8_0).1.1 (okO_d.mp hf8_0).1.2.1
      obtain ⟨S, hS1, hS2, hB⟩ := rg_nI 1 9999 rfl rfl (by omega) (by omega) (okO_d.mp hf8_0).1.2.2.1 (okO_d.mp hf8_0).1.2.2.2
      refine V_aload_n C 2 dX10_does_108 rfl rfl ?_
      refine V_iload_n C 1 dX10_does_109 rfl rfl ?_
      refine V_ev (show (od ((3 * k) + 1) : Int32) = nI P from hA) ?_
      refine V_iload_n C 0 dX10_does_110 rfl rfl ?_
      refine V_ev (show (od ((3 * k) + 2) : Int32) = nI S from hB) ?_
      refine V_callVi (q0 := 1) (na := 2) (As := [.int (nI P), .int (nI S)]) (rest := []) (wr := [(h7, .inl (gI g, 123, .inl od))]) C (c_X10_driveIt g h0 h1 h2 h3 h4 h5 h6 h7 pm ty om sp wr z P S (show P ≤ 9999 from by first | assumption | omega | exact ix_nI (by omega) (by omega) | decide) (show 1 ≤ S from by first | assumption | omega | exact ix_nI (by omega) (by omega) | decide) (show S ≤ 9999 from by first | assumption | omega | exact ix_nI (by omega) (by omega) | decide) (hZ.dv1 (okO_d.mp hf8_0).2)) ⟨⟨ini_X10, co_X10_driveIt, ⟨by decide, by decide, by decide +kernel⟩, by decide⟩, ml_X10_79, im_X10_driveIt, se_X10_driveIt⟩ [1, 2] [0] rfl rfl rfl rfl (by decide) rfl rfl rfl rfl (Nat.le_of_ble_eq_true rfl) (by omega) (by omega) dX10_does_111 (fun r_9 w_ hw_10 => ?_)
      obtain ⟨rfl, rfl⟩ := hw_10
      refine V_to (ws2 := [(h7, .inl (gI g, 123, .inl od)), (h0, .inr (10, [.ref h1, .ref h2, .ref h3, .ref h4, .int pm, .ref h5, .ref h6, .int ty, .ref h7, .int om, .int sp, .int wr])), (h1, .inl (gI g, 113, .inl (drvF z P S)))]) ?_ rfl
      refine V_pop C dX10_does_114 rfl ?_
      refine V_goto (tgt := 148) C dX10_does_115 (by decide) ?_
      refine V_iconst (v := 1) C dX10_does_148 (by decide) ?_
      refine V_perm (ws2 := [(h0, .inr (10, [.ref h1, .ref h2, .ref h3, .ref h4, .int pm, .ref h5, .ref h6, .int ty, .ref h7, .int om, .int sp, .int wr])), (h1, .inl (gI g, 113, .inl (drvF z P S))), (h7, .inl (gI g, 123, .inl od))]) [1, 2, 0] rfl rfl ?_
      refine hret _ _ _ _ dX10_does_149 (by first | rfl | (split <;> rfl) | decide) ?_
      have e2 := (hd9 rfl).1
      have e3 := (hd9 rfl).2
      have hF := okO_d.mp hf8_0
      rw [e2, e3] at hF
      exact Or.inr ⟨_, by rw [doZ_d]; exact (if_pos hF).trans (by rw [e2.symm.trans hA, e3.symm.trans hB, nI_clamp (by omega), nI_clamp (by omega)]), rfl, rfl⟩
  · refine V_aload_n C 0 dX10_does_0 rfl rfl ?_
    refine V_get (v := .ref h7) C 0 rfl rfl in_X10 8 (by decide) fl_X10_30 rfl rfl dX10_does_1 ?_
    refine V_iconst (v := 3) C dX10_does_4 (by decide) ?_
    refine V_iload_n C 1 dX10_does_5 rfl rfl ?_
    refine V_imul C dX10_does_6 ?_
    refine V_ev (show (3 * (nI k) : Int32) = nI (3 * k) from pk_mul 3 k) ?_
    refine V_iconst (v := 1) C dX10_does_7 (by decide) ?_
    refine V_iadd C dX10_does_8 ?_
    refine V_ev (show ((nI (3 * k)) + 1 : Int32) = nI ((3 * k) + 1) from nI_add (3 * k) 1) ?_
    refine V_iald C 2 rfl (ix_nI (show (3 * k) + 1 < 123 by omega) (by omega)) dX10_does_9 ?_
    refine V_istore_n (L2 := [(2, .int (od ((3 * k) + 1))), (0, .ref h0), (1, .int (nI k))]) C dX10_does_10 rfl (by decide) rfl ?_
    refine V_aload_n C 1 dX10_does_11 rfl rfl ?_
    refine V_get (v := .ref h7) C 0 rfl rfl in_X10 8 (by decide) fl_X10_30 rfl rfl dX10_does_12 ?_
    refine V_iconst (v := 3) C dX10_does_15 (by decide) ?_
    refine V_iload_n C 2 dX10_does_16 rfl rfl ?_
    refine V_imul C dX10_does_17 ?_
    refine V_ev (show (3 * (nI k) : Int32) = nI (3 * k) from pk_mul 3 k) ?_
    refine V_iconst (v := 2) C dX10_does_18 (by decide) ?_
    refine V_iadd C dX10_does_19 ?_
    refine V_ev (show ((nI (3 * k)) + 2 : Int32) = nI ((3 * k) + 2) from nI_add (3 * k) 2) ?_
    refine V_iald C 2 rfl (ix_nI (show (3 * k) + 2 < 123 by omega) (by omega)) dX10_does_20 ?_
    refine V_istore_n (L2 := [(3, .int (od ((3 * k) + 2))), (2, .int (od ((3 * k) + 1))), (0, .ref h0), (1, .int (nI k))]) C dX10_does_21 rfl (by decide) rfl ?_
    refine V_aload_n C 2 dX10_does_22 rfl rfl ?_
    refine V_aload_n C 2 dX10_does_23 rfl rfl ?_
    refine V_get (v := .ref h7) C 0 rfl rfl in_X10 8 (by decide) fl_X10_30 rfl rfl dX10_does_24 ?_
    refine V_iconst (v := 3) C dX10_does_27 (by decide) ?_
    refine V_iload_n C 3 dX10_does_28 rfl rfl ?_
    refine V_imul C dX10_does_29 ?_
    refine V_ev (show (3 * (nI k) : Int32) = nI (3 * k) from pk_mul 3 k) ?_
    refine V_iald C 2 rfl (ix_nI (show 3 * k < 123 by omega) (by omega)) dX10_does_30 ?_
    refine V_ev (show (od (3 * k) : Int32) = 119 from hcc) ?_
    refine V_iload_n C 1 dX10_does_31 rfl rfl ?_
    refine V_iload_n C 0 dX10_does_32 rfl rfl ?_
    refine V_callVi (q0 := 0) (na := 3) (As := [.int 119, .int (od ((3 * k) + 1)), .int (od ((3 * k) + 2))]) (rest := []) (wr := [(h7, .inl (gI g, 123, .inl od))]) C (c_X10_whyNot g h0 h1 h2 h3 h4 h5 h6 h7 pm ty om sp wr z 119 (od ((3 * k) + 1)) (od ((3 * k) + 2)) (by decide)) ⟨⟨ini_X10, co_X10_whyNot, ⟨by decide, by decide, by decide +kernel⟩, by decide⟩, ml_X10_144, im_X10_whyNot, se_X10_whyNot⟩ [0, 1] [2] rfl rfl rfl rfl (by decide) rfl rfl rfl rfl (Nat.le_of_ble_eq_true rfl) (by omega) (by omega) dX10_does_33 (fun r_11 w_ hw_12 => ?_)
    rcases hw_12 with ⟨v9_13, hf13_0, hf13_1, hrr, rfl⟩ | ⟨hf13_0, rfl, rfl⟩
    · subst r_11
      refine V_to (ws2 := [(h7, .inl (gI g, 123, .inl od)), (h0, .inr (10, [.ref h1, .ref h2, .ref h3, .ref h4, .int pm, .ref h5, .ref h6, .int ty, .ref h7, .int om, .int sp, .int wr])), (h1, .inl (gI g, 113, .inl z))]) ?_ rfl
      refine V_if_ge (tgt := 41) C dX10_does_36 (by decide) (fun h => absurd h (Int32.not_le.mpr hf13_1)) (fun _ => ?_)
      refine V_iconst (v := 0) C dX10_does_39 (by decide) ?_
      refine V_perm (ws2 := [(h0, .inr (10, [.ref h1, .ref h2, .ref h3, .ref h4, .int pm, .ref h5, .ref h6, .int ty, .ref h7, .int om, .int sp, .int wr])), (h1, .inl (gI g, 113, .inl z)), (h7, .inl (gI g, 123, .inl od))]) [1, 2, 0] rfl rfl ?_
      refine hret _ _ _ _ dX10_does_40 (by first | rfl | (split <;> rfl) | decide) ?_
      have e2 := hw9 rfl
      exact Or.inl ⟨by rw [doZ_w]; exact if_neg (fun h9 => hf13_0 (okO_w.mpr (by rw [e2]; exact h9))), rfl, rfl⟩
    · refine V_to (ws2 := [(h7, .inl (gI g, 123, .inl od)), (h0, .inr (10, [.ref h1, .ref h2, .ref h3, .ref h4, .int pm, .ref h5, .ref h6, .int ty, .ref h7, .int om, .int sp, .int wr])), (h1, .inl (gI g, 113, .inl z))]) ?_ rfl
      refine V_if_ge (tgt := 41) C dX10_does_36 (by decide) (fun _ => ?_) (fun h => absurd (by decide) h)
      refine V_aload_n C 2 dX10_does_41 rfl rfl ?_
      refine V_get (v := .ref h7) C 1 rfl rfl in_X10 8 (by decide) fl_X10_30 rfl rfl dX10_does_42 ?_
      refine V_iconst (v := 3) C dX10_does_45 (by decide) ?_
      refine V_iload_n C 3 dX10_does_46 rfl rfl ?_
      refine V_imul C dX10_does_47 ?_
      refine V_ev (show (3 * (nI k) : Int32) = nI (3 * k) from pk_mul 3 k) ?_
      refine V_iald C 0 rfl (ix_nI (show 3 * k < 123 by omega) (by omega)) dX10_does_48 ?_
      refine V_ev (show (od (3 * k) : Int32) = 119 from hcc) ?_
      refine V_lookup (tgt := 118) (off := 69) C dX10_does_49 (by decide) (by decide) (by decide) ?_
      obtain ⟨S, hS1, hS2, hA⟩ := rg_nI 1 9999 rfl rfl (by omega) (by omega) (okO_w.mp hf13_0).1.1 (okO_w.mp hf13_0).1.2
      refine V_aload_n C 2 dX10_does_118 rfl rfl ?_
      refine V_iload_n C 1 dX10_does_119 rfl rfl ?_
      refine V_ev (show (od ((3 * k) + 1) : Int32) = nI S from hA) ?_
      refine V_callVi (q0 := 1) (na := 1) (As := [.int (nI S)]) (rest := []) (wr := [(h7, .inl (gI g, 123, .inl od))]) C (c_X10_restIt g h0 h1 h2 h3 h4 h5 h6 h7 pm ty om sp wr z c S (show c < 86400 from by first | assumption | omega | exact ix_nI (by omega) (by omega) | decide) (show z 37 = nI c from by first | assumption | omega | exact ix_nI (by omega) (by omega) | decide) (show 1 ≤ S from by first | assumption | omega | exact ix_nI (by omega) (by omega) | decide) (show S ≤ 9999 from by first | assumption | omega | exact ix_nI (by omega) (by omega) | decide)) ⟨⟨ini_X10, co_X10_restIt, ⟨by decide, by decide, by decide +kernel⟩, by decide⟩, ml_X10_85, im_X10_restIt, se_X10_restIt⟩ [1, 2] [0] rfl rfl rfl rfl (by decide) rfl rfl rfl rfl (Nat.le_of_ble_eq_true rfl) (by omega) (by omega) dX10_does_120 (fun r_14 w_ hw_15 => ?_)
      obtain ⟨rfl, rfl⟩ := hw_15
      refine V_to (ws2 := [(h7, .inl (gI g, 123, .inl od)), (h0, .inr (10, [.ref h1, .ref h2, .ref h3, .ref h4, .int pm, .ref h5, .ref h6, .int ty, .ref h7, .int om, .int sp, .int wr])), (h1, .inl (gI g, 113, .inl (restZ z c S)))]) ?_ rfl
      refine V_pop C dX10_does_123 rfl ?_
      refine V_goto (tgt := 148) C dX10_does_124 (by decide) ?_
      refine V_iconst (v := 1) C dX10_does_148 (by decide) ?_
      refine V_perm (ws2 := [(h0, .inr (10, [.ref h1, .ref h2, .ref h3, .ref h4, .int pm, .ref h5, .ref h6, .int ty, .ref h7, .int om, .int sp, .int wr])), (h1, .inl (gI g, 113, .inl (restZ z c S))), (h7, .inl (gI g, 123, .inl od))]) [1, 2, 0] rfl rfl ?_
      refine hret _ _ _ _ dX10_does_149 (by first | rfl | (split <;> rfl) | decide) ?_
      have e2 := hw9 rfl
      have hF := okO_w.mp hf13_0
      rw [e2] at hF
      exact Or.inr ⟨_, by rw [doZ_w]; exact (if_pos hF).trans (by rw [e2.symm.trans hA, nI_clamp (by omega), clk_of hz hc]), rfl, rfl⟩
  · refine V_aload_n C 0 dX10_does_0 rfl rfl ?_
    refine V_get (v := .ref h7) C 0 rfl rfl in_X10 8 (by decide) fl_X10_30 rfl rfl dX10_does_1 ?_
    refine V_iconst (v := 3) C dX10_does_4 (by decide) ?_
    refine V_iload_n C 1 dX10_does_5 rfl rfl ?_
    refine V_imul C dX10_does_6 ?_
    refine V_ev (show (3 * (nI k) : Int32) = nI (3 * k) from pk_mul 3 k) ?_
    refine V_iconst (v := 1) C dX10_does_7 (by decide) ?_
    refine V_iadd C dX10_does_8 ?_
    refine V_ev (show ((nI (3 * k)) + 1 : Int32) = nI ((3 * k) + 1) from nI_add (3 * k) 1) ?_
    refine V_iald C 2 rfl (ix_nI (show (3 * k) + 1 < 123 by omega) (by omega)) dX10_does_9 ?_
    refine V_istore_n (L2 := [(2, .int (od ((3 * k) + 1))), (0, .ref h0), (1, .int (nI k))]) C dX10_does_10 rfl (by decide) rfl ?_
    refine V_aload_n C 1 dX10_does_11 rfl rfl ?_
    refine V_get (v := .ref h7) C 0 rfl rfl in_X10 8 (by decide) fl_X10_30 rfl rfl dX10_does_12 ?_
    refine V_iconst (v := 3) C dX10_does_15 (by decide) ?_
    refine V_iload_n C 2 dX10_does_16 rfl rfl ?_
    refine V_imul C dX10_does_17 ?_
    refine V_ev (show (3 * (nI k) : Int32) = nI (3 * k) from pk_mul 3 k) ?_
    refine V_iconst (v := 2) C dX10_does_18 (by decide) ?_
    refine V_iadd C dX10_does_19 ?_
    refine V_ev (show ((nI (3 * k)) + 2 : Int32) = nI ((3 * k) + 2) from nI_add (3 * k) 2) ?_
    refine V_iald C 2 rfl (ix_nI (show (3 * k) + 2 < 123 by omega) (by omega)) dX10_does_20 ?_
    refine V_istore_n (L2 := [(3, .int (od ((3 * k) + 2))), (2, .int (od ((3 * k) + 1))), (0, .ref h0), (1, .int (nI k))]) C dX10_does_21 rfl (by decide) rfl ?_
    refine V_aload_n C 2 dX10_does_22 rfl rfl ?_
    refine V_aload_n C 2 dX10_does_23 rfl rfl ?_
    refine V_get (v := .ref h7) C 0 rfl rfl in_X10 8 (by decide) fl_X10_30 rfl rfl dX10_does_24 ?_
    refine V_iconst (v := 3) C dX10_does_27 (by decide) ?_
    refine V_iload_n C 3 dX10_does_28 rfl rfl ?_
    refine V_imul C dX10_does_29 ?_
    refine V_ev (show (3 * (nI k) : Int32) = nI (3 * k) from pk_mul 3 k) ?_
    refine V_iald C 2 rfl (ix_nI (show 3 * k < 123 by omega) (by omega)) dX10_does_30 ?_
    refine V_ev (show (od (3 * k) : Int32) = 115 from hcc) ?_
    refine V_iload_n C 1 dX10_does_31 rfl rfl ?_
    refine V_iload_n C 0 dX10_does_32 rfl rfl ?_
    refine V_callVi (q0 := 0) (na := 3) (As := [.int 115, .int (od ((3 * k) + 1)), .int (od ((3 * k) + 2))]) (rest := []) (wr := [(h7, .inl (gI g, 123, .inl od))]) C (c_X10_whyNot g h0 h1 h2 h3 h4 h5 h6 h7 pm ty om sp wr z 115 (od ((3 * k) + 1)) (od ((3 * k) + 2)) (by decide)) ⟨⟨ini_X10, co_X10_whyNot, ⟨by decide, by decide, by decide +kernel⟩, by decide⟩, ml_X10_144, im_X10_whyNot, se_X10_whyNot⟩ [0, 1] [2] rfl rfl rfl rfl (by decide) rfl rfl rfl rfl (Nat.le_of_ble_eq_true rfl) (by omega) (by omega) dX10_does_33 (fun r_16 w_ hw_17 => ?_)
    rcases hw_17 with ⟨v9_18, hf18_0, hf18_1, hrr, rfl⟩ | ⟨hf18_0, rfl, rfl⟩
    · subst r_16
      refine V_to (ws2 := [(h7, .inl (gI g, 123, .inl od)), (h0, .inr (10, [.ref h1, .ref h2, .ref h3, .ref h4, .int pm, .ref h5, .ref h6, .int ty, .ref h7, .int om, .int sp, .int wr])), (h1, .inl (gI g, 113, .inl z))]) ?_ rfl
      refine V_if_ge (tgt := 41) C dX10_does_36 (by decide) (fun h => absurd h (Int32.not_le.mpr hf18_1)) (fun _ => ?_)
      refine V_iconst (v := 0) C dX10_does_39 (by decide) ?_
      refine V_perm (ws2 := [(h0, .inr (10, [.ref h1, .ref h2, .ref h3, .ref h4, .int pm, .ref h5, .ref h6, .int ty, .ref h7, .int om, .int sp, .int wr])), (h1, .inl (gI g, 113, .inl z)), (h7, .inl (gI g, 123, .inl od))]) [1, 2, 0] rfl rfl ?_
      refine hret _ _ _ _ dX10_does_40 (by first | rfl | (split <;> rfl) | decide) ?_
      exact Or.inl ⟨by rw [doZ_s]; exact if_neg (fun h9 => hf18_0 (okO_s.mpr (h9))), rfl, rfl⟩
    · refine V_to (ws2 := [(h7, .inl (gI g, 123, .inl od)), (h0, .inr (10, [.ref h1, .ref h2, .ref h3, .ref h4, .int pm, .ref h5, .ref h6, .int ty, .ref h7, .int om, .int sp, .int wr])), (h1, .inl (gI g, 113, .inl z))]) ?_ rfl
      refine V_if_ge (tgt := 41) C dX10_does_36 (by decide) (fun _ => ?_) (fun h => absurd (by decide) h)
      refine V_aload_n C 2 dX10_does_41 rfl rfl ?_
      refine V_get (v := .ref h7) C 1 rfl rfl in_X10 8 (by decide) fl_X10_30 rfl rfl dX10_does_42 ?_
      refine V_iconst (v := 3) C dX10_does_45 (by decide) ?_
      refine V_iload_n C 3 dX10_does_46 rfl rfl ?_
      refine V_imul C dX10_does_47 ?_
      refine V_ev (show (3 * (nI k) : Int32) = nI (3 * k) from pk_mul 3 k) ?_
      refine V_iald C 0 rfl (ix_nI (show 3 * k < 123 by omega) (by omega)) dX10_does_48 ?_
      refine V_ev (show (od (3 * k) : Int32) = 115 from hcc) ?_
      refine V_lookup (tgt := 135) (off := 86) C dX10_does_49 (by decide) (by decide) (by decide) ?_
      refine V_aload_n C 2 dX10_does_135 rfl rfl ?_
      refine V_callVi (q0 := 1) (na := 0) (As := []) (rest := []) (wr := [(h7, .inl (gI g, 123, .inl od))]) C (c_X10_haltIt g h0 h1 h2 h3 h4 h5 h6 h7 pm ty om sp wr z ) ⟨⟨ini_X10, co_X10_haltIt, ⟨by decide, by decide, by decide +kernel⟩, by decide⟩, ml_X10_88, im_X10_haltIt, se_X10_haltIt⟩ [1, 2] [0] rfl rfl rfl rfl (by decide) rfl rfl rfl rfl (Nat.le_of_ble_eq_true rfl) (by omega) (by omega) dX10_does_136 (fun r_19 w_ hw_20 => ?_)
      obtain ⟨rfl, rfl⟩ := hw_20
      refine V_to (ws2 := [(h7, .inl (gI g, 123, .inl od)), (h0, .inr (10, [.ref h1, .ref h2, .ref h3, .ref h4, .int pm, .ref h5, .ref h6, .int ty, .ref h7, .int om, .int sp, .int wr])), (h1, .inl (gI g, 113, .inl (haltZ z)))]) ?_ rfl
      refine V_pop C dX10_does_139 rfl ?_
      refine V_goto (tgt := 148) C dX10_does_140 (by decide) ?_
      refine V_iconst (v := 1) C dX10_does_148 (by decide) ?_
      refine V_perm (ws2 := [(h0, .inr (10, [.ref h1, .ref h2, .ref h3, .ref h4, .int pm, .ref h5, .ref h6, .int ty, .ref h7, .int om, .int sp, .int wr])), (h1, .inl (gI g, 113, .inl (haltZ z))), (h7, .inl (gI g, 123, .inl od))]) [1, 2, 0] rfl rfl ?_
      refine hret _ _ _ _ dX10_does_149 (by first | rfl | (split <;> rfl) | decide) ?_
      exact Or.inr ⟨_, by rw [doZ_s]; exact if_pos (okO_s.mp hf18_0), rfl, rfl⟩
  · refine V_aload_n C 0 dX10_does_0 rfl rfl ?_
    refine V_get (v := .ref h7) C 0 rfl rfl in_X10 8 (by decide) fl_X10_30 rfl rfl dX10_does_1 ?_
    refine V_iconst (v := 3) C dX10_does_4 (by decide) ?_
    refine V_iload_n C 1 dX10_does_5 rfl rfl ?_
    refine V_imul C dX10_does_6 ?_
    refine V_ev (show (3 * (nI k) : Int32) = nI (3 * k) from pk_mul 3 k) ?_
    refine V_iconst (v := 1) C dX10_does_7 (by decide) ?_
    refine V_iadd C dX10_does_8 ?_
    refine V_ev (show ((nI (3 * k)) + 1 : Int32) = nI ((3 * k) + 1) from nI_add (3 * k) 1) ?_
    refine V_iald C 2 rfl (ix_nI (show (3 * k) + 1 < 123 by omega) (by omega)) dX10_does_9 ?_
    refine V_istore_n (L2 := [(2, .int (od ((3 * k) + 1))), (0, .ref h0), (1, .int (nI k))]) C dX10_does_10 rfl (by decide) rfl ?_
    refine V_aload_n C 1 dX10_does_11 rfl rfl ?_
    refine V_get (v := .ref h7) C 0 rfl rfl in_X10 8 (by decide) fl_X10_30 rfl rfl dX10_does_12 ?_
    refine V_iconst (v := 3) C dX10_does_15 (by decide) ?_
    refine V_iload_n C 2 dX10_does_16 rfl rfl ?_
    refine V_imul C dX10_does_17 ?_
    refine V_ev (show (3 * (nI k) : Int32) = nI (3 * k) from pk_mul 3 k) ?_
    refine V_iconst (v := 2) C dX10_does_18 (by decide) ?_
    refine V_iadd C dX10_does_19 ?_
    refine V_ev (show ((nI (3 * k)) + 2 : Int32) = nI ((3 * k) + 2) from nI_add (3 * k) 2) ?_
    refine V_iald C 2 rfl (ix_nI (show (3 * k) + 2 < 123 by omega) (by omega)) dX10_does_20 ?_
    refine V_istore_n (L2 := [(3, .int (od ((3 * k) + 2))), (2, .int (od ((3 * k) + 1))), (0, .ref h0), (1, .int (nI k))]) C dX10_does_21 rfl (by decide) rfl ?_
    refine V_aload_n C 2 dX10_does_22 rfl rfl ?_
    refine V_aload_n C 2 dX10_does_23 rfl rfl ?_
    refine V_get (v := .ref h7) C 0 rfl rfl in_X10 8 (by decide) fl_X10_30 rfl rfl dX10_does_24 ?_
    refine V_iconst (v := 3) C dX10_does_27 (by decide) ?_
    refine V_iload_n C 3 dX10_does_28 rfl rfl ?_
    refine V_imul C dX10_does_29 ?_
    refine V_ev (show (3 * (nI k) : Int32) = nI (3 * k) from pk_mul 3 k) ?_
    refine V_iald C 2 rfl (ix_nI (show 3 * k < 123 by omega) (by omega)) dX10_does_30 ?_
    refine V_ev (show (od (3 * k) : Int32) = 120 from hcc) ?_
    refine V_iload_n C 1 dX10_does_31 rfl rfl ?_
    refine V_iload_n C 0 dX10_does_32 rfl rfl ?_
    refine V_callVi (q0 := 0) (na := 3) (As := [.int 120, .int (od ((3 * k) + 1)), .int (od ((3 * k) + 2))]) (rest := []) (wr := [(h7, .inl (gI g, 123, .inl od))]) C (c_X10_whyNot g h0 h1 h2 h3 h4 h5 h6 h7 pm ty om sp wr z 120 (od ((3 * k) + 1)) (od ((3 * k) + 2)) (by decide)) ⟨⟨ini_X10, co_X10_whyNot, ⟨by decide, by decide, by decide +kernel⟩, by decide⟩, ml_X10_144, im_X10_whyNot, se_X10_whyNot⟩ [0, 1] [2] rfl rfl rfl rfl (by decide) rfl rfl rfl rfl (Nat.le_of_ble_eq_true rfl) (by omega) (by omega) dX10_does_33 (fun r_21 w_ hw_22 => ?_)
    rcases hw_22 with ⟨v9_23, hf23_0, hf23_1, hrr, rfl⟩ | ⟨hf23_0, rfl, rfl⟩
    · subst r_21
      refine V_to (ws2 := [(h7, .inl (gI g, 123, .inl od)), (h0, .inr (10, [.ref h1, .ref h2, .ref h3, .ref h4, .int pm, .ref h5, .ref h6, .int ty, .ref h7, .int om, .int sp, .int wr])), (h1, .inl (gI g, 113, .inl z))]) ?_ rfl
      refine V_if_ge (tgt := 41) C dX10_does_36 (by decide) (fun h => absurd h (Int32.not_le.mpr hf23_1)) (fun _ => ?_)
      refine V_iconst (v := 0) C dX10_does_39 (by decide) ?_
      refine V_perm (ws2 := [(h0, .inr (10, [.ref h1, .ref h2, .ref h3, .ref h4, .int pm, .ref h5, .ref h6, .int ty, .ref h7, .int om, .int sp, .int wr])), (h1, .inl (gI g, 113, .inl z)), (h7, .inl (gI g, 123, .inl od))]) [1, 2, 0] rfl rfl ?_
      refine hret _ _ _ _ dX10_does_40 (by first | rfl | (split <;> rfl) | decide) ?_
      exact Or.inl ⟨by rw [doZ_x]; exact if_neg (fun h9 => hf23_0 (okO_x.mpr (h9))), rfl, rfl⟩
    · refine V_to (ws2 := [(h7, .inl (gI g, 123, .inl od)), (h0, .inr (10, [.ref h1, .ref h2, .ref h3, .ref h4, .int pm, .ref h5, .ref h6, .int ty, .ref h7, .int om, .int sp, .int wr])), (h1, .inl (gI g, 113, .inl z))]) ?_ rfl
      refine V_if_ge (tgt := 41) C dX10_does_36 (by decide) (fun _ => ?_) (fun h => absurd (by decide) h)
      refine V_aload_n C 2 dX10_does_41 rfl rfl ?_
      refine V_get (v := .ref h7) C 1 rfl rfl in_X10 8 (by decide) fl_X10_30 rfl rfl dX10_does_42 ?_
      refine V_iconst (v := 3) C dX10_does_45 (by decide) ?_
      refine V_iload_n C 3 dX10_does_46 rfl rfl ?_
      refine V_imul C dX10_does_47 ?_
      refine V_ev (show (3 * (nI k) : Int32) = nI (3 * k) from pk_mul 3 k) ?_
      refine V_iald C 0 rfl (ix_nI (show 3 * k < 123 by omega) (by omega)) dX10_does_48 ?_
      refine V_ev (show (od (3 * k) : Int32) = 120 from hcc) ?_
      refine V_lookup (tgt := 127) (off := 78) C dX10_does_49 (by decide) (by decide) (by decide) ?_
      refine V_aload_n C 2 dX10_does_127 rfl rfl ?_
      refine V_callVi (q0 := 1) (na := 0) (As := []) (rest := []) (wr := [(h7, .inl (gI g, 123, .inl od))]) C (c_X10_extraIt g h0 h1 h2 h3 h4 h5 h6 h7 pm ty om sp wr z ) ⟨⟨ini_X10, co_X10_extraIt, ⟨by decide, by decide, by decide +kernel⟩, by decide⟩, ml_X10_94, im_X10_extraIt, se_X10_extraIt⟩ [1, 2] [0] rfl rfl rfl rfl (by decide) rfl rfl rfl rfl (Nat.le_of_ble_eq_true rfl) (by omega) (by omega) dX10_does_128 (fun r_24 w_ hw_25 => ?_)
      obtain ⟨rfl, rfl⟩ := hw_25
      refine V_to (ws2 := [(h7, .inl (gI g, 123, .inl od)), (h0, .inr (10, [.ref h1, .ref h2, .ref h3, .ref h4, .int pm, .ref h5, .ref h6, .int ty, .ref h7, .int om, .int sp, .int wr])), (h1, .inl (gI g, 113, .inl (extraZ z)))]) ?_ rfl
      refine V_pop C dX10_does_131 rfl ?_
      refine V_goto (tgt := 148) C dX10_does_132 (by decide) ?_
      refine V_iconst (v := 1) C dX10_does_148 (by decide) ?_
      refine V_perm (ws2 := [(h0, .inr (10, [.ref h1, .ref h2, .ref h3, .ref h4, .int pm, .ref h5, .ref h6, .int ty, .ref h7, .int om, .int sp, .int wr])), (h1, .inl (gI g, 113, .inl (extraZ z))), (h7, .inl (gI g, 123, .inl od))]) [1, 2, 0] rfl rfl ?_
      refine hret _ _ _ _ dX10_does_149 (by first | rfl | (split <;> rfl) | decide) ?_
      exact Or.inr ⟨_, by rw [doZ_x]; exact if_pos (okO_x.mp hf23_0), rfl, rfl⟩
  · refine V_aload_n C 0 dX10_does_0 rfl rfl ?_
    refine V_get (v := .ref h7) C 0 rfl rfl in_X10 8 (by decide) fl_X10_30 rfl rfl dX10_does_1 ?_
    refine V_iconst (v := 3) C dX10_does_4 (by decide) ?_
    refine V_iload_n C 1 dX10_does_5 rfl rfl ?_
    refine V_imul C dX10_does_6 ?_
    refine V_ev (show (3 * (nI k) : Int32) = nI (3 * k) from pk_mul 3 k) ?_
    refine V_iconst (v := 1) C dX10_does_7 (by decide) ?_
    refine V_iadd C dX10_does_8 ?_
    refine V_ev (show ((nI (3 * k)) + 1 : Int32) = nI ((3 * k) + 1) from nI_add (3 * k) 1) ?_
    refine V_iald C 2 rfl (ix_nI (show (3 * k) + 1 < 123 by omega) (by omega)) dX10_does_9 ?_
    refine V_istore_n (L2 := [(2, .int (od ((3 * k) + 1))), (0, .ref h0), (1, .int (nI k))]) C dX10_does_10 rfl (by decide) rfl ?_
    refine V_aload_n C 1 dX10_does_11 rfl rfl ?_
    refine V_get (v := .ref h7) C 0 rfl rfl in_X10 8 (by decide) fl_X10_30 rfl rfl dX10_does_12 ?_
    refine V_iconst (v := 3) C dX10_does_15 (by decide) ?_
    refine V_iload_n C 2 dX10_does_16 rfl rfl ?_
    refine V_imul C dX10_does_17 ?_
    refine V_ev (show (3 * (nI k) : Int32) = nI (3 * k) from pk_mul 3 k) ?_
    refine V_iconst (v := 2) C dX10_does_18 (by decide) ?_
    refine V_iadd C dX10_does_19 ?_
    refine V_ev (show ((nI (3 * k)) + 2 : Int32) = nI ((3 * k) + 2) from nI_add (3 * k) 2) ?_
    refine V_iald C 2 rfl (ix_nI (show (3 * k) + 2 < 123 by omega) (by omega)) dX10_does_20 ?_
    refine V_istore_n (L2 := [(3, .int (od ((3 * k) + 2))), (2, .int (od ((3 * k) + 1))), (0, .ref h0), (1, .int (nI k))]) C dX10_does_21 rfl (by decide) rfl ?_
    refine V_aload_n C 2 dX10_does_22 rfl rfl ?_
    refine V_aload_n C 2 dX10_does_23 rfl rfl ?_
    refine V_get (v := .ref h7) C 0 rfl rfl in_X10 8 (by decide) fl_X10_30 rfl rfl dX10_does_24 ?_
    refine V_iconst (v := 3) C dX10_does_27 (by decide) ?_
    refine V_iload_n C 3 dX10_does_28 rfl rfl ?_
    refine V_imul C dX10_does_29 ?_
    refine V_ev (show (3 * (nI k) : Int32) = nI (3 * k) from pk_mul 3 k) ?_
    refine V_iald C 2 rfl (ix_nI (show 3 * k < 123 by omega) (by omega)) dX10_does_30 ?_
    refine V_ev (show (od (3 * k) : Int32) = 101 from hcc) ?_
    refine V_iload_n C 1 dX10_does_31 rfl rfl ?_
    refine V_iload_n C 0 dX10_does_32 rfl rfl ?_
    refine V_callVi (q0 := 0) (na := 3) (As := [.int 101, .int (od ((3 * k) + 1)), .int (od ((3 * k) + 2))]) (rest := []) (wr := [(h7, .inl (gI g, 123, .inl od))]) C (c_X10_whyNot g h0 h1 h2 h3 h4 h5 h6 h7 pm ty om sp wr z 101 (od ((3 * k) + 1)) (od ((3 * k) + 2)) (by decide)) ⟨⟨ini_X10, co_X10_whyNot, ⟨by decide, by decide, by decide +kernel⟩, by decide⟩, ml_X10_144, im_X10_whyNot, se_X10_whyNot⟩ [0, 1] [2] rfl rfl rfl rfl (by decide) rfl rfl rfl rfl (Nat.le_of_ble_eq_true rfl) (by omega) (by omega) dX10_does_33 (fun r_26 w_ hw_27 => ?_)
    rcases hw_27 with ⟨v9_28, hf28_0, hf28_1, hrr, rfl⟩ | ⟨hf28_0, rfl, rfl⟩
    · subst r_26
      refine V_to (ws2 := [(h7, .inl (gI g, 123, .inl od)), (h0, .inr (10, [.ref h1, .ref h2, .ref h3, .ref h4, .int pm, .ref h5, .ref h6, .int ty, .ref h7, .int om, .int sp, .int wr])), (h1, .inl (gI g, 113, .inl z))]) ?_ rfl
      refine V_if_ge (tgt := 41) C dX10_does_36 (by decide) (fun h => absurd h (Int32.not_le.mpr hf28_1)) (fun _ => ?_)
      refine V_iconst (v := 0) C dX10_does_39 (by decide) ?_
      refine V_perm (ws2 := [(h0, .inr (10, [.ref h1, .ref h2, .ref h3, .ref h4, .int pm, .ref h5, .ref h6, .int ty, .ref h7, .int om, .int sp, .int wr])), (h1, .inl (gI g, 113, .inl z)), (h7, .inl (gI g, 123, .inl od))]) [1, 2, 0] rfl rfl ?_
      refine hret _ _ _ _ dX10_does_40 (by first | rfl | (split <;> rfl) | decide) ?_
      exact Or.inl ⟨by rw [doZ_e]; exact if_neg (fun h9 => hf28_0 (okO_e.mpr (h9))), rfl, rfl⟩
    · refine V_to (ws2 := [(h7, .inl (gI g, 123, .inl od)), (h0, .inr (10, [.ref h1, .ref h2, .ref h3, .ref h4, .int pm, .ref h5, .ref h6, .int ty, .ref h7, .int om, .int sp, .int wr])), (h1, .inl (gI g, 113, .inl z))]) ?_ rfl
      refine V_if_ge (tgt := 41) C dX10_does_36 (by decide) (fun _ => ?_) (fun h => absurd (by decide) h)
      refine V_aload_n C 2 dX10_does_41 rfl rfl ?_
      refine V_get (v := .ref h7) C 1 rfl rfl in_X10 8 (by decide) fl_X10_30 rfl rfl dX10_does_42 ?_
      refine V_iconst (v := 3) C dX10_does_45 (by decide) ?_
      refine V_iload_n C 3 dX10_does_46 rfl rfl ?_
      refine V_imul C dX10_does_47 ?_
      refine V_ev (show (3 * (nI k) : Int32) = nI (3 * k) from pk_mul 3 k) ?_
      refine V_iald C 0 rfl (ix_nI (show 3 * k < 123 by omega) (by omega)) dX10_does_48 ?_
      refine V_ev (show (od (3 * k) : Int32) = 101 from hcc) ?_
      refine V_lookup (tgt := 143) (off := 94) C dX10_does_49 (by decide) (by decide) (by decide) ?_
      refine V_aload_n C 2 dX10_does_143 rfl rfl ?_
      refine V_callVi (q0 := 1) (na := 0) (As := []) (rest := []) (wr := [(h7, .inl (gI g, 123, .inl od))]) C (c_X10_endIt g h0 h1 h2 h3 h4 h5 h6 h7 pm ty om sp wr z ) ⟨⟨ini_X10, co_X10_endIt, ⟨by decide, by decide, by decide +kernel⟩, by decide⟩, ml_X10_98, im_X10_endIt, se_X10_endIt⟩ [1, 2] [0] rfl rfl rfl rfl (by decide) rfl rfl rfl rfl (Nat.le_of_ble_eq_true rfl) (by omega) (by omega) dX10_does_144 (fun r_29 w_ hw_30 => ?_)
      obtain ⟨rfl, rfl⟩ := hw_30
      refine V_to (ws2 := [(h7, .inl (gI g, 123, .inl od)), (h0, .inr (10, [.ref h1, .ref h2, .ref h3, .ref h4, .int pm, .ref h5, .ref h6, .int ty, .ref h7, .int om, .int sp, .int wr])), (h1, .inl (gI g, 113, .inl (endZ z)))]) ?_ rfl
      refine V_pop C dX10_does_147 rfl ?_
      refine V_iconst (v := 1) C dX10_does_148 (by decide) ?_
      refine V_perm (ws2 := [(h0, .inr (10, [.ref h1, .ref h2, .ref h3, .ref h4, .int pm, .ref h5, .ref h6, .int ty, .ref h7, .int om, .int sp, .int wr])), (h1, .inl (gI g, 113, .inl (endZ z))), (h7, .inl (gI g, 123, .inl od))]) [1, 2, 0] rfl rfl ?_
      refine hret _ _ _ _ dX10_does_149 (by first | rfl | (split <;> rfl) | decide) ?_
      exact Or.inr ⟨_, by rw [doZ_e]; exact if_pos (okO_e.mp hf28_0), rfl, rfl⟩
set_option maxRecDepth 100000 in
set_option maxHeartbeats 4000000 in
theorem c_X10_carryOut (g : Gd) (h0 : Nat) (h1 : Nat) (h2 : Nat) (h3 : Nat) (h4 : Nat) (h5 : Nat) (h6 : Nat) (h7 : Nat) (pm : Nat) (ty : Nat) (om : Int32) (sp : Int32) (wr : Int32) (pd : Nat → Int32) (od : Nat → Int32) (s5 : As) (z : Nat → Int32) (past : Nat → Int32) (B : Nat) (hty : ty ≤ 80) (hpd : PDok pd ty) (hs0 : s5.2.2.2 = 0) (hpm : pm ≤ 6) (hZ : IZ z B) : Ki g yX10_carryOut cX10_carryOut 2 (some .int) 5 0 0 [.ref h0] [(h0, .inr (10, [.ref h1, .ref h2, .ref h3, .ref h4, .int (nI pm), .ref h5, .ref h6, .int (nI ty), .ref h7, .int om, .int sp, .int wr])), (h1, .inl (gI g, 113, .inl z)), (h2, .inl (gI g, 678, .inl past)), (h6, .inl (gC g, 80, .inl pd)), (h7, .inl (gI g, 123, .inl od))] (fun (r : Int32) (w : va_W) => (∃ (f9 : Nat) (o9 : Nat) (od2 : Nat → Int32), flt pd ty 0 s5 = nI f9 ∧ f9 ≤ ty ∧ r = (-3) ∧ w = [(h0, .inr (10, [.ref h1, .ref h2, .ref h3, .ref h4, .int (nI pm), .ref h5, .ref h6, .int (nI ty), .ref h7, .int (nI o9), .int (nI (f9 + 1)), .int (nI f9)])), (h1, .inl (gI g, 113, .inl z)), (h2, .inl (gI g, 678, .inl past)), (h6, .inl (gC g, 80, .inl pd)), (h7, .inl (gI g, 123, .inl od2))]) ∨ (∃ (o9 : Nat) (od2 : Nat → Int32), flt pd ty 0 s5 = -6 ∧ (ors pd ty 0 s5).length ≤ 41 ∧ r = nI ((runL z (ors pd ty 0 s5)).2) ∧ w = [(h0, .inr (10, [.ref h1, .ref h2, .ref h3, .ref h4, .int (nI (min (pm + 1) 6)), .ref h5, .ref h6, .int 0, .ref h7, .int (nI o9), .int (nI ty), .int (-6)])), (h1, .inl (gI g, 113, .inl ((runL z (ors pd ty 0 s5)).1))), (h2, .inl (gI g, 678, .inl (recP z past pm))), (h6, .inl (gC g, 80, .inl pd)), (h7, .inl (gI g, 123, .inl od2))])) := by
  refine Ki.of (by decide) (Nat.le_of_ble_eq_true rfl) (fun X C hI hret => ?_)
  show V g X 0 0 [(h0, .inr (10, [.ref h1, .ref h2, .ref h3, .ref h4, .int (nI pm), .ref h5, .ref h6, .int (nI ty), .ref h7, .int om, .int sp, .int wr])), (h1, .inl (gI g, 113, .inl z)), (h2, .inl (gI g, 678, .inl past)), (h6, .inl (gC g, 80, .inl pd)), (h7, .inl (gI g, 123, .inl od))] 0 [(0, .ref h0)] []
  refine V_aload_n C 0 dX10_carryOut_0 rfl rfl ?_
  refine V_callVi (q0 := 0) (na := 0) (As := []) (rest := []) (wr := [(h1, .inl (gI g, 113, .inl z)), (h2, .inl (gI g, 678, .inl past))]) C (c_X10_readPad g h0 h1 h2 h3 h4 h5 h6 h7 (nI pm) ty om sp wr pd od s5 (show ty ≤ 80 from by first | assumption | omega | exact ix_nI (by omega) (by omega) | decide) (show PDok pd ty from by first | assumption | omega | exact ix_nI (by omega) (by omega) | decide) (show s5.2.2.2 = 0 from by first | assumption | omega | exact ix_nI (by omega) (by omega) | decide)) ⟨⟨ini_X10, co_X10_readPad, ⟨by decide, by decide, by decide +kernel⟩, by decide⟩, ml_X10_141, im_X10_readPad, se_X10_readPad⟩ [0, 3, 4] [1, 2] rfl rfl rfl rfl (by decide) rfl rfl rfl rfl (Nat.le_of_ble_eq_true rfl) (by omega) (by omega) dX10_carryOut_1 (fun r_1 w_ hw_2 => ?_)
  rcases hw_2 with ⟨f9_3, o2_4, od2_5, hf5_0, hf5_1, rfl, rfl⟩ | ⟨o2_6, od2_7, hf7_0, hf7_1, hf7_2, hf7_3, rfl, rfl⟩
  · refine V_to (ws2 := [(h1, .inl (gI g, 113, .inl z)), (h2, .inl (gI g, 678, .inl past)), (h0, .inr (10, [.ref h1, .ref h2, .ref h3, .ref h4, .int (nI pm), .ref h5, .ref h6, .int (nI ty), .ref h7, .int (nI o2_4), .int (nI (f9_3 + 1)), .int (nI f9_3)])), (h6, .inl (gC g, 80, .inl pd)), (h7, .inl (gI g, 123, .inl od2_5))]) ?_ rfl
    have hf9 := hf5_1
    refine V_bipush (v := (-6)) C dX10_carryOut_4 (by decide) ?_
    refine V_icmp_eq (tgt := 12) C dX10_carryOut_6 (by decide) (fun h => absurd h (nI_ne6 (by omega))) (fun _ => ?_)
    refine V_bipush (v := (-3)) C dX10_carryOut_9 (by decide) ?_
    refine V_perm (ws2 := [(h0, .inr (10, [.ref h1, .ref h2, .ref h3, .ref h4, .int (nI pm), .ref h5, .ref h6, .int (nI ty), .ref h7, .int (nI o2_4), .int (nI (f9_3 + 1)), .int (nI f9_3)])), (h1, .inl (gI g, 113, .inl z)), (h2, .inl (gI g, 678, .inl past)), (h6, .inl (gC g, 80, .inl pd)), (h7, .inl (gI g, 123, .inl od2_5))]) [2, 0, 1, 3, 4] rfl rfl ?_
    refine hret _ _ _ _ dX10_carryOut_11 ?_
    exact Or.inl ⟨f9_3, o2_4, od2_5, hf5_0, hf5_1, rfl, rfl⟩
  · refine V_to (ws2 := [(h1, .inl (gI g, 113, .inl z)), (h2, .inl (gI g, 678, .inl past)), (h0, .inr (10, [.ref h1, .ref h2, .ref h3, .ref h4, .int (nI pm), .ref h5, .ref h6, .int (nI ty), .ref h7, .int (nI o2_6), .int (nI ty), .int (-6)])), (h6, .inl (gC g, 80, .inl pd)), (h7, .inl (gI g, 123, .inl od2_7))]) ?_ rfl
    have hf9 := hf7_2
    have hf8 := hf7_1
    refine V_bipush (v := (-6)) C dX10_carryOut_4 (by decide) ?_
    refine V_icmp_eq (tgt := 12) C dX10_carryOut_6 (by decide) (fun _ => ?_) (fun h => absurd (by decide) h)
    refine V_aload_n C 0 dX10_carryOut_12 rfl rfl ?_
    refine V_callVv (q0 := 2) (na := 0) (As := []) (rest := []) (wr := [(h6, .inl (gC g, 80, .inl pd)), (h7, .inl (gI g, 123, .inl od2_7))]) C (c_X10_record g h0 h1 h2 h3 h4 h5 h6 h7 pm (nI ty) (nI o2_6) (nI ty) (-6) z past (show pm ≤ 6 from by first | assumption | omega | exact ix_nI (by omega) (by omega) | decide)) ⟨⟨ini_X10, co_X10_record, ⟨by decide, by decide, by decide +kernel⟩, by decide⟩, ml_X10_45, im_X10_record, se_X10_record⟩ [2, 0, 1] [3, 4] rfl rfl rfl rfl (by decide) rfl rfl rfl rfl (Nat.le_of_ble_eq_true rfl) (by omega) (by omega) dX10_carryOut_13 (fun w_ hw_9 => ?_)
    obtain rfl := hw_9
    refine V_to (ws2 := [(h6, .inl (gC g, 80, .inl pd)), (h7, .inl (gI g, 123, .inl od2_7)), (h0, .inr (10, [.ref h1, .ref h2, .ref h3, .ref h4, .int (nI (min (pm + 1) 6)), .ref h5, .ref h6, .int (nI ty), .ref h7, .int (nI o2_6), .int (nI ty), .int (-6)])), (h1, .inl (gI g, 113, .inl z)), (h2, .inl (gI g, 678, .inl (recP z past pm)))]) ?_ rfl
    refine V_iconst (v := 0) C dX10_carryOut_16 (by decide) ?_
    refine V_istore_n (L2 := [(1, .int 0), (0, .ref h0)]) C dX10_carryOut_17 rfl (by decide) rfl ?_
    have loop_18 : ∀ (fu_18 : Nat) (j : Nat) (zz : Nat → Int32), (j ≤ o2_6) → (IZ zz (B + j)) → (runL z (ors pd ty 0 s5) = ((runL zz ((ors pd ty 0 s5).drop j)).1, (runL zz ((ors pd ty 0 s5).drop j)).2 + j)) → o2_6 - j < fu_18 → V g X 0 0 [(h6, .inl (gC g, 80, .inl pd)), (h7, .inl (gI g, 123, .inl od2_7)), (h0, .inr (10, [.ref h1, .ref h2, .ref h3, .ref h4, .int (nI (min (pm + 1) 6)), .ref h5, .ref h6, .int (nI ty), .ref h7, .int (nI o2_6), .int (nI ty), .int (-6)])), (h1, .inl (gI g, 113, .inl zz)), (h2, .inl (gI g, 678, .inl (recP z past pm)))] 18 [(0, .ref h0), (1, .int (nI j))] [] := by
      intro fu_18
      induction fu_18 with
      | zero => intro j zz hj hzz hrun hm; exact absurd hm (by omega)
      | succ fu_18 ih_18 =>
        intro j zz hj hzz hrun hm
        refine V_iload_n C 1 dX10_carryOut_18 rfl rfl ?_
        refine V_aload_n C 0 dX10_carryOut_19 rfl rfl ?_
        refine V_get (v := .int (nI o2_6)) C 2 rfl rfl in_X10 9 (by decide) fl_X10_132 rfl rfl dX10_carryOut_20 ?_
        refine V_icmp_ge (tgt := 40) C dX10_carryOut_23 (by decide) (fun c_23 => ?_) (fun c_23 => ?_)
        · refine V_aload_n C 0 dX10_carryOut_40 rfl rfl ?_
          refine V_iconst (v := 0) C dX10_carryOut_41 (by decide) ?_
          refine V_put (ty := .int) (ws2 := [(h6, .inl (gC g, 80, .inl pd)), (h7, .inl (gI g, 123, .inl od2_7)), (h0, .inr (10, [.ref h1, .ref h2, .ref h3, .ref h4, .int (nI (min (pm + 1) 6)), .ref h5, .ref h6, .int 0, .ref h7, .int (nI o2_6), .int (nI ty), .int (-6)])), (h1, .inl (gI g, 113, .inl zz)), (h2, .inl (gI g, 678, .inl (recP z past pm)))]) C 2 rfl rfl in_X10 tyX10 tyX10_ok nmX10 7 (by decide) fl_X10_104 rfl rfl (by decide +kernel) rfl rfl (Nat.le_of_ble_eq_true rfl) dX10_carryOut_42 rfl ?_
          refine V_iload_n C 1 dX10_carryOut_45 rfl rfl ?_
          refine V_perm (ws2 := [(h0, .inr (10, [.ref h1, .ref h2, .ref h3, .ref h4, .int (nI (min (pm + 1) 6)), .ref h5, .ref h6, .int 0, .ref h7, .int (nI o2_6), .int (nI ty), .int (-6)])), (h1, .inl (gI g, 113, .inl zz)), (h2, .inl (gI g, 678, .inl (recP z past pm))), (h6, .inl (gC g, 80, .inl pd)), (h7, .inl (gI g, 123, .inl od2_7))]) [2, 3, 4, 0, 1] rfl rfl ?_
          refine hret _ _ _ _ dX10_carryOut_46 ?_
          have e : runL z (ors pd ty 0 s5) = (zz, j) := hrun.trans (by rw [List.drop_eq_nil_of_le (by have := lp_ge o2_6 rfl (by omega) (by omega) c_23; omega), runL]; exact Prod.ext rfl (Nat.zero_add j))
          exact Or.inr ⟨o2_6, od2_7, hf7_0, by omega, by rw [e], by rw [e]⟩
        · have hj2 : j < o2_6 := lp_lt o2_6 rfl (by omega) (by omega) c_23
          obtain ⟨⟨p1, p2, p3⟩, ho⟩ : ∃ o, (ors pd ty 0 s5)[j]? = some o := ⟨_, List.getElem?_eq_getElem (by omega)⟩
          obtain ⟨hlt, he⟩ := List.getElem?_eq_some_iff.mp ho
          have hdr : (ors pd ty 0 s5).drop j = (p1, p2, p3) :: (ors pd ty 0 s5).drop (j + 1) := by rw [List.drop_eq_getElem_cons hlt, he]
          refine V_aload_n C 0 dX10_carryOut_26 rfl rfl ?_
          refine V_iload_n C 1 dX10_carryOut_27 rfl rfl ?_
          refine V_callVi (q0 := 2) (na := 1) (As := [.int (nI j)]) (rest := []) (wr := [(h6, .inl (gC g, 80, .inl pd)), (h2, .inl (gI g, 678, .inl (recP z past pm)))]) C (c_X10_does g h0 h1 h2 h3 h4 h5 h6 h7 (nI (min (pm + 1) 6)) (nI ty) (nI o2_6) (nI ty) (-6) zz od2_7 j p1 p2 p3 (B + j) (show j < 41 from by first | assumption | omega | exact ix_nI (by omega) (by omega) | decide) (hf7_3 j _ ho) hzz) ⟨⟨ini_X10, co_X10_does, ⟨by decide, by decide, by decide +kernel⟩, by decide⟩, ml_X10_147, im_X10_does, se_X10_does⟩ [2, 3, 1] [0, 4] rfl rfl rfl rfl (by decide) rfl rfl rfl rfl (Nat.le_of_ble_eq_true rfl) (by omega) (by omega) dX10_carryOut_28 (fun r_10 w_ hw_11 => ?_)
          rcases hw_11 with ⟨hf11_0, rfl, rfl⟩ | ⟨z2_12, hf12_0, rfl, rfl⟩
          · refine V_to (ws2 := [(h6, .inl (gC g, 80, .inl pd)), (h2, .inl (gI g, 678, .inl (recP z past pm))), (h0, .inr (10, [.ref h1, .ref h2, .ref h3, .ref h4, .int (nI (min (pm + 1) 6)), .ref h5, .ref h6, .int (nI ty), .ref h7, .int (nI o2_6), .int (nI ty), .int (-6)])), (h1, .inl (gI g, 113, .inl zz)), (h7, .inl (gI g, 123, .inl od2_7))]) ?_ rfl
            refine V_if_eq (tgt := 40) C dX10_carryOut_31 (by decide) (fun _ => ?_) (fun h => absurd (by decide) h)
            refine V_aload_n C 0 dX10_carryOut_40 rfl rfl ?_
            refine V_iconst (v := 0) C dX10_carryOut_41 (by decide) ?_
            refine V_put (ty := .int) (ws2 := [(h6, .inl (gC g, 80, .inl pd)), (h2, .inl (gI g, 678, .inl (recP z past pm))), (h0, .inr (10, [.ref h1, .ref h2, .ref h3, .ref h4, .int (nI (min (pm + 1) 6)), .ref h5, .ref h6, .int 0, .ref h7, .int (nI o2_6), .int (nI ty), .int (-6)])), (h1, .inl (gI g, 113, .inl zz)), (h7, .inl (gI g, 123, .inl od2_7))]) C 2 rfl rfl in_X10 tyX10 tyX10_ok nmX10 7 (by decide) fl_X10_104 rfl rfl (by decide +kernel) rfl rfl (Nat.le_of_ble_eq_true rfl) dX10_carryOut_42 rfl ?_
            refine V_iload_n C 1 dX10_carryOut_45 rfl rfl ?_
            refine V_perm (ws2 := [(h0, .inr (10, [.ref h1, .ref h2, .ref h3, .ref h4, .int (nI (min (pm + 1) 6)), .ref h5, .ref h6, .int 0, .ref h7, .int (nI o2_6), .int (nI ty), .int (-6)])), (h1, .inl (gI g, 113, .inl zz)), (h2, .inl (gI g, 678, .inl (recP z past pm))), (h6, .inl (gC g, 80, .inl pd)), (h7, .inl (gI g, 123, .inl od2_7))]) [2, 3, 1, 0, 4] rfl rfl ?_
            refine hret _ _ _ _ dX10_carryOut_46 ?_
            have e : runL z (ors pd ty 0 s5) = (zz, j) := hrun.trans (by rw [hdr, runL_n hf11_0]; exact Prod.ext rfl (Nat.zero_add j))
            exact Or.inr ⟨o2_6, od2_7, hf7_0, by omega, by rw [e], by rw [e]⟩
          · refine V_to (ws2 := [(h6, .inl (gC g, 80, .inl pd)), (h2, .inl (gI g, 678, .inl (recP z past pm))), (h0, .inr (10, [.ref h1, .ref h2, .ref h3, .ref h4, .int (nI (min (pm + 1) 6)), .ref h5, .ref h6, .int (nI ty), .ref h7, .int (nI o2_6), .int (nI ty), .int (-6)])), (h1, .inl (gI g, 113, .inl z2_12)), (h7, .inl (gI g, 123, .inl od2_7))]) ?_ rfl
            refine V_if_eq (tgt := 40) C dX10_carryOut_31 (by decide) (fun h => absurd h (by decide)) (fun _ => ?_)
            refine V_iinc (v := nI (j + 1)) (L2 := [(1, .int (nI (j + 1))), (0, .ref h0)]) C 1 dX10_carryOut_34 rfl (nI_add j 1) (by decide) rfl ?_
            refine V_goto (tgt := 18) C dX10_carryOut_37 (by decide) ?_
            refine V_perm (ws2 := [(h6, .inl (gC g, 80, .inl pd)), (h7, .inl (gI g, 123, .inl od2_7)), (h0, .inr (10, [.ref h1, .ref h2, .ref h3, .ref h4, .int (nI (min (pm + 1) 6)), .ref h5, .ref h6, .int (nI ty), .ref h7, .int (nI o2_6), .int (nI ty), .int (-6)])), (h1, .inl (gI g, 113, .inl z2_12)), (h2, .inl (gI g, 678, .inl (recP z past pm)))]) [0, 4, 2, 3, 1] rfl rfl ?_
            refine V_locs (L2 := [(0, .ref h0), (1, .int (nI (j + 1)))]) [1, 0] rfl ?_
            exact ih_18 (j + 1) z2_12 (show (j + 1) ≤ o2_6 from by first | assumption | omega | rfl) (hzz.does hf12_0) (hrun.trans (by rw [hdr, runL_s hf12_0]; exact Prod.ext rfl (by show _ + 1 + j = _ + (j + 1); omega))) (by omega)
    refine V_locs (L2 := [(0, .ref h0), (1, .int 0)]) [1, 0] rfl ?_
    exact loop_18 (o2_6 - 0 + 1) 0 z (show 0 ≤ o2_6 from by first | assumption | omega | rfl) hZ rfl (by omega)
set_option maxRecDepth 100000 in
set_option maxHeartbeats 4000000 in
theorem c_X10_put (g : Gd) (h0 : Nat) (h1 : Nat) (h2 : Nat) (h3 : Nat) (h4 : Nat) (h5 : Nat) (h6 : Nat) (h7 : Nat) (pm : Int32) (ty : Nat) (om : Int32) (sp : Int32) (wr : Int32) (pd : Nat → Int32) (u : Nat) (hu : u < 2 ^ 64) (hty : ty ≤ 80) : Ki g yX10_put cX10_put 8 (some .int) 1 0 0 [.ref h0, .long (lN u)] [(h0, .inr (10, [.ref h1, .ref h2, .ref h3, .ref h4, .int pm, .ref h5, .ref h6, .int (nI ty), .ref h7, .int om, .int sp, .int wr])), (h6, .inl (gC g, 80, .inl pd))] (fun (r : Int32) (w : va_W) => ((∀ n9, ¬ PT u n9) ∧ r = (-2) ∧ w = [(h0, .inr (10, [.ref h1, .ref h2, .ref h3, .ref h4, .int pm, .ref h5, .ref h6, .int (nI ty), .ref h7, .int om, .int sp, .int wr])), (h6, .inl (gC g, 80, .inl pd))]) ∨ (∃ (n9 : Nat), PT u n9 ∧ ¬ ty + n9 ≤ 80 ∧ r = (-4) ∧ w = [(h0, .inr (10, [.ref h1, .ref h2, .ref h3, .ref h4, .int pm, .ref h5, .ref h6, .int (nI ty), .ref h7, .int om, .int sp, .int wr])), (h6, .inl (gC g, 80, .inl pd))]) ∨ (∃ (n9 : Nat) (pd2 : Nat → Int32), PT u n9 ∧ ty + n9 ≤ 80 ∧ (∀ i, i < ty → pd2 i = pd i) ∧ (∀ i, i < n9 → pd2 (ty + i) = nI (dg u (n9 - 1 - i))) ∧ r = nI (ty + n9) ∧ w = [(h0, .inr (10, [.ref h1, .ref h2, .ref h3, .ref h4, .int pm, .ref h5, .ref h6, .int (nI (ty + n9)), .ref h7, .int om, .int sp, .int wr])), (h6, .inl (gC g, 80, .inl pd2))])) := by
  refine Ki.of (by decide) (Nat.le_of_ble_eq_true rfl) (fun X C hI hret => ?_)
  show V g X 0 0 [(h0, .inr (10, [.ref h1, .ref h2, .ref h3, .ref h4, .int pm, .ref h5, .ref h6, .int (nI ty), .ref h7, .int om, .int sp, .int wr])), (h6, .inl (gC g, 80, .inl pd))] 0 [(0, .ref h0), (1, .long (lN u))] []
  refine V_iconst (v := 0) C dX10_put_0 (by decide) ?_
  refine V_istore_n (L2 := [(3, .int 0), (0, .ref h0), (1, .long (lN u))]) C dX10_put_1 rfl (by decide) rfl ?_
  refine V_lload_n C 2 dX10_put_2 rfl rfl ?_
  refine V_evl (show lN u = lN (u / 256 ^ 0) from by rw [Nat.pow_zero, Nat.div_one]) ?_
  refine V_lstore (L2 := [(4, .long (lN (u / 256 ^ 0))), (3, .int 0), (0, .ref h0), (1, .long (lN u))]) C dX10_put_3 (by decide) rfl ?_
  refine V_iconst (v := 1) C dX10_put_5 (by decide) ?_
  refine V_istore (L2 := [(6, .int 1), (4, .long (lN (u / 256 ^ 0))), (3, .int 0), (0, .ref h0), (1, .long (lN u))]) C dX10_put_6 (by decide) rfl ?_
  have loop_8 : ∀ (fu_8 : Nat) (n : Nat), (n ≤ 8) → (∀ i, i < n → 33 ≤ dg u i ∧ dg u i ≤ 126) → 8 - n < fu_8 → V g X 0 0 [(h0, .inr (10, [.ref h1, .ref h2, .ref h3, .ref h4, .int pm, .ref h5, .ref h6, .int (nI ty), .ref h7, .int om, .int sp, .int wr])), (h6, .inl (gC g, 80, .inl pd))] 8 [(0, .ref h0), (1, .long (lN u)), (3, .int (nI n)), (4, .long (lN (u / 256 ^ n))), (6, .int 1)] [] := by
    intro fu_8
    induction fu_8 with
    | zero => intro n hn hdg hm; exact absurd hm (by omega)
    | succ fu_8 ih_8 =>
      intro n hn hdg hm
      refine V_lload C 3 dX10_put_8 rfl ?_
      refine V_lconst (v := 0) C dX10_put_10 (by decide) ?_
      refine V_lcmp C dX10_put_11 ?_
      refine V_if_eq (tgt := 49) C dX10_put_12 (by decide) (fun c_12 => ?_) (fun c_12 => ?_)
      · have hl0 : u / 256 ^ n = 0 := lN_0 (Nat.lt_of_le_of_lt (Nat.div_le_self _ _) hu) ((lg_cmp_eq _ _).mp c_12)
        refine V_iload_n C 2 dX10_put_49 rfl rfl ?_
        refine V_if_eq (tgt := 58) C dX10_put_50 (by decide) (fun c_50 => ?_) (fun c_50 => ?_)
        · refine V_bipush (v := (-2)) C dX10_put_58 (by decide) ?_
          refine hret _ _ _ _ dX10_put_60 ?_
          exact Or.inl ⟨PT_0 (by have q8 := (nI_eq (b := 0) (by omega) (by omega)).mp c_50; subst q8; exact hl0), rfl, rfl⟩
        · refine V_iload C 4 dX10_put_53 rfl ?_
          refine V_if_ne (tgt := 61) C dX10_put_55 (by decide) (fun _ => ?_) (fun h => absurd h (by decide))
          have hn1 : 1 ≤ n := by
            rcases Nat.eq_zero_or_pos n with q9 | q9
            · exact absurd (by rw [q9]; rfl) c_50
            · exact q9
          refine V_aload_n C 0 dX10_put_61 rfl rfl ?_
          refine V_get (v := .int (nI ty)) C 0 rfl rfl in_X10 7 (by decide) fl_X10_104 rfl rfl dX10_put_62 ?_
          refine V_iload_n C 2 dX10_put_65 rfl rfl ?_
          refine V_iadd C dX10_put_66 ?_
          refine V_ev (show ((nI ty) + (nI n) : Int32) = nI (ty + n) from nI_add ty n) ?_
          refine V_bipush (v := 80) C dX10_put_67 (by decide) ?_
          refine V_icmp_le (tgt := 75) C dX10_put_69 (by decide) (fun c_69 => ?_) (fun c_69 => ?_)
          · have hle : ty + n ≤ 80 := (nI_leI (b := 80) (by omega) (by omega)).mp c_69
            refine V_iload_n C 2 dX10_put_75 rfl rfl ?_
            refine V_iconst (v := 1) C dX10_put_76 (by decide) ?_
            refine V_isub C dX10_put_77 ?_
            refine V_istore (L2 := [(7, .int ((nI n) - 1)), (0, .ref h0), (1, .long (lN u)), (3, .int (nI n)), (4, .long (lN (u / 256 ^ n))), (6, .int 1)]) C dX10_put_78 (by decide) rfl ?_
            have loop_80 : ∀ (fu_80 : Nat) (jj : Nat) (tt : Nat) (pdx : Nat → Int32), (jj ≤ n) → (tt = ty + (n - jj)) → (∀ i, i < ty → pdx i = pd i) → (∀ i, i < n - jj → pdx (ty + i) = nI (dg u (n - 1 - i))) → jj < fu_80 → V g X 0 0 [(h0, .inr (10, [.ref h1, .ref h2, .ref h3, .ref h4, .int pm, .ref h5, .ref h6, .int (nI tt), .ref h7, .int om, .int sp, .int wr])), (h6, .inl (gC g, 80, .inl pdx))] 80 [(0, .ref h0), (1, .long (lN u)), (3, .int (nI n)), (7, .int (nI jj - 1))] [] := by
              intro fu_80
              induction fu_80 with
              | zero => intro jj tt pdx hjj htt hp1 hp2 hm; exact absurd hm (by omega)
              | succ fu_80 ih_80 =>
                intro jj tt pdx hjj htt hp1 hp2 hm
                refine V_iload C 3 dX10_put_80 rfl ?_
                refine V_if_lt (tgt := 123) C dX10_put_82 (by decide) (fun c_82 => ?_) (fun c_82 => ?_)
                · refine V_aload_n C 0 dX10_put_123 rfl rfl ?_
                  refine V_get (v := .int (nI tt)) C 0 rfl rfl in_X10 7 (by decide) fl_X10_104 rfl rfl dX10_put_124 ?_
                  refine hret _ _ _ _ dX10_put_127 ?_
                  have hj0 := m1_neg (by omega) c_82
                  have ht9 : tt = ty + n := by omega
                  subst ht9
                  exact Or.inr (Or.inr ⟨n, pdx, ⟨hn1, hn, hl0, hdg⟩, hle, hp1, fun i hi9 => hp2 i (by omega), rfl, rfl⟩)
                · have hj1 := m1_pos c_82
                  refine V_aload_n C 0 dX10_put_85 rfl rfl ?_
                  refine V_get (v := .ref h6) C 0 rfl rfl in_X10 6 (by decide) fl_X10_26 rfl rfl dX10_put_86 ?_
                  refine V_aload_n C 0 dX10_put_89 rfl rfl ?_
                  refine V_get (v := .int (nI tt)) C 0 rfl rfl in_X10 7 (by decide) fl_X10_104 rfl rfl dX10_put_90 ?_
                  refine V_lload_n C 1 dX10_put_93 rfl rfl ?_
                  refine V_bipush (v := 8) C dX10_put_94 (by decide) ?_
                  refine V_iload C 3 dX10_put_96 rfl ?_
                  refine V_ev (show (nI jj - 1 : Int32) = nI (jj - 1) from pk_sub (b := 1) hj1) ?_
                  refine V_imul C dX10_put_98 ?_
                  refine V_ev (show (8 * (nI (jj - 1)) : Int32) = nI (8 * (jj - 1)) from pk_mul 8 (jj - 1)) ?_
                  refine V_lushr C dX10_put_99 ?_
                  refine V_evl (show (Int64.toUInt64 (lN u) >>> (Int64.toUInt64 (Int32.toInt64 (nI (8 * (jj - 1)))) &&& Int64.toUInt64 63)).toInt64 = lN (u / 256 ^ (jj - 1)) from lN_shr hu (by omega)) ?_
                  refine V_ldc2 (v := 255) C k_X10_117 dX10_put_100 ?_
                  refine V_land C dX10_put_103 ?_
                  refine V_l2i C dX10_put_104 ?_
                  refine V_ev (show (Int64.toInt32 ((lN (u / 256 ^ (jj - 1))) &&& 255) : Int32) = nI (dg u (jj - 1)) from lN_dg) ?_
                  refine V_i2c C dX10_put_105 ?_
                  refine V_ev (show ((Int32.toUInt32 (nI (dg u (jj - 1))) % 65536).toInt32 : Int32) = nI (dg u (jj - 1)) from i2c_c (Nat.lt_trans dg_lt (by omega))) ?_
                  refine V_cast (ws2 := [(h0, .inr (10, [.ref h1, .ref h2, .ref h3, .ref h4, .int pm, .ref h5, .ref h6, .int (nI tt), .ref h7, .int om, .int sp, .int wr])), (h6, .inl (gC g, 80, .inl (upd pdx tt (vp_nar .char (nI (dg u (jj - 1)))))))]) C 1 rfl (ix_nI (show tt < 80 by omega) (by omega)) dX10_put_106 rfl ?_
                  refine V_to (ws2 := [(h0, .inr (10, [.ref h1, .ref h2, .ref h3, .ref h4, .int pm, .ref h5, .ref h6, .int (nI tt), .ref h7, .int om, .int sp, .int wr])), (h6, .inl (gC g, 80, .inl (upd pdx tt (nI (dg u (jj - 1))))))]) ?_ (by rw [nar_c (Nat.lt_trans dg_lt (by omega))])
                  refine V_aload_n C 0 dX10_put_107 rfl rfl ?_
                  refine V_dup C dX10_put_108 rfl ?_
                  refine V_get (v := .int (nI tt)) C 0 rfl rfl in_X10 7 (by decide) fl_X10_104 rfl rfl dX10_put_109 ?_
                  refine V_iconst (v := 1) C dX10_put_112 (by decide) ?_
                  refine V_iadd C dX10_put_113 ?_
                  refine V_ev (show ((nI tt) + 1 : Int32) = nI (tt + 1) from nI_add tt 1) ?_
                  refine V_put (ty := .int) (ws2 := [(h0, .inr (10, [.ref h1, .ref h2, .ref h3, .ref h4, .int pm, .ref h5, .ref h6, .int (nI (tt + 1)), .ref h7, .int om, .int sp, .int wr])), (h6, .inl (gC g, 80, .inl (upd pdx tt (nI (dg u (jj - 1))))))]) C 0 rfl rfl in_X10 tyX10 tyX10_ok nmX10 7 (by decide) fl_X10_104 rfl rfl (by decide +kernel) rfl rfl (Nat.le_of_ble_eq_true rfl) dX10_put_114 rfl ?_
                  refine V_iinc (v := nI (jj - 1) - 1) (L2 := [(7, .int (nI (jj - 1) - 1)), (0, .ref h0), (1, .long (lN u)), (3, .int (nI n))]) C 3 dX10_put_117 rfl (m1_iinc hj1) (by decide) rfl ?_
                  refine V_goto (tgt := 80) C dX10_put_120 (by decide) ?_
                  refine V_locs (L2 := [(0, .ref h0), (1, .long (lN u)), (3, .int (nI n)), (7, .int (nI (jj - 1) - 1))]) [1, 2, 3, 0] rfl ?_
                  exact ih_80 (jj - 1) (tt + 1) (upd pdx tt (nI (dg u (jj - 1)))) (show (jj - 1) ≤ n from by first | assumption | omega | rfl) (show (tt + 1) = ty + (n - (jj - 1)) from by first | assumption | omega | rfl) (AP_1 hp1 (by omega)) (AP_2 hj1 hjj htt hp2) (by omega)
            refine V_locs (L2 := [(0, .ref h0), (1, .long (lN u)), (3, .int (nI n)), (7, .int ((nI n) - 1))]) [1, 2, 3, 0] rfl ?_
            exact loop_80 (n + 1) n ty pd (show n ≤ n from by first | assumption | omega | rfl) (show ty = ty + (n - n) from by first | assumption | omega | rfl) (fun i _ => rfl) (fun i hi9 => absurd hi9 (by omega)) (by omega)
          · refine V_bipush (v := (-4)) C dX10_put_72 (by decide) ?_
            refine hret _ _ _ _ dX10_put_74 ?_
            exact Or.inr (Or.inl ⟨n, ⟨hn1, hn, hl0, hdg⟩, fun q9 => c_69 (nI_le (b := 80) q9 (by omega)), rfl, rfl⟩)
      · have hne : ¬ u / 256 ^ n = 0 := fun q9 => c_12 ((lg_cmp_eq _ _).mpr (by rw [q9]; rfl))
        have hn8 := sh_top hu hne
        refine V_iload C 4 dX10_put_15 rfl ?_
        refine V_if_eq (tgt := 49) C dX10_put_17 (by decide) (fun h => absurd h (by decide)) (fun _ => ?_)
        refine V_lload C 3 dX10_put_20 rfl ?_
        refine V_ldc2 (v := 255) C k_X10_117 dX10_put_22 ?_
        refine V_land C dX10_put_25 ?_
        refine V_l2i C dX10_put_26 ?_
        refine V_ev (show (Int64.toInt32 ((lN (u / 256 ^ n)) &&& 255) : Int32) = nI (dg u n) from lN_dg) ?_
        refine V_bipush (v := 33) C dX10_put_27 (by decide) ?_
        refine V_bipush (v := 126) C dX10_put_29 (by decide) ?_
        refine V_callSi (na := 3) (As := [.int (nI (dg u n)), .int 33, .int 126]) (rest := []) (wr := [(h0, .inr (10, [.ref h1, .ref h2, .ref h3, .ref h4, .int pm, .ref h5, .ref h6, .int (nI ty), .ref h7, .int om, .int sp, .int wr])), (h6, .inl (gC g, 80, .inl pd))]) C (c_X10_in g (nI (dg u n)) 33 126 ) ⟨⟨ini_X10, co_X10_in, ⟨by decide, by decide, by decide +kernel⟩, by decide⟩, ml_X10_33, sm_X10_in⟩ [] [0, 1] rfl rfl rfl rfl (by decide) rfl rfl (Nat.le_of_ble_eq_true rfl) (by omega) (by omega) dX10_put_31 (fun r_1 w_ hw_2 => ?_)
        rcases hw_2 with ⟨hf2_0, hf2_1, rfl, rfl⟩ | ⟨hf2_0, rfl, rfl⟩
        · refine V_to (ws2 := [(h0, .inr (10, [.ref h1, .ref h2, .ref h3, .ref h4, .int pm, .ref h5, .ref h6, .int (nI ty), .ref h7, .int om, .int sp, .int wr])), (h6, .inl (gC g, 80, .inl pd))]) ?_ rfl
          have hgd := dg_in dg_lt hf2_0 hf2_1
          refine V_istore (L2 := [(6, .int 1), (0, .ref h0), (1, .long (lN u)), (3, .int (nI n)), (4, .long (lN (u / 256 ^ n)))]) C dX10_put_34 (by decide) rfl ?_
          refine V_lload C 4 dX10_put_36 rfl ?_
          refine V_bipush (v := 8) C dX10_put_38 (by decide) ?_
          refine V_lushr C dX10_put_40 ?_
          refine V_evl (show (Int64.toUInt64 (lN (u / 256 ^ n)) >>> (Int64.toUInt64 (Int32.toInt64 8) &&& Int64.toUInt64 63)).toInt64 = lN (u / 256 ^ (n + 1)) from lN_sh8 hu) ?_
          refine V_lstore (L2 := [(4, .long (lN (u / 256 ^ (n + 1)))), (6, .int 1), (0, .ref h0), (1, .long (lN u)), (3, .int (nI n))]) C dX10_put_41 (by decide) rfl ?_
          refine V_iinc (v := nI (n + 1)) (L2 := [(3, .int (nI (n + 1))), (4, .long (lN (u / 256 ^ (n + 1)))), (6, .int 1), (0, .ref h0), (1, .long (lN u))]) C 4 dX10_put_43 rfl (nI_add n 1) (by decide) rfl ?_
          refine V_goto (tgt := 8) C dX10_put_46 (by decide) ?_
          refine V_locs (L2 := [(0, .ref h0), (1, .long (lN u)), (3, .int (nI (n + 1))), (4, .long (lN (u / 256 ^ (n + 1)))), (6, .int 1)]) [3, 4, 0, 1, 2] rfl ?_
          exact ih_8 (n + 1) (show (n + 1) ≤ 8 from by first | assumption | omega | rfl) (fun i hi9 => by rcases (show i < n ∨ i = n by omega) with q9 | q9; exact hdg i q9; subst q9; exact hgd) (by omega)
        · refine V_to (ws2 := [(h0, .inr (10, [.ref h1, .ref h2, .ref h3, .ref h4, .int pm, .ref h5, .ref h6, .int (nI ty), .ref h7, .int om, .int sp, .int wr])), (h6, .inl (gC g, 80, .inl pd))]) ?_ rfl
          have hbad := dg_out dg_lt hf2_0
          refine V_istore (L2 := [(6, .int 0), (0, .ref h0), (1, .long (lN u)), (3, .int (nI n)), (4, .long (lN (u / 256 ^ n)))]) C dX10_put_34 (by decide) rfl ?_
          refine V_lload C 4 dX10_put_36 rfl ?_
          refine V_bipush (v := 8) C dX10_put_38 (by decide) ?_
          refine V_lushr C dX10_put_40 ?_
          refine V_evl (show (Int64.toUInt64 (lN (u / 256 ^ n)) >>> (Int64.toUInt64 (Int32.toInt64 8) &&& Int64.toUInt64 63)).toInt64 = lN (u / 256 ^ (n + 1)) from lN_sh8 hu) ?_
          refine V_lstore (L2 := [(4, .long (lN (u / 256 ^ (n + 1)))), (6, .int 0), (0, .ref h0), (1, .long (lN u)), (3, .int (nI n))]) C dX10_put_41 (by decide) rfl ?_
          refine V_iinc (v := nI (n + 1)) (L2 := [(3, .int (nI (n + 1))), (4, .long (lN (u / 256 ^ (n + 1)))), (6, .int 0), (0, .ref h0), (1, .long (lN u))]) C 4 dX10_put_43 rfl (nI_add n 1) (by decide) rfl ?_
          refine V_goto (tgt := 8) C dX10_put_46 (by decide) ?_
          refine V_lload C 1 dX10_put_8 rfl ?_
          refine V_lconst (v := 0) C dX10_put_10 (by decide) ?_
          refine V_lcmp C dX10_put_11 ?_
          refine V_if_eq (tgt := 49) C dX10_put_12 (by decide) (fun c_12 => ?_) (fun c_12 => ?_)
          · refine V_iload_n C 0 dX10_put_49 rfl rfl ?_
            refine V_if_eq (tgt := 58) C dX10_put_50 (by decide) (fun c_50 => ?_) (fun c_50 => ?_)
            · refine V_bipush (v := (-2)) C dX10_put_58 (by decide) ?_
              refine hret _ _ _ _ dX10_put_60 ?_
              exact Or.inl ⟨PT_bad hne hbad, rfl, rfl⟩
            · refine V_iload C 2 dX10_put_53 rfl ?_
              refine V_if_ne (tgt := 61) C dX10_put_55 (by decide) (fun h => absurd rfl h) (fun _ => ?_)
              refine V_bipush (v := (-2)) C dX10_put_58 (by decide) ?_
              refine hret _ _ _ _ dX10_put_60 ?_
              exact Or.inl ⟨PT_bad hne hbad, rfl, rfl⟩
          · refine V_iload C 2 dX10_put_15 rfl ?_
            refine V_if_eq (tgt := 49) C dX10_put_17 (by decide) (fun _ => ?_) (fun h => absurd (by decide) h)
            refine V_iload_n C 0 dX10_put_49 rfl rfl ?_
            refine V_if_eq (tgt := 58) C dX10_put_50 (by decide) (fun c_50 => ?_) (fun c_50 => ?_)
            · refine V_bipush (v := (-2)) C dX10_put_58 (by decide) ?_
              refine hret _ _ _ _ dX10_put_60 ?_
              exact Or.inl ⟨PT_bad hne hbad, rfl, rfl⟩
            · refine V_iload C 2 dX10_put_53 rfl ?_
              refine V_if_ne (tgt := 61) C dX10_put_55 (by decide) (fun h => absurd rfl h) (fun _ => ?_)
              refine V_bipush (v := (-2)) C dX10_put_58 (by decide) ?_
              refine hret _ _ _ _ dX10_put_60 ?_
              exact Or.inl ⟨PT_bad hne hbad, rfl, rfl⟩
  refine V_locs (L2 := [(0, .ref h0), (1, .long (lN u)), (3, .int 0), (4, .long (lN (u / 256 ^ 0))), (6, .int 1)]) [3, 4, 2, 1, 0] rfl ?_
  exact loop_8 (8 - 0 + 1) 0 (show 0 ≤ 8 from by first | assumption | omega | rfl) (fun i hi9 => absurd hi9 (by omega)) (by omega)
