
def OE (od : Nat → Int32) (i : Nat) (o : Or3) : Prop := od (3 * i) = o.1 ∧ isL o.1 ∧ (o.1 = 119 → od (3 * i + 1) = o.2.2) ∧ (o.1 = 100 → od (3 * i + 1) = o.2.1 ∧ od (3 * i + 2) = o.2.2)
theorem ltr_lit {pd : Nat → Int32} {ty i : Nat} {K : Int32} (h : ltr pd ty i = K) (hK : ¬ K = -6) : i < ty ∧ pd i = K := by
  by_cases hl : i < ty
  · rw [ltr_in hl] at h
    exact ⟨hl, h⟩
  · rw [ltr_out hl] at h
    exact absurd h.symm hK
theorem take_L {s : As} {c : Int32} (h0 : s.2.2.2 = 0) (hc : isL c) : takeA s c = some (c, s.2.1, -1, if c = 100 then 1 else if c = 119 then 2 else 3) := by
  unfold takeA
  rw [if_pos h0, if_pos hc]
theorem or_bad {pd : Nat → Int32} {ty sp : Nat} {s : As} (h : sp ≤ ty) (h0 : s.2.2.2 = 0) (hp : PDok pd ty) (hn : ¬ ltr pd ty sp = 104 ∧ ¬ ltr pd ty sp = 100 ∧ ¬ ltr pd ty sp = 119 ∧ ¬ ltr pd ty sp = 115 ∧ ¬ ltr pd ty sp = 120 ∧ ¬ ltr pd ty sp = 101) : flt pd ty sp s = nI sp := by
  by_cases hl : sp < ty
  · rw [ltr_in hl] at hn
    refine flt_none hl ?_
    unfold takeA
    rw [if_pos h0, if_neg]
    intro q
    rcases q with q | q | q | q | q | q
    · exact hn.1 q
    · exact hn.2.1 q
    · exact hn.2.2.1 q
    · exact hn.2.2.2.1 q
    · exact hn.2.2.2.2.1 q
    · exact hn.2.2.2.2.2 q
  · have e : sp = ty := by omega
    subst e
    refine flt_end ?_
    intro q
    rcases q with q | q
    · rw [h0] at q; exact absurd q (by decide)
    · rw [h0] at q; exact absurd q.1 (by decide)
theorem take_3 {s : As} {c : Int32} (h : s.2.2.2 = 3) (hc : ¬ c < 48 ∧ ¬ 57 < c) : takeA s c = none := by
  unfold takeA
  rw [if_neg (by rw [h]; decide), if_pos hc, if_pos (Or.inl h)]
theorem nI_nm1 {V : Nat} (h : V < 2 ^ 31) : ¬ nI V = -1 := fun q => by
  have h1 := congrArg Int32.toInt q
  rw [nI_toInt h] at h1
  have h2 : (-1 : Int32).toInt = -1 := by decide
  omega
/-- the stroke between a drive's numbers -/
theorem take_st {s : As} {l f v : Int32} {p : Int32} (h : s = (l, f, v, p)) (hp : p = 1) (hn : ¬ v = -1) : takeA s 47 = some (l, v, -1, 2) := by
  subst h; subst hp
  unfold takeA
  rw [if_neg (show ¬ (1 : Int32) = 0 by decide), if_neg (show ¬ (¬ (47 : Int32) < 48 ∧ ¬ (57 : Int32) < 47) by decide), if_pos ⟨rfl, rfl, hn⟩]
theorem st_bad {pd : Nat → Int32} {ty i : Nat} {l f v : Int32} (h : i ≤ ty) (hp : PDok pd ty) (hk : STK pd ty i (l, f, v, 1)) (hn : ¬ ltr pd ty i = 47) : flt pd ty i (l, f, v, 1) = nI i := by
  have hm : ¬ mayE (l, f, v, (1 : Int32)) := by
    intro q
    rcases q with q | q
    · exact absurd q (show ¬ (1 : Int32) = 3 by decide)
    · exact absurd q.1 (show ¬ (1 : Int32) = 2 by decide)
  by_cases hl : i < ty
  · rw [ltr_in hl] at hn
    refine flt_none hl ?_
    by_cases hd : ¬ pd i < 48 ∧ ¬ 57 < pd i
    · exact hk hl hd
    · unfold takeA
      rw [if_neg (show ¬ (1 : Int32) = 0 by decide), if_neg hd, if_neg (fun q => hn q.1), if_neg (fun q => hm q.2)]
  · have e : i = ty := by omega
    subst e
    exact flt_end hm

set_option maxRecDepth 100000 in
set_option maxHeartbeats 4000000 in
theorem c_X10_readOrder (g : Gd) (h0 : Nat) (h1 : Nat) (h2 : Nat) (h3 : Nat) (h4 : Nat) (h5 : Nat) (h6 : Nat) (h7 : Nat) (pm : Int32) (ty : Nat) (om : Nat) (sp : Nat) (pd : Nat → Int32) (od : Nat → Int32) (s5 : As) (hty : ty ≤ 80) (hsp : sp ≤ ty) (hom : om ≤ 40) (hpd : PDok pd ty) (hs0 : s5.2.2.2 = 0) : Kv g yX10_readOrder cX10_readOrder 3 none 2 0 0 [.ref h0] [(h0, .inr (10, [.ref h1, .ref h2, .ref h3, .ref h4, .int pm, .ref h5, .ref h6, .int (nI ty), .ref h7, .int (nI om), .int (nI sp), .int (-6)])), (h6, .inl (gC g, 80, .inl pd)), (h7, .inl (gI g, 123, .inl od))] (fun (w : va_W) => (∃ (f9 : Nat) (od2 : Nat → Int32), flt pd ty sp s5 = nI f9 ∧ f9 ≤ ty ∧ w = [(h0, .inr (10, [.ref h1, .ref h2, .ref h3, .ref h4, .int pm, .ref h5, .ref h6, .int (nI ty), .ref h7, .int (nI (om + 1)), .int (nI (f9 + 1)), .int (nI f9)])), (h6, .inl (gC g, 80, .inl pd)), (h7, .inl (gI g, 123, .inl od2))]) ∨ (∃ (i8 : Nat) (s8 : As) (od2 : Nat → Int32), sp < i8 ∧ RCH pd ty sp s5 i8 s8 ∧ mayE s8 ∧ STK pd ty i8 s8 ∧ OE od2 om (s8.1, s8.2.1, s8.2.2.1) ∧ (∀ k, k < 3 * om → od2 k = od k) ∧ w = [(h0, .inr (10, [.ref h1, .ref h2, .ref h3, .ref h4, .int pm, .ref h5, .ref h6, .int (nI ty), .ref h7, .int (nI (om + 1)), .int (nI i8), .int (-6)])), (h6, .inl (gC g, 80, .inl pd)), (h7, .inl (gI g, 123, .inl od2))])) := by
  refine Kv.of (by decide) (Nat.le_of_ble_eq_true rfl) (fun X C hI hret => ?_)
  show V g X 0 0 [(h0, .inr (10, [.ref h1, .ref h2, .ref h3, .ref h4, .int pm, .ref h5, .ref h6, .int (nI ty), .ref h7, .int (nI om), .int (nI sp), .int (-6)])), (h6, .inl (gC g, 80, .inl pd)), (h7, .inl (gI g, 123, .inl od))] 0 [(0, .ref h0)] []
  refine V_iconst (v := 3) C dX10_readOrder_0 (by decide) ?_
  refine V_aload_n C 0 dX10_readOrder_1 rfl rfl ?_
  refine V_get (v := .int (nI om)) C 0 rfl rfl in_X10 9 (by decide) fl_X10_132 rfl rfl dX10_readOrder_2 ?_
  refine V_imul C dX10_readOrder_5 ?_
  refine V_ev (show (3 * (nI om) : Int32) = nI (3 * om) from pk_mul 3 om) ?_
  refine V_istore_n (L2 := [(1, .int (nI (3 * om))), (0, .ref h0)]) C dX10_readOrder_6 rfl (by decide) rfl ?_
  refine V_aload_n C 1 dX10_readOrder_7 rfl rfl ?_
  refine V_callVi (q0 := 0) (na := 0) (As := []) (rest := []) (wr := [(h7, .inl (gI g, 123, .inl od))]) C (c_X10_letter g h0 h1 h2 h3 h4 h5 h6 h7 pm ty (nI om) sp (-6) pd (show ty ≤ 80 from by first | assumption | omega | exact ix_nI (by omega) (by omega) | decide) (show sp ≤ 1000 from by first | assumption | omega | exact ix_nI (by omega) (by omega) | decide)) ⟨⟨ini_X10, co_X10_letter, ⟨by decide, by decide, by decide +kernel⟩, by decide⟩, ml_X10_125, im_X10_letter, se_X10_letter⟩ [0, 1] [2] rfl rfl rfl rfl (by decide) rfl rfl rfl rfl (Nat.le_of_ble_eq_true rfl) (by omega) (by omega) dX10_readOrder_8 (fun r_1 w_ hw_2 => ?_)
  obtain ⟨rfl, rfl⟩ := hw_2
  refine V_to (ws2 := [(h7, .inl (gI g, 123, .inl od)), (h0, .inr (10, [.ref h1, .ref h2, .ref h3, .ref h4, .int pm, .ref h5, .ref h6, .int (nI ty), .ref h7, .int (nI om), .int (nI sp), .int (-6)])), (h6, .inl (gC g, 80, .inl pd))]) ?_ rfl
  refine V_istore_n (L2 := [(2, .int (ltr pd ty sp)), (1, .int (nI (3 * om))), (0, .ref h0)]) C dX10_readOrder_11 rfl (by decide) rfl ?_
  refine V_aload_n C 2 dX10_readOrder_12 rfl rfl ?_
  refine V_get (v := .ref h7) C 1 rfl rfl in_X10 8 (by decide) fl_X10_30 rfl rfl dX10_readOrder_13 ?_
  refine V_iload_n C 1 dX10_readOrder_16 rfl rfl ?_
  refine V_iload_n C 0 dX10_readOrder_17 rfl rfl ?_
  refine V_iast (ws2 := [(h7, .inl (gI g, 123, .inl (upd od (3 * om) (ltr pd ty sp)))), (h0, .inr (10, [.ref h1, .ref h2, .ref h3, .ref h4, .int pm, .ref h5, .ref h6, .int (nI ty), .ref h7, .int (nI om), .int (nI sp), .int (-6)])), (h6, .inl (gC g, 80, .inl pd))]) C 0 rfl (ix_nI (show 3 * om < 123 by omega) (by omega)) dX10_readOrder_18 rfl ?_
  refine V_aload_n C 2 dX10_readOrder_19 rfl rfl ?_
  refine V_iload_n C 0 dX10_readOrder_20 rfl rfl ?_
  refine V_bipush (v := 104) C dX10_readOrder_21 (by decide) ?_
  refine V_icmp_eq (tgt := 56) C dX10_readOrder_23 (by decide) (fun c_23 => ?_) (fun c_23 => ?_)
  · obtain ⟨hlt, hpc⟩ := ltr_lit c_23 (by decide)
    have hR1 : RCH pd ty sp s5 (sp + 1) (104, s5.2.1, -1, 3) := RCH.st hlt (by rw [hpc, take_L hs0 (by decide)]; rfl) (by rw [hpc]; decide)
    rw [c_23]
    refine V_iconst (v := 1) C dX10_readOrder_56 (by decide) ?_
    refine V_goto (tgt := 61) C dX10_readOrder_57 (by decide) ?_
    refine V_callVv (q0 := 1) (na := 1) (As := [.int 1]) (rest := []) (wr := [(h7, .inl (gI g, 123, .inl (upd od (3 * om) 104))), (h6, .inl (gC g, 80, .inl pd))]) C (c_X10_wants g h0 h1 h2 h3 h4 h5 h6 h7 pm (nI ty) (nI om) sp (-6) 1 (show sp ≤ 1000 from by first | assumption | omega | exact ix_nI (by omega) (by omega) | decide)) ⟨⟨ini_X10, co_X10_wants, ⟨by decide, by decide, by decide +kernel⟩, by decide⟩, ml_X10_128, im_X10_wants, se_X10_wants⟩ [1] [0, 2] rfl rfl rfl rfl (by decide) rfl rfl rfl rfl (Nat.le_of_ble_eq_true rfl) (by omega) (by omega) dX10_readOrder_61 (fun w_ hw_4 => ?_)
    rcases hw_4 with ⟨hf4_0, rfl⟩ | ⟨hf4_0, hf4_1, rfl⟩ | ⟨hf4_0, hf4_1, rfl⟩
    · refine V_to (ws2 := [(h7, .inl (gI g, 123, .inl (upd od (3 * om) 104))), (h6, .inl (gC g, 80, .inl pd)), (h0, .inr (10, [.ref h1, .ref h2, .ref h3, .ref h4, .int pm, .ref h5, .ref h6, .int (nI ty), .ref h7, .int (nI om), .int (nI sp), .int (-6)]))]) ?_ rfl
      exact absurd rfl hf4_0
    · refine V_to (ws2 := [(h7, .inl (gI g, 123, .inl (upd od (3 * om) 104))), (h6, .inl (gC g, 80, .inl pd)), (h0, .inr (10, [.ref h1, .ref h2, .ref h3, .ref h4, .int pm, .ref h5, .ref h6, .int (nI ty), .ref h7, .int (nI om), .int (nI (sp + 1)), .int (nI sp)]))]) ?_ rfl
      exact absurd hf4_1 (by decide)
    · refine V_to (ws2 := [(h7, .inl (gI g, 123, .inl (upd od (3 * om) 104))), (h6, .inl (gC g, 80, .inl pd)), (h0, .inr (10, [.ref h1, .ref h2, .ref h3, .ref h4, .int pm, .ref h5, .ref h6, .int (nI ty), .ref h7, .int (nI om), .int (nI (sp + 1)), .int (-6)]))]) ?_ rfl
      refine V_iload_n C 0 dX10_readOrder_64 rfl rfl ?_
      refine V_bipush (v := 100) C dX10_readOrder_65 (by decide) ?_
      refine V_icmp_eq (tgt := 76) C dX10_readOrder_67 (by decide) (fun h => absurd h (by decide)) (fun _ => ?_)
      refine V_iload_n C 0 dX10_readOrder_70 rfl rfl ?_
      refine V_bipush (v := 119) C dX10_readOrder_71 (by decide) ?_
      refine V_icmp_ne (tgt := 88) C dX10_readOrder_73 (by decide) (fun _ => ?_) (fun h => absurd h (by decide))
      refine V_iload_n C 0 dX10_readOrder_88 rfl rfl ?_
      refine V_bipush (v := 100) C dX10_readOrder_89 (by decide) ?_
      refine V_icmp_ne (tgt := 124) C dX10_readOrder_91 (by decide) (fun _ => ?_) (fun h => absurd h (by decide))
      refine V_aload_n C 2 dX10_readOrder_124 rfl rfl ?_
      refine V_dup C dX10_readOrder_125 rfl ?_
      refine V_get (v := .int (nI om)) C 2 rfl rfl in_X10 9 (by decide) fl_X10_132 rfl rfl dX10_readOrder_126 ?_
      refine V_iconst (v := 1) C dX10_readOrder_129 (by decide) ?_
      refine V_iadd C dX10_readOrder_130 ?_
      refine V_ev (show ((nI om) + 1 : Int32) = nI (om + 1) from nI_add om 1) ?_
      refine V_put (ty := .int) (ws2 := [(h7, .inl (gI g, 123, .inl (upd od (3 * om) 104))), (h6, .inl (gC g, 80, .inl pd)), (h0, .inr (10, [.ref h1, .ref h2, .ref h3, .ref h4, .int pm, .ref h5, .ref h6, .int (nI ty), .ref h7, .int (nI (om + 1)), .int (nI (sp + 1)), .int (-6)]))]) C 2 rfl rfl in_X10 tyX10 tyX10_ok nmX10 9 (by decide) fl_X10_132 rfl rfl (by decide +kernel) rfl rfl (Nat.le_of_ble_eq_true rfl) dX10_readOrder_131 rfl ?_
      refine V_perm (ws2 := [(h0, .inr (10, [.ref h1, .ref h2, .ref h3, .ref h4, .int pm, .ref h5, .ref h6, .int (nI ty), .ref h7, .int (nI (om + 1)), .int (nI (sp + 1)), .int (-6)])), (h6, .inl (gC g, 80, .inl pd)), (h7, .inl (gI g, 123, .inl (upd od (3 * om) 104)))]) [2, 1, 0] rfl rfl ?_
      refine hret _ _ _ dX10_readOrder_134 ?_
      exact Or.inr ⟨sp + 1, (104, s5.2.1, -1, 3), (upd od (3 * om) 104), by omega, hR1, Or.inl rfl, fun _ h9 => take_3 rfl h9, ⟨upd_s, show isL (104 : Int32) by decide, fun h9 => absurd h9 (show ¬ (104 : Int32) = 119 by decide), fun h9 => absurd h9 (show ¬ (104 : Int32) = 100 by decide)⟩, fun k hk => upd_n (by omega), rfl⟩
  · refine V_iload_n C 0 dX10_readOrder_26 rfl rfl ?_
    refine V_bipush (v := 100) C dX10_readOrder_27 (by decide) ?_
    refine V_icmp_eq (tgt := 56) C dX10_readOrder_29 (by decide) (fun c_29 => ?_) (fun c_29 => ?_)
    · obtain ⟨hlt, hpc⟩ := ltr_lit c_29 (by decide)
      have hR1 : RCH pd ty sp s5 (sp + 1) (100, s5.2.1, -1, 1) := RCH.st hlt (by rw [hpc, take_L hs0 (by decide)]; rfl) (by rw [hpc]; decide)
      rw [c_29]
      refine V_iconst (v := 1) C dX10_readOrder_56 (by decide) ?_
      refine V_goto (tgt := 61) C dX10_readOrder_57 (by decide) ?_
      refine V_callVv (q0 := 1) (na := 1) (As := [.int 1]) (rest := []) (wr := [(h7, .inl (gI g, 123, .inl (upd od (3 * om) 100))), (h6, .inl (gC g, 80, .inl pd))]) C (c_X10_wants g h0 h1 h2 h3 h4 h5 h6 h7 pm (nI ty) (nI om) sp (-6) 1 (show sp ≤ 1000 from by first | assumption | omega | exact ix_nI (by omega) (by omega) | decide)) ⟨⟨ini_X10, co_X10_wants, ⟨by decide, by decide, by decide +kernel⟩, by decide⟩, ml_X10_128, im_X10_wants, se_X10_wants⟩ [1] [0, 2] rfl rfl rfl rfl (by decide) rfl rfl rfl rfl (Nat.le_of_ble_eq_true rfl) (by omega) (by omega) dX10_readOrder_61 (fun w_ hw_6 => ?_)
      rcases hw_6 with ⟨hf6_0, rfl⟩ | ⟨hf6_0, hf6_1, rfl⟩ | ⟨hf6_0, hf6_1, rfl⟩
      · refine V_to (ws2 := [(h7, .inl (gI g, 123, .inl (upd od (3 * om) 100))), (h6, .inl (gC g, 80, .inl pd)), (h0, .inr (10, [.ref h1, .ref h2, .ref h3, .ref h4, .int pm, .ref h5, .ref h6, .int (nI ty), .ref h7, .int (nI om), .int (nI sp), .int (-6)]))]) ?_ rfl
        exact absurd rfl hf6_0
      · refine V_to (ws2 := [(h7, .inl (gI g, 123, .inl (upd od (3 * om) 100))), (h6, .inl (gC g, 80, .inl pd)), (h0, .inr (10, [.ref h1, .ref h2, .ref h3, .ref h4, .int pm, .ref h5, .ref h6, .int (nI ty), .ref h7, .int (nI om), .int (nI (sp + 1)), .int (nI sp)]))]) ?_ rfl
        exact absurd hf6_1 (by decide)
      · refine V_to (ws2 := [(h7, .inl (gI g, 123, .inl (upd od (3 * om) 100))), (h6, .inl (gC g, 80, .inl pd)), (h0, .inr (10, [.ref h1, .ref h2, .ref h3, .ref h4, .int pm, .ref h5, .ref h6, .int (nI ty), .ref h7, .int (nI om), .int (nI (sp + 1)), .int (-6)]))]) ?_ rfl
        refine V_iload_n C 0 dX10_readOrder_64 rfl rfl ?_
        refine V_bipush (v := 100) C dX10_readOrder_65 (by decide) ?_
        refine V_icmp_eq (tgt := 76) C dX10_readOrder_67 (by decide) (fun _ => ?_) (fun h => absurd (by decide) h)
        refine V_aload_n C 2 dX10_readOrder_76 rfl rfl ?_
        refine V_get (v := .ref h7) C 2 rfl rfl in_X10 8 (by decide) fl_X10_30 rfl rfl dX10_readOrder_77 ?_
        refine V_iload_n C 1 dX10_readOrder_80 rfl rfl ?_
        refine V_iconst (v := 1) C dX10_readOrder_81 (by decide) ?_
        refine V_iadd C dX10_readOrder_82 ?_
        refine V_ev (show ((nI (3 * om)) + 1 : Int32) = nI ((3 * om) + 1) from nI_add (3 * om) 1) ?_
        refine V_aload_n C 2 dX10_readOrder_83 rfl rfl ?_
        refine V_callVi (q0 := 2) (na := 0) (As := []) (rest := [.int (nI ((3 * om) + 1)), .ref h7]) (wr := [(h7, .inl (gI g, 123, .inl (upd od (3 * om) 100)))]) C (c_X10_number g h0 h1 h2 h3 h4 h5 h6 h7 pm ty (nI om) (sp + 1) (-6) pd (100, s5.2.1, -1, 1) (show ty ≤ 80 from by first | assumption | omega | exact ix_nI (by omega) (by omega) | decide) (show (sp + 1) ≤ 900 from by first | assumption | omega | exact ix_nI (by omega) (by omega) | decide) (show PDok pd ty from by first | assumption | omega | exact ix_nI (by omega) (by omega) | decide) (fun _ => ⟨by omega, Or.inl rfl, rfl⟩)) ⟨⟨ini_X10, co_X10_number, ⟨by decide, by decide, by decide +kernel⟩, by decide⟩, ml_X10_135, im_X10_number, se_X10_number⟩ [2, 1] [0] rfl rfl rfl rfl (by decide) rfl rfl rfl rfl (Nat.le_of_ble_eq_true rfl) (by omega) (by omega) dX10_readOrder_84 (fun r_7 w_ hw_8 => ?_)
        rcases hw_8 with ⟨v9_9, hf9_0, hrr, rfl⟩ | ⟨v9_10, hf10_0, hf10_1, hrr, rfl⟩ | ⟨V9_11, i9_12, hf12_0, hf12_1, hf12_2, hf12_3, hf12_4, rfl, rfl⟩
        · subst r_7
          refine V_to (ws2 := [(h7, .inl (gI g, 123, .inl (upd od (3 * om) 100))), (h0, .inr (10, [.ref h1, .ref h2, .ref h3, .ref h4, .int pm, .ref h5, .ref h6, .int (nI ty), .ref h7, .int (nI om), .int (nI (sp + 1)), .int (-6)])), (h6, .inl (gC g, 80, .inl pd))]) ?_ rfl
          exact absurd rfl hf9_0
        · subst r_7
          refine V_to (ws2 := [(h7, .inl (gI g, 123, .inl (upd od (3 * om) 100))), (h0, .inr (10, [.ref h1, .ref h2, .ref h3, .ref h4, .int pm, .ref h5, .ref h6, .int (nI ty), .ref h7, .int (nI om), .int (nI ((sp + 1) + 1)), .int (nI (sp + 1))])), (h6, .inl (gC g, 80, .inl pd))]) ?_ rfl
          refine V_iast (ws2 := [(h7, .inl (gI g, 123, .inl (upd (upd od (3 * om) 100) ((3 * om) + 1) v9_10))), (h0, .inr (10, [.ref h1, .ref h2, .ref h3, .ref h4, .int pm, .ref h5, .ref h6, .int (nI ty), .ref h7, .int (nI om), .int (nI ((sp + 1) + 1)), .int (nI (sp + 1))])), (h6, .inl (gC g, 80, .inl pd))]) C 0 rfl (ix_nI (show (3 * om) + 1 < 123 by omega) (by omega)) dX10_readOrder_87 rfl ?_
          refine V_iload_n C 0 dX10_readOrder_88 rfl rfl ?_
          refine V_bipush (v := 100) C dX10_readOrder_89 (by decide) ?_
          refine V_icmp_ne (tgt := 124) C dX10_readOrder_91 (by decide) (fun h => absurd rfl h) (fun _ => ?_)
          refine V_aload_n C 2 dX10_readOrder_94 rfl rfl ?_
          refine V_aload_n C 2 dX10_readOrder_95 rfl rfl ?_
          refine V_callVi (q0 := 1) (na := 0) (As := []) (rest := [.ref h0]) (wr := [(h7, .inl (gI g, 123, .inl (upd (upd od (3 * om) 100) ((3 * om) + 1) v9_10)))]) C (c_X10_letter g h0 h1 h2 h3 h4 h5 h6 h7 pm ty (nI om) ((sp + 1) + 1) (nI (sp + 1)) pd (show ty ≤ 80 from by first | assumption | omega | exact ix_nI (by omega) (by omega) | decide) (show ((sp + 1) + 1) ≤ 1000 from by first | assumption | omega | exact ix_nI (by omega) (by omega) | decide)) ⟨⟨ini_X10, co_X10_letter, ⟨by decide, by decide, by decide +kernel⟩, by decide⟩, ml_X10_125, im_X10_letter, se_X10_letter⟩ [1, 2] [0] rfl rfl rfl rfl (by decide) rfl rfl rfl rfl (Nat.le_of_ble_eq_true rfl) (by omega) (by omega) dX10_readOrder_96 (fun r_13 w_ hw_14 => ?_)
          obtain ⟨rfl, rfl⟩ := hw_14
          refine V_to (ws2 := [(h7, .inl (gI g, 123, .inl (upd (upd od (3 * om) 100) ((3 * om) + 1) v9_10))), (h0, .inr (10, [.ref h1, .ref h2, .ref h3, .ref h4, .int pm, .ref h5, .ref h6, .int (nI ty), .ref h7, .int (nI om), .int (nI ((sp + 1) + 1)), .int (nI (sp + 1))])), (h6, .inl (gC g, 80, .inl pd))]) ?_ rfl
          refine V_bipush (v := 47) C dX10_readOrder_99 (by decide) ?_
          refine V_icmp_ne (tgt := 108) C dX10_readOrder_101 (by decide) (fun c_101 => ?_) (fun c_101 => ?_)
          · refine V_iconst (v := 0) C dX10_readOrder_108 (by decide) ?_
            refine V_callVv (q0 := 1) (na := 1) (As := [.int 0]) (rest := []) (wr := [(h7, .inl (gI g, 123, .inl (upd (upd od (3 * om) 100) ((3 * om) + 1) v9_10))), (h6, .inl (gC g, 80, .inl pd))]) C (c_X10_wants g h0 h1 h2 h3 h4 h5 h6 h7 pm (nI ty) (nI om) ((sp + 1) + 1) (nI (sp + 1)) 0 (show ((sp + 1) + 1) ≤ 1000 from by first | assumption | omega | exact ix_nI (by omega) (by omega) | decide)) ⟨⟨ini_X10, co_X10_wants, ⟨by decide, by decide, by decide +kernel⟩, by decide⟩, ml_X10_128, im_X10_wants, se_X10_wants⟩ [1] [0, 2] rfl rfl rfl rfl (by decide) rfl rfl rfl rfl (Nat.le_of_ble_eq_true rfl) (by omega) (by omega) dX10_readOrder_109 (fun w_ hw_16 => ?_)
            rcases hw_16 with ⟨hf16_0, rfl⟩ | ⟨hf16_0, hf16_1, rfl⟩ | ⟨hf16_0, hf16_1, rfl⟩
            · refine V_to (ws2 := [(h7, .inl (gI g, 123, .inl (upd (upd od (3 * om) 100) ((3 * om) + 1) v9_10))), (h6, .inl (gC g, 80, .inl pd)), (h0, .inr (10, [.ref h1, .ref h2, .ref h3, .ref h4, .int pm, .ref h5, .ref h6, .int (nI ty), .ref h7, .int (nI om), .int (nI ((sp + 1) + 1)), .int (nI (sp + 1))]))]) ?_ rfl
              refine V_aload_n C 2 dX10_readOrder_112 rfl rfl ?_
              refine V_get (v := .ref h7) C 2 rfl rfl in_X10 8 (by decide) fl_X10_30 rfl rfl dX10_readOrder_113 ?_
              refine V_iload_n C 1 dX10_readOrder_116 rfl rfl ?_
              refine V_iconst (v := 2) C dX10_readOrder_117 (by decide) ?_
              refine V_iadd C dX10_readOrder_118 ?_
              refine V_ev (show ((nI (3 * om)) + 2 : Int32) = nI ((3 * om) + 2) from nI_add (3 * om) 2) ?_
              refine V_aload_n C 2 dX10_readOrder_119 rfl rfl ?_
              refine V_callVi (q0 := 2) (na := 0) (As := []) (rest := [.int (nI ((3 * om) + 2)), .ref h7]) (wr := [(h7, .inl (gI g, 123, .inl (upd (upd od (3 * om) 100) ((3 * om) + 1) v9_10)))]) C (c_X10_number g h0 h1 h2 h3 h4 h5 h6 h7 pm ty (nI om) ((sp + 1) + 1) (nI (sp + 1)) pd (100, 0, -1, 2) (show ty ≤ 80 from by first | assumption | omega | exact ix_nI (by omega) (by omega) | decide) (show ((sp + 1) + 1) ≤ 900 from by first | assumption | omega | exact ix_nI (by omega) (by omega) | decide) (show PDok pd ty from by first | assumption | omega | exact ix_nI (by omega) (by omega) | decide) (fun q9 => absurd q9 (nI_ne6 (by omega)))) ⟨⟨ini_X10, co_X10_number, ⟨by decide, by decide, by decide +kernel⟩, by decide⟩, ml_X10_135, im_X10_number, se_X10_number⟩ [2, 1] [0] rfl rfl rfl rfl (by decide) rfl rfl rfl rfl (Nat.le_of_ble_eq_true rfl) (by omega) (by omega) dX10_readOrder_120 (fun r_17 w_ hw_18 => ?_)
              rcases hw_18 with ⟨v9_19, hf19_0, hrr, rfl⟩ | ⟨v9_20, hf20_0, hf20_1, hrr, rfl⟩ | ⟨V9_21, i9_22, hf22_0, hf22_1, hf22_2, hf22_3, hf22_4, rfl, rfl⟩
              · subst r_17
                refine V_to (ws2 := [(h7, .inl (gI g, 123, .inl (upd (upd od (3 * om) 100) ((3 * om) + 1) v9_10))), (h0, .inr (10, [.ref h1, .ref h2, .ref h3, .ref h4, .int pm, .ref h5, .ref h6, .int (nI ty), .ref h7, .int (nI om), .int (nI ((sp + 1) + 1)), .int (nI (sp + 1))])), (h6, .inl (gC g, 80, .inl pd))]) ?_ rfl
                refine V_iast (ws2 := [(h7, .inl (gI g, 123, .inl (upd (upd (upd od (3 * om) 100) ((3 * om) + 1) v9_10) ((3 * om) + 2) v9_19))), (h0, .inr (10, [.ref h1, .ref h2, .ref h3, .ref h4, .int pm, .ref h5, .ref h6, .int (nI ty), .ref h7, .int (nI om), .int (nI ((sp + 1) + 1)), .int (nI (sp + 1))])), (h6, .inl (gC g, 80, .inl pd))]) C 0 rfl (ix_nI (show (3 * om) + 2 < 123 by omega) (by omega)) dX10_readOrder_123 rfl ?_
                refine V_aload_n C 2 dX10_readOrder_124 rfl rfl ?_
                refine V_dup C dX10_readOrder_125 rfl ?_
                refine V_get (v := .int (nI om)) C 1 rfl rfl in_X10 9 (by decide) fl_X10_132 rfl rfl dX10_readOrder_126 ?_
                refine V_iconst (v := 1) C dX10_readOrder_129 (by decide) ?_
                refine V_iadd C dX10_readOrder_130 ?_
                refine V_ev (show ((nI om) + 1 : Int32) = nI (om + 1) from nI_add om 1) ?_
                refine V_put (ty := .int) (ws2 := [(h7, .inl (gI g, 123, .inl (upd (upd (upd od (3 * om) 100) ((3 * om) + 1) v9_10) ((3 * om) + 2) v9_19))), (h0, .inr (10, [.ref h1, .ref h2, .ref h3, .ref h4, .int pm, .ref h5, .ref h6, .int (nI ty), .ref h7, .int (nI (om + 1)), .int (nI ((sp + 1) + 1)), .int (nI (sp + 1))])), (h6, .inl (gC g, 80, .inl pd))]) C 1 rfl rfl in_X10 tyX10 tyX10_ok nmX10 9 (by decide) fl_X10_132 rfl rfl (by decide +kernel) rfl rfl (Nat.le_of_ble_eq_true rfl) dX10_readOrder_131 rfl ?_
                refine V_perm (ws2 := [(h0, .inr (10, [.ref h1, .ref h2, .ref h3, .ref h4, .int pm, .ref h5, .ref h6, .int (nI ty), .ref h7, .int (nI (om + 1)), .int (nI ((sp + 1) + 1)), .int (nI (sp + 1))])), (h6, .inl (gC g, 80, .inl pd)), (h7, .inl (gI g, 123, .inl (upd (upd (upd od (3 * om) 100) ((3 * om) + 1) v9_10) ((3 * om) + 2) v9_19)))]) [1, 2, 0] rfl rfl ?_
                refine hret _ _ _ dX10_readOrder_134 ?_
                exact Or.inl ⟨(sp + 1), (upd (upd (upd od (3 * om) 100) ((3 * om) + 1) v9_10) ((3 * om) + 2) v9_19), hR1.2.1.trans hf10_1, by omega, rfl⟩
              · subst r_17
                refine V_to (ws2 := [(h7, .inl (gI g, 123, .inl (upd (upd od (3 * om) 100) ((3 * om) + 1) v9_10))), (h0, .inr (10, [.ref h1, .ref h2, .ref h3, .ref h4, .int pm, .ref h5, .ref h6, .int (nI ty), .ref h7, .int (nI om), .int (nI (((sp + 1) + 1) + 1)), .int (nI ((sp + 1) + 1))])), (h6, .inl (gC g, 80, .inl pd))]) ?_ rfl
                exact absurd hf20_0 (nI_ne6 (by omega))
              · refine V_to (ws2 := [(h7, .inl (gI g, 123, .inl (upd (upd od (3 * om) 100) ((3 * om) + 1) v9_10))), (h0, .inr (10, [.ref h1, .ref h2, .ref h3, .ref h4, .int pm, .ref h5, .ref h6, .int (nI ty), .ref h7, .int (nI om), .int (nI i9_22), .int (-6)])), (h6, .inl (gC g, 80, .inl pd))]) ?_ rfl
                exact absurd hf22_0 (nI_ne6 (by omega))
            · refine V_to (ws2 := [(h7, .inl (gI g, 123, .inl (upd (upd od (3 * om) 100) ((3 * om) + 1) v9_10))), (h6, .inl (gC g, 80, .inl pd)), (h0, .inr (10, [.ref h1, .ref h2, .ref h3, .ref h4, .int pm, .ref h5, .ref h6, .int (nI ty), .ref h7, .int (nI om), .int (nI (((sp + 1) + 1) + 1)), .int (nI ((sp + 1) + 1))]))]) ?_ rfl
              exact absurd hf16_0 (nI_ne6 (by omega))
            · refine V_to (ws2 := [(h7, .inl (gI g, 123, .inl (upd (upd od (3 * om) 100) ((3 * om) + 1) v9_10))), (h6, .inl (gC g, 80, .inl pd)), (h0, .inr (10, [.ref h1, .ref h2, .ref h3, .ref h4, .int pm, .ref h5, .ref h6, .int (nI ty), .ref h7, .int (nI om), .int (nI (((sp + 1) + 1) + 1)), .int (-6)]))]) ?_ rfl
              exact absurd hf16_0 (nI_ne6 (by omega))
          · refine V_iconst (v := 1) C dX10_readOrder_104 (by decide) ?_
            refine V_goto (tgt := 109) C dX10_readOrder_105 (by decide) ?_
            refine V_callVv (q0 := 1) (na := 1) (As := [.int 1]) (rest := []) (wr := [(h7, .inl (gI g, 123, .inl (upd (upd od (3 * om) 100) ((3 * om) + 1) v9_10))), (h6, .inl (gC g, 80, .inl pd))]) C (c_X10_wants g h0 h1 h2 h3 h4 h5 h6 h7 pm (nI ty) (nI om) ((sp + 1) + 1) (nI (sp + 1)) 1 (show ((sp + 1) + 1) ≤ 1000 from by first | assumption | omega | exact ix_nI (by omega) (by omega) | decide)) ⟨⟨ini_X10, co_X10_wants, ⟨by decide, by decide, by decide +kernel⟩, by decide⟩, ml_X10_128, im_X10_wants, se_X10_wants⟩ [1] [0, 2] rfl rfl rfl rfl (by decide) rfl rfl rfl rfl (Nat.le_of_ble_eq_true rfl) (by omega) (by omega) dX10_readOrder_109 (fun w_ hw_24 => ?_)
            rcases hw_24 with ⟨hf24_0, rfl⟩ | ⟨hf24_0, hf24_1, rfl⟩ | ⟨hf24_0, hf24_1, rfl⟩
            · refine V_to (ws2 := [(h7, .inl (gI g, 123, .inl (upd (upd od (3 * om) 100) ((3 * om) + 1) v9_10))), (h6, .inl (gC g, 80, .inl pd)), (h0, .inr (10, [.ref h1, .ref h2, .ref h3, .ref h4, .int pm, .ref h5, .ref h6, .int (nI ty), .ref h7, .int (nI om), .int (nI ((sp + 1) + 1)), .int (nI (sp + 1))]))]) ?_ rfl
              refine V_aload_n C 2 dX10_readOrder_112 rfl rfl ?_
              refine V_get (v := .ref h7) C 2 rfl rfl in_X10 8 (by decide) fl_X10_30 rfl rfl dX10_readOrder_113 ?_
              refine V_iload_n C 1 dX10_readOrder_116 rfl rfl ?_
              refine V_iconst (v := 2) C dX10_readOrder_117 (by decide) ?_
              refine V_iadd C dX10_readOrder_118 ?_
              refine V_ev (show ((nI (3 * om)) + 2 : Int32) = nI ((3 * om) + 2) from nI_add (3 * om) 2) ?_
              refine V_aload_n C 2 dX10_readOrder_119 rfl rfl ?_
              refine V_callVi (q0 := 2) (na := 0) (As := []) (rest := [.int (nI ((3 * om) + 2)), .ref h7]) (wr := [(h7, .inl (gI g, 123, .inl (upd (upd od (3 * om) 100) ((3 * om) + 1) v9_10)))]) C (c_X10_number g h0 h1 h2 h3 h4 h5 h6 h7 pm ty (nI om) ((sp + 1) + 1) (nI (sp + 1)) pd (100, 0, -1, 2) (show ty ≤ 80 from by first | assumption | omega | exact ix_nI (by omega) (by omega) | decide) (show ((sp + 1) + 1) ≤ 900 from by first | assumption | omega | exact ix_nI (by omega) (by omega) | decide) (show PDok pd ty from by first | assumption | omega | exact ix_nI (by omega) (by omega) | decide) (fun q9 => absurd q9 (nI_ne6 (by omega)))) ⟨⟨ini_X10, co_X10_number, ⟨by decide, by decide, by decide +kernel⟩, by decide⟩, ml_X10_135, im_X10_number, se_X10_number⟩ [2, 1] [0] rfl rfl rfl rfl (by decide) rfl rfl rfl rfl (Nat.le_of_ble_eq_true rfl) (by omega) (by omega) dX10_readOrder_120 (fun r_25 w_ hw_26 => ?_)
              rcases hw_26 with ⟨v9_27, hf27_0, hrr, rfl⟩ | ⟨v9_28, hf28_0, hf28_1, hrr, rfl⟩ | ⟨V9_29, i9_30, hf30_0, hf30_1, hf30_2, hf30_3, hf30_4, rfl, rfl⟩
              · subst r_25
                refine V_to (ws2 := [(h7, .inl (gI g, 123, .inl (upd (upd od (3 * om) 100) ((3 * om) + 1) v9_10))), (h0, .inr (10, [.ref h1, .ref h2, .ref h3, .ref h4, .int pm, .ref h5, .ref h6, .int (nI ty), .ref h7, .int (nI om), .int (nI ((sp + 1) + 1)), .int (nI (sp + 1))])), (h6, .inl (gC g, 80, .inl pd))]) ?_ rfl
                refine V_iast (ws2 := [(h7, .inl (gI g, 123, .inl (upd (upd (upd od (3 * om) 100) ((3 * om) + 1) v9_10) ((3 * om) + 2) v9_27))), (h0, .inr (10, [.ref h1, .ref h2, .ref h3, .ref h4, .int pm, .ref h5, .ref h6, .int (nI ty), .ref h7, .int (nI om), .int (nI ((sp + 1) + 1)), .int (nI (sp + 1))])), (h6, .inl (gC g, 80, .inl pd))]) C 0 rfl (ix_nI (show (3 * om) + 2 < 123 by omega) (by omega)) dX10_readOrder_123 rfl ?_
                refine V_aload_n C 2 dX10_readOrder_124 rfl rfl ?_
                refine V_dup C dX10_readOrder_125 rfl ?_
                refine V_get (v := .int (nI om)) C 1 rfl rfl in_X10 9 (by decide) fl_X10_132 rfl rfl dX10_readOrder_126 ?_
                refine V_iconst (v := 1) C dX10_readOrder_129 (by decide) ?_
                refine V_iadd C dX10_readOrder_130 ?_
                refine V_ev (show ((nI om) + 1 : Int32) = nI (om + 1) from nI_add om 1) ?_
                refine V_put (ty := .int) (ws2 := [(h7, .inl (gI g, 123, .inl (upd (upd (upd od (3 * om) 100) ((3 * om) + 1) v9_10) ((3 * om) + 2) v9_27))), (h0, .inr (10, [.ref h1, .ref h2, .ref h3, .ref h4, .int pm, .ref h5, .ref h6, .int (nI ty), .ref h7, .int (nI (om + 1)), .int (nI ((sp + 1) + 1)), .int (nI (sp + 1))])), (h6, .inl (gC g, 80, .inl pd))]) C 1 rfl rfl in_X10 tyX10 tyX10_ok nmX10 9 (by decide) fl_X10_132 rfl rfl (by decide +kernel) rfl rfl (Nat.le_of_ble_eq_true rfl) dX10_readOrder_131 rfl ?_
                refine V_perm (ws2 := [(h0, .inr (10, [.ref h1, .ref h2, .ref h3, .ref h4, .int pm, .ref h5, .ref h6, .int (nI ty), .ref h7, .int (nI (om + 1)), .int (nI ((sp + 1) + 1)), .int (nI (sp + 1))])), (h6, .inl (gC g, 80, .inl pd)), (h7, .inl (gI g, 123, .inl (upd (upd (upd od (3 * om) 100) ((3 * om) + 1) v9_10) ((3 * om) + 2) v9_27)))]) [1, 2, 0] rfl rfl ?_
                refine hret _ _ _ dX10_readOrder_134 ?_
                exact Or.inl ⟨(sp + 1), (upd (upd (upd od (3 * om) 100) ((3 * om) + 1) v9_10) ((3 * om) + 2) v9_27), hR1.2.1.trans hf10_1, by omega, rfl⟩
              · subst r_25
                refine V_to (ws2 := [(h7, .inl (gI g, 123, .inl (upd (upd od (3 * om) 100) ((3 * om) + 1) v9_10))), (h0, .inr (10, [.ref h1, .ref h2, .ref h3, .ref h4, .int pm, .ref h5, .ref h6, .int (nI ty), .ref h7, .int (nI om), .int (nI (((sp + 1) + 1) + 1)), .int (nI ((sp + 1) + 1))])), (h6, .inl (gC g, 80, .inl pd))]) ?_ rfl
                exact absurd hf28_0 (nI_ne6 (by omega))
              · refine V_to (ws2 := [(h7, .inl (gI g, 123, .inl (upd (upd od (3 * om) 100) ((3 * om) + 1) v9_10))), (h0, .inr (10, [.ref h1, .ref h2, .ref h3, .ref h4, .int pm, .ref h5, .ref h6, .int (nI ty), .ref h7, .int (nI om), .int (nI i9_30), .int (-6)])), (h6, .inl (gC g, 80, .inl pd))]) ?_ rfl
                exact absurd hf30_0 (nI_ne6 (by omega))
            · refine V_to (ws2 := [(h7, .inl (gI g, 123, .inl (upd (upd od (3 * om) 100) ((3 * om) + 1) v9_10))), (h6, .inl (gC g, 80, .inl pd)), (h0, .inr (10, [.ref h1, .ref h2, .ref h3, .ref h4, .int pm, .ref h5, .ref h6, .int (nI ty), .ref h7, .int (nI om), .int (nI (((sp + 1) + 1) + 1)), .int (nI ((sp + 1) + 1))]))]) ?_ rfl
              exact absurd hf24_0 (nI_ne6 (by omega))
            · refine V_to (ws2 := [(h7, .inl (gI g, 123, .inl (upd (upd od (3 * om) 100) ((3 * om) + 1) v9_10))), (h6, .inl (gC g, 80, .inl pd)), (h0, .inr (10, [.ref h1, .ref h2, .ref h3, .ref h4, .int pm, .ref h5, .ref h6, .int (nI ty), .ref h7, .int (nI om), .int (nI (((sp + 1) + 1) + 1)), .int (-6)]))]) ?_ rfl
              exact absurd hf24_0 (nI_ne6 (by omega))
        · refine V_to (ws2 := [(h7, .inl (gI g, 123, .inl (upd od (3 * om) 100))), (h0, .inr (10, [.ref h1, .ref h2, .ref h3, .ref h4, .int pm, .ref h5, .ref h6, .int (nI ty), .ref h7, .int (nI om), .int (nI i9_12), .int (-6)])), (h6, .inl (gC g, 80, .inl pd))]) ?_ rfl
          refine V_iast (ws2 := [(h7, .inl (gI g, 123, .inl (upd (upd od (3 * om) 100) ((3 * om) + 1) (nI V9_11)))), (h0, .inr (10, [.ref h1, .ref h2, .ref h3, .ref h4, .int pm, .ref h5, .ref h6, .int (nI ty), .ref h7, .int (nI om), .int (nI i9_12), .int (-6)])), (h6, .inl (gC g, 80, .inl pd))]) C 0 rfl (ix_nI (show (3 * om) + 1 < 123 by omega) (by omega)) dX10_readOrder_87 rfl ?_
          have hle9 := hf12_3.1
          refine V_iload_n C 0 dX10_readOrder_88 rfl rfl ?_
          refine V_bipush (v := 100) C dX10_readOrder_89 (by decide) ?_
          refine V_icmp_ne (tgt := 124) C dX10_readOrder_91 (by decide) (fun h => absurd rfl h) (fun _ => ?_)
          refine V_aload_n C 2 dX10_readOrder_94 rfl rfl ?_
          refine V_aload_n C 2 dX10_readOrder_95 rfl rfl ?_
          refine V_callVi (q0 := 1) (na := 0) (As := []) (rest := [.ref h0]) (wr := [(h7, .inl (gI g, 123, .inl (upd (upd od (3 * om) 100) ((3 * om) + 1) (nI V9_11))))]) C (c_X10_letter g h0 h1 h2 h3 h4 h5 h6 h7 pm ty (nI om) i9_12 (-6) pd (show ty ≤ 80 from by first | assumption | omega | exact ix_nI (by omega) (by omega) | decide) (show i9_12 ≤ 1000 from by first | assumption | omega | exact ix_nI (by omega) (by omega) | decide)) ⟨⟨ini_X10, co_X10_letter, ⟨by decide, by decide, by decide +kernel⟩, by decide⟩, ml_X10_125, im_X10_letter, se_X10_letter⟩ [1, 2] [0] rfl rfl rfl rfl (by decide) rfl rfl rfl rfl (Nat.le_of_ble_eq_true rfl) (by omega) (by omega) dX10_readOrder_96 (fun r_31 w_ hw_32 => ?_)
          obtain ⟨rfl, rfl⟩ := hw_32
          refine V_to (ws2 := [(h7, .inl (gI g, 123, .inl (upd (upd od (3 * om) 100) ((3 * om) + 1) (nI V9_11)))), (h0, .inr (10, [.ref h1, .ref h2, .ref h3, .ref h4, .int pm, .ref h5, .ref h6, .int (nI ty), .ref h7, .int (nI om), .int (nI i9_12), .int (-6)])), (h6, .inl (gC g, 80, .inl pd))]) ?_ rfl
          refine V_bipush (v := 47) C dX10_readOrder_99 (by decide) ?_
          refine V_icmp_ne (tgt := 108) C dX10_readOrder_101 (by decide) (fun c_101 => ?_) (fun c_101 => ?_)
          · refine V_iconst (v := 0) C dX10_readOrder_108 (by decide) ?_
            refine V_callVv (q0 := 1) (na := 1) (As := [.int 0]) (rest := []) (wr := [(h7, .inl (gI g, 123, .inl (upd (upd od (3 * om) 100) ((3 * om) + 1) (nI V9_11)))), (h6, .inl (gC g, 80, .inl pd))]) C (c_X10_wants g h0 h1 h2 h3 h4 h5 h6 h7 pm (nI ty) (nI om) i9_12 (-6) 0 (show i9_12 ≤ 1000 from by first | assumption | omega | exact ix_nI (by omega) (by omega) | decide)) ⟨⟨ini_X10, co_X10_wants, ⟨by decide, by decide, by decide +kernel⟩, by decide⟩, ml_X10_128, im_X10_wants, se_X10_wants⟩ [1] [0, 2] rfl rfl rfl rfl (by decide) rfl rfl rfl rfl (Nat.le_of_ble_eq_true rfl) (by omega) (by omega) dX10_readOrder_109 (fun w_ hw_34 => ?_)
            rcases hw_34 with ⟨hf34_0, rfl⟩ | ⟨hf34_0, hf34_1, rfl⟩ | ⟨hf34_0, hf34_1, rfl⟩
            · refine V_to (ws2 := [(h7, .inl (gI g, 123, .inl (upd (upd od (3 * om) 100) ((3 * om) + 1) (nI V9_11)))), (h6, .inl (gC g, 80, .inl pd)), (h0, .inr (10, [.ref h1, .ref h2, .ref h3, .ref h4, .int pm, .ref h5, .ref h6, .int (nI ty), .ref h7, .int (nI om), .int (nI i9_12), .int (-6)]))]) ?_ rfl
              exact absurd rfl hf34_0
            · refine V_to (ws2 := [(h7, .inl (gI g, 123, .inl (upd (upd od (3 * om) 100) ((3 * om) + 1) (nI V9_11)))), (h6, .inl (gC g, 80, .inl pd)), (h0, .inr (10, [.ref h1, .ref h2, .ref h3, .ref h4, .int pm, .ref h5, .ref h6, .int (nI ty), .ref h7, .int (nI om), .int (nI (i9_12 + 1)), .int (nI i9_12)]))]) ?_ rfl
              refine V_aload_n C 2 dX10_readOrder_112 rfl rfl ?_
              refine V_get (v := .ref h7) C 2 rfl rfl in_X10 8 (by decide) fl_X10_30 rfl rfl dX10_readOrder_113 ?_
              refine V_iload_n C 1 dX10_readOrder_116 rfl rfl ?_
              refine V_iconst (v := 2) C dX10_readOrder_117 (by decide) ?_
              refine V_iadd C dX10_readOrder_118 ?_
              refine V_ev (show ((nI (3 * om)) + 2 : Int32) = nI ((3 * om) + 2) from nI_add (3 * om) 2) ?_
              refine V_aload_n C 2 dX10_readOrder_119 rfl rfl ?_
              refine V_callVi (q0 := 2) (na := 0) (As := []) (rest := [.int (nI ((3 * om) + 2)), .ref h7]) (wr := [(h7, .inl (gI g, 123, .inl (upd (upd od (3 * om) 100) ((3 * om) + 1) (nI V9_11))))]) C (c_X10_number g h0 h1 h2 h3 h4 h5 h6 h7 pm ty (nI om) (i9_12 + 1) (nI i9_12) pd (100, nI V9_11, -1, 2) (show ty ≤ 80 from by first | assumption | omega | exact ix_nI (by omega) (by omega) | decide) (show (i9_12 + 1) ≤ 900 from by first | assumption | omega | exact ix_nI (by omega) (by omega) | decide) (show PDok pd ty from by first | assumption | omega | exact ix_nI (by omega) (by omega) | decide) (fun q9 => absurd q9 (nI_ne6 (by omega)))) ⟨⟨ini_X10, co_X10_number, ⟨by decide, by decide, by decide +kernel⟩, by decide⟩, ml_X10_135, im_X10_number, se_X10_number⟩ [2, 1] [0] rfl rfl rfl rfl (by decide) rfl rfl rfl rfl (Nat.le_of_ble_eq_true rfl) (by omega) (by omega) dX10_readOrder_120 (fun r_35 w_ hw_36 => ?_)
              rcases hw_36 with ⟨v9_37, hf37_0, hrr, rfl⟩ | ⟨v9_38, hf38_0, hf38_1, hrr, rfl⟩ | ⟨V9_39, i9_40, hf40_0, hf40_1, hf40_2, hf40_3, hf40_4, rfl, rfl⟩
              · subst r_35
                refine V_to (ws2 := [(h7, .inl (gI g, 123, .inl (upd (upd od (3 * om) 100) ((3 * om) + 1) (nI V9_11)))), (h0, .inr (10, [.ref h1, .ref h2, .ref h3, .ref h4, .int pm, .ref h5, .ref h6, .int (nI ty), .ref h7, .int (nI om), .int (nI (i9_12 + 1)), .int (nI i9_12)])), (h6, .inl (gC g, 80, .inl pd))]) ?_ rfl
                refine V_iast (ws2 := [(h7, .inl (gI g, 123, .inl (upd (upd (upd od (3 * om) 100) ((3 * om) + 1) (nI V9_11)) ((3 * om) + 2) v9_37))), (h0, .inr (10, [.ref h1, .ref h2, .ref h3, .ref h4, .int pm, .ref h5, .ref h6, .int (nI ty), .ref h7, .int (nI om), .int (nI (i9_12 + 1)), .int (nI i9_12)])), (h6, .inl (gC g, 80, .inl pd))]) C 0 rfl (ix_nI (show (3 * om) + 2 < 123 by omega) (by omega)) dX10_readOrder_123 rfl ?_
                refine V_aload_n C 2 dX10_readOrder_124 rfl rfl ?_
                refine V_dup C dX10_readOrder_125 rfl ?_
                refine V_get (v := .int (nI om)) C 1 rfl rfl in_X10 9 (by decide) fl_X10_132 rfl rfl dX10_readOrder_126 ?_
                refine V_iconst (v := 1) C dX10_readOrder_129 (by decide) ?_
                refine V_iadd C dX10_readOrder_130 ?_
                refine V_ev (show ((nI om) + 1 : Int32) = nI (om + 1) from nI_add om 1) ?_
                refine V_put (ty := .int) (ws2 := [(h7, .inl (gI g, 123, .inl (upd (upd (upd od (3 * om) 100) ((3 * om) + 1) (nI V9_11)) ((3 * om) + 2) v9_37))), (h0, .inr (10, [.ref h1, .ref h2, .ref h3, .ref h4, .int pm, .ref h5, .ref h6, .int (nI ty), .ref h7, .int (nI (om + 1)), .int (nI (i9_12 + 1)), .int (nI i9_12)])), (h6, .inl (gC g, 80, .inl pd))]) C 1 rfl rfl in_X10 tyX10 tyX10_ok nmX10 9 (by decide) fl_X10_132 rfl rfl (by decide +kernel) rfl rfl (Nat.le_of_ble_eq_true rfl) dX10_readOrder_131 rfl ?_
                refine V_perm (ws2 := [(h0, .inr (10, [.ref h1, .ref h2, .ref h3, .ref h4, .int pm, .ref h5, .ref h6, .int (nI ty), .ref h7, .int (nI (om + 1)), .int (nI (i9_12 + 1)), .int (nI i9_12)])), (h6, .inl (gC g, 80, .inl pd)), (h7, .inl (gI g, 123, .inl (upd (upd (upd od (3 * om) 100) ((3 * om) + 1) (nI V9_11)) ((3 * om) + 2) v9_37)))]) [1, 2, 0] rfl rfl ?_
                refine hret _ _ _ dX10_readOrder_134 ?_
                exact Or.inl ⟨i9_12, (upd (upd (upd od (3 * om) 100) ((3 * om) + 1) (nI V9_11)) ((3 * om) + 2) v9_37), (hR1.tr hf12_3).2.1.trans (st_bad hf12_3.1 hpd hf12_4 c_101), by omega, rfl⟩
              · subst r_35
                refine V_to (ws2 := [(h7, .inl (gI g, 123, .inl (upd (upd od (3 * om) 100) ((3 * om) + 1) (nI V9_11)))), (h0, .inr (10, [.ref h1, .ref h2, .ref h3, .ref h4, .int pm, .ref h5, .ref h6, .int (nI ty), .ref h7, .int (nI om), .int (nI ((i9_12 + 1) + 1)), .int (nI (i9_12 + 1))])), (h6, .inl (gC g, 80, .inl pd))]) ?_ rfl
                exact absurd hf38_0 (nI_ne6 (by omega))
              · refine V_to (ws2 := [(h7, .inl (gI g, 123, .inl (upd (upd od (3 * om) 100) ((3 * om) + 1) (nI V9_11)))), (h0, .inr (10, [.ref h1, .ref h2, .ref h3, .ref h4, .int pm, .ref h5, .ref h6, .int (nI ty), .ref h7, .int (nI om), .int (nI i9_40), .int (-6)])), (h6, .inl (gC g, 80, .inl pd))]) ?_ rfl
                exact absurd hf40_0 (nI_ne6 (by omega))
            · refine V_to (ws2 := [(h7, .inl (gI g, 123, .inl (upd (upd od (3 * om) 100) ((3 * om) + 1) (nI V9_11)))), (h6, .inl (gC g, 80, .inl pd)), (h0, .inr (10, [.ref h1, .ref h2, .ref h3, .ref h4, .int pm, .ref h5, .ref h6, .int (nI ty), .ref h7, .int (nI om), .int (nI (i9_12 + 1)), .int (-6)]))]) ?_ rfl
              exact absurd rfl hf34_1
          · refine V_iconst (v := 1) C dX10_readOrder_104 (by decide) ?_
            refine V_goto (tgt := 109) C dX10_readOrder_105 (by decide) ?_
            refine V_callVv (q0 := 1) (na := 1) (As := [.int 1]) (rest := []) (wr := [(h7, .inl (gI g, 123, .inl (upd (upd od (3 * om) 100) ((3 * om) + 1) (nI V9_11)))), (h6, .inl (gC g, 80, .inl pd))]) C (c_X10_wants g h0 h1 h2 h3 h4 h5 h6 h7 pm (nI ty) (nI om) i9_12 (-6) 1 (show i9_12 ≤ 1000 from by first | assumption | omega | exact ix_nI (by omega) (by omega) | decide)) ⟨⟨ini_X10, co_X10_wants, ⟨by decide, by decide, by decide +kernel⟩, by decide⟩, ml_X10_128, im_X10_wants, se_X10_wants⟩ [1] [0, 2] rfl rfl rfl rfl (by decide) rfl rfl rfl rfl (Nat.le_of_ble_eq_true rfl) (by omega) (by omega) dX10_readOrder_109 (fun w_ hw_42 => ?_)
            rcases hw_42 with ⟨hf42_0, rfl⟩ | ⟨hf42_0, hf42_1, rfl⟩ | ⟨hf42_0, hf42_1, rfl⟩
            · refine V_to (ws2 := [(h7, .inl (gI g, 123, .inl (upd (upd od (3 * om) 100) ((3 * om) + 1) (nI V9_11)))), (h6, .inl (gC g, 80, .inl pd)), (h0, .inr (10, [.ref h1, .ref h2, .ref h3, .ref h4, .int pm, .ref h5, .ref h6, .int (nI ty), .ref h7, .int (nI om), .int (nI i9_12), .int (-6)]))]) ?_ rfl
              exact absurd rfl hf42_0
            · refine V_to (ws2 := [(h7, .inl (gI g, 123, .inl (upd (upd od (3 * om) 100) ((3 * om) + 1) (nI V9_11)))), (h6, .inl (gC g, 80, .inl pd)), (h0, .inr (10, [.ref h1, .ref h2, .ref h3, .ref h4, .int pm, .ref h5, .ref h6, .int (nI ty), .ref h7, .int (nI om), .int (nI (i9_12 + 1)), .int (nI i9_12)]))]) ?_ rfl
              exact absurd hf42_1 (by decide)
            · refine V_to (ws2 := [(h7, .inl (gI g, 123, .inl (upd (upd od (3 * om) 100) ((3 * om) + 1) (nI V9_11)))), (h6, .inl (gC g, 80, .inl pd)), (h0, .inr (10, [.ref h1, .ref h2, .ref h3, .ref h4, .int pm, .ref h5, .ref h6, .int (nI ty), .ref h7, .int (nI om), .int (nI (i9_12 + 1)), .int (-6)]))]) ?_ rfl
              refine V_aload_n C 2 dX10_readOrder_112 rfl rfl ?_
              obtain ⟨hlt3, hpc3⟩ := ltr_lit c_101 (by decide)
              have hR3 : RCH pd ty i9_12 (100, s5.2.1, nI V9_11, 1) (i9_12 + 1) (100, nI V9_11, -1, 2) := RCH.st hlt3 (by rw [hpc3]; exact take_st rfl rfl (nI_nm1 (by omega))) (by rw [hpc3]; decide)
              refine V_get (v := .ref h7) C 2 rfl rfl in_X10 8 (by decide) fl_X10_30 rfl rfl dX10_readOrder_113 ?_
              refine V_iload_n C 1 dX10_readOrder_116 rfl rfl ?_
              refine V_iconst (v := 2) C dX10_readOrder_117 (by decide) ?_
              refine V_iadd C dX10_readOrder_118 ?_
              refine V_ev (show ((nI (3 * om)) + 2 : Int32) = nI ((3 * om) + 2) from nI_add (3 * om) 2) ?_
              refine V_aload_n C 2 dX10_readOrder_119 rfl rfl ?_
              refine V_callVi (q0 := 2) (na := 0) (As := []) (rest := [.int (nI ((3 * om) + 2)), .ref h7]) (wr := [(h7, .inl (gI g, 123, .inl (upd (upd od (3 * om) 100) ((3 * om) + 1) (nI V9_11))))]) C (c_X10_number g h0 h1 h2 h3 h4 h5 h6 h7 pm ty (nI om) (i9_12 + 1) (-6) pd (100, nI V9_11, -1, 2) (show ty ≤ 80 from by first | assumption | omega | exact ix_nI (by omega) (by omega) | decide) (show (i9_12 + 1) ≤ 900 from by first | assumption | omega | exact ix_nI (by omega) (by omega) | decide) (show PDok pd ty from by first | assumption | omega | exact ix_nI (by omega) (by omega) | decide) (fun _ => ⟨by omega, Or.inr rfl, rfl⟩)) ⟨⟨ini_X10, co_X10_number, ⟨by decide, by decide, by decide +kernel⟩, by decide⟩, ml_X10_135, im_X10_number, se_X10_number⟩ [2, 1] [0] rfl rfl rfl rfl (by decide) rfl rfl rfl rfl (Nat.le_of_ble_eq_true rfl) (by omega) (by omega) dX10_readOrder_120 (fun r_43 w_ hw_44 => ?_)
              rcases hw_44 with ⟨v9_45, hf45_0, hrr, rfl⟩ | ⟨v9_46, hf46_0, hf46_1, hrr, rfl⟩ | ⟨V9_47, i9_48, hf48_0, hf48_1, hf48_2, hf48_3, hf48_4, rfl, rfl⟩
              · subst r_43
                refine V_to (ws2 := [(h7, .inl (gI g, 123, .inl (upd (upd od (3 * om) 100) ((3 * om) + 1) (nI V9_11)))), (h0, .inr (10, [.ref h1, .ref h2, .ref h3, .ref h4, .int pm, .ref h5, .ref h6, .int (nI ty), .ref h7, .int (nI om), .int (nI (i9_12 + 1)), .int (-6)])), (h6, .inl (gC g, 80, .inl pd))]) ?_ rfl
                exact absurd rfl hf45_0
              · subst r_43
                refine V_to (ws2 := [(h7, .inl (gI g, 123, .inl (upd (upd od (3 * om) 100) ((3 * om) + 1) (nI V9_11)))), (h0, .inr (10, [.ref h1, .ref h2, .ref h3, .ref h4, .int pm, .ref h5, .ref h6, .int (nI ty), .ref h7, .int (nI om), .int (nI ((i9_12 + 1) + 1)), .int (nI (i9_12 + 1))])), (h6, .inl (gC g, 80, .inl pd))]) ?_ rfl
                refine V_iast (ws2 := [(h7, .inl (gI g, 123, .inl (upd (upd (upd od (3 * om) 100) ((3 * om) + 1) (nI V9_11)) ((3 * om) + 2) v9_46))), (h0, .inr (10, [.ref h1, .ref h2, .ref h3, .ref h4, .int pm, .ref h5, .ref h6, .int (nI ty), .ref h7, .int (nI om), .int (nI ((i9_12 + 1) + 1)), .int (nI (i9_12 + 1))])), (h6, .inl (gC g, 80, .inl pd))]) C 0 rfl (ix_nI (show (3 * om) + 2 < 123 by omega) (by omega)) dX10_readOrder_123 rfl ?_
                refine V_aload_n C 2 dX10_readOrder_124 rfl rfl ?_
                refine V_dup C dX10_readOrder_125 rfl ?_
                refine V_get (v := .int (nI om)) C 1 rfl rfl in_X10 9 (by decide) fl_X10_132 rfl rfl dX10_readOrder_126 ?_
                refine V_iconst (v := 1) C dX10_readOrder_129 (by decide) ?_
                refine V_iadd C dX10_readOrder_130 ?_
                refine V_ev (show ((nI om) + 1 : Int32) = nI (om + 1) from nI_add om 1) ?_
                refine V_put (ty := .int) (ws2 := [(h7, .inl (gI g, 123, .inl (upd (upd (upd od (3 * om) 100) ((3 * om) + 1) (nI V9_11)) ((3 * om) + 2) v9_46))), (h0, .inr (10, [.ref h1, .ref h2, .ref h3, .ref h4, .int pm, .ref h5, .ref h6, .int (nI ty), .ref h7, .int (nI (om + 1)), .int (nI ((i9_12 + 1) + 1)), .int (nI (i9_12 + 1))])), (h6, .inl (gC g, 80, .inl pd))]) C 1 rfl rfl in_X10 tyX10 tyX10_ok nmX10 9 (by decide) fl_X10_132 rfl rfl (by decide +kernel) rfl rfl (Nat.le_of_ble_eq_true rfl) dX10_readOrder_131 rfl ?_
                refine V_perm (ws2 := [(h0, .inr (10, [.ref h1, .ref h2, .ref h3, .ref h4, .int pm, .ref h5, .ref h6, .int (nI ty), .ref h7, .int (nI (om + 1)), .int (nI ((i9_12 + 1) + 1)), .int (nI (i9_12 + 1))])), (h6, .inl (gC g, 80, .inl pd)), (h7, .inl (gI g, 123, .inl (upd (upd (upd od (3 * om) 100) ((3 * om) + 1) (nI V9_11)) ((3 * om) + 2) v9_46)))]) [1, 2, 0] rfl rfl ?_
                refine hret _ _ _ dX10_readOrder_134 ?_
                exact Or.inl ⟨(i9_12 + 1), (upd (upd (upd od (3 * om) 100) ((3 * om) + 1) (nI V9_11)) ((3 * om) + 2) v9_46), ((hR1.tr hf12_3).tr (hR3)).2.1.trans hf46_1, by omega, rfl⟩
              · refine V_to (ws2 := [(h7, .inl (gI g, 123, .inl (upd (upd od (3 * om) 100) ((3 * om) + 1) (nI V9_11)))), (h0, .inr (10, [.ref h1, .ref h2, .ref h3, .ref h4, .int pm, .ref h5, .ref h6, .int (nI ty), .ref h7, .int (nI om), .int (nI i9_48), .int (-6)])), (h6, .inl (gC g, 80, .inl pd))]) ?_ rfl
                refine V_iast (ws2 := [(h7, .inl (gI g, 123, .inl (upd (upd (upd od (3 * om) 100) ((3 * om) + 1) (nI V9_11)) ((3 * om) + 2) (nI V9_47)))), (h0, .inr (10, [.ref h1, .ref h2, .ref h3, .ref h4, .int pm, .ref h5, .ref h6, .int (nI ty), .ref h7, .int (nI om), .int (nI i9_48), .int (-6)])), (h6, .inl (gC g, 80, .inl pd))]) C 0 rfl (ix_nI (show (3 * om) + 2 < 123 by omega) (by omega)) dX10_readOrder_123 rfl ?_
                refine V_aload_n C 2 dX10_readOrder_124 rfl rfl ?_
                refine V_dup C dX10_readOrder_125 rfl ?_
                refine V_get (v := .int (nI om)) C 1 rfl rfl in_X10 9 (by decide) fl_X10_132 rfl rfl dX10_readOrder_126 ?_
                refine V_iconst (v := 1) C dX10_readOrder_129 (by decide) ?_
                refine V_iadd C dX10_readOrder_130 ?_
                refine V_ev (show ((nI om) + 1 : Int32) = nI (om + 1) from nI_add om 1) ?_
                refine V_put (ty := .int) (ws2 := [(h7, .inl (gI g, 123, .inl (upd (upd (upd od (3 * om) 100) ((3 * om) + 1) (nI V9_11)) ((3 * om) + 2) (nI V9_47)))), (h0, .inr (10, [.ref h1, .ref h2, .ref h3, .ref h4, .int pm, .ref h5, .ref h6, .int (nI ty), .ref h7, .int (nI (om + 1)), .int (nI i9_48), .int (-6)])), (h6, .inl (gC g, 80, .inl pd))]) C 1 rfl rfl in_X10 tyX10 tyX10_ok nmX10 9 (by decide) fl_X10_132 rfl rfl (by decide +kernel) rfl rfl (Nat.le_of_ble_eq_true rfl) dX10_readOrder_131 rfl ?_
                refine V_perm (ws2 := [(h0, .inr (10, [.ref h1, .ref h2, .ref h3, .ref h4, .int pm, .ref h5, .ref h6, .int (nI ty), .ref h7, .int (nI (om + 1)), .int (nI i9_48), .int (-6)])), (h6, .inl (gC g, 80, .inl pd)), (h7, .inl (gI g, 123, .inl (upd (upd (upd od (3 * om) 100) ((3 * om) + 1) (nI V9_11)) ((3 * om) + 2) (nI V9_47))))]) [1, 2, 0] rfl rfl ?_
                refine hret _ _ _ dX10_readOrder_134 ?_
                exact Or.inr ⟨i9_48, (100, nI V9_11, nI V9_47, 2), (upd (upd (upd od (3 * om) 100) ((3 * om) + 1) (nI V9_11)) ((3 * om) + 2) (nI V9_47)), by omega, ((hR1.tr hf12_3).tr (hR3)).tr hf48_3, Or.inr ⟨rfl, nI_nm1 (by omega)⟩, hf48_4, ⟨(upd_n (by omega)).trans ((upd_n (by omega)).trans upd_s), show isL (100 : Int32) by decide, fun h9 => absurd h9 (show ¬ (100 : Int32) = 119 by decide), fun _ => ⟨(upd_n (by omega)).trans upd_s, upd_s⟩⟩, fun k hk => (upd_n (by omega)).trans ((upd_n (by omega)).trans (upd_n (by omega))), rfl⟩
    · refine V_iload_n C 0 dX10_readOrder_32 rfl rfl ?_
      refine V_bipush (v := 119) C dX10_readOrder_33 (by decide) ?_
      refine V_icmp_eq (tgt := 56) C dX10_readOrder_35 (by decide) (fun c_35 => ?_) (fun c_35 => ?_)
      · obtain ⟨hlt, hpc⟩ := ltr_lit c_35 (by decide)
        have hR1 : RCH pd ty sp s5 (sp + 1) (119, s5.2.1, -1, 2) := RCH.st hlt (by rw [hpc, take_L hs0 (by decide)]; rfl) (by rw [hpc]; decide)
        rw [c_35]
        refine V_iconst (v := 1) C dX10_readOrder_56 (by decide) ?_
        refine V_goto (tgt := 61) C dX10_readOrder_57 (by decide) ?_
        refine V_callVv (q0 := 1) (na := 1) (As := [.int 1]) (rest := []) (wr := [(h7, .inl (gI g, 123, .inl (upd od (3 * om) 119))), (h6, .inl (gC g, 80, .inl pd))]) C (c_X10_wants g h0 h1 h2 h3 h4 h5 h6 h7 pm (nI ty) (nI om) sp (-6) 1 (show sp ≤ 1000 from by first | assumption | omega | exact ix_nI (by omega) (by omega) | decide)) ⟨⟨ini_X10, co_X10_wants, ⟨by decide, by decide, by decide +kernel⟩, by decide⟩, ml_X10_128, im_X10_wants, se_X10_wants⟩ [1] [0, 2] rfl rfl rfl rfl (by decide) rfl rfl rfl rfl (Nat.le_of_ble_eq_true rfl) (by omega) (by omega) dX10_readOrder_61 (fun w_ hw_50 => ?_)
        rcases hw_50 with ⟨hf50_0, rfl⟩ | ⟨hf50_0, hf50_1, rfl⟩ | ⟨hf50_0, hf50_1, rfl⟩
        · refine V_to (ws2 := [(h7, .inl (gI g, 123, .inl (upd od (3 * om) 119))), (h6, .inl (gC g, 80, .inl pd)), (h0, .inr (10, [.ref h1, .ref h2, .ref h3, .ref h4, .int pm, .ref h5, .ref h6, .int (nI ty), .ref h7, .int (nI om), .int (nI sp), .int (-6)]))]) ?_ rfl
          exact absurd rfl hf50_0
        · refine V_to (ws2 := [(h7, .inl (gI g, 123, .inl (upd od (3 * om) 119))), (h6, .inl (gC g, 80, .inl pd)), (h0, .inr (10, [.ref h1, .ref h2, .ref h3, .ref h4, .int pm, .ref h5, .ref h6, .int (nI ty), .ref h7, .int (nI om), .int (nI (sp + 1)), .int (nI sp)]))]) ?_ rfl
          exact absurd hf50_1 (by decide)
        · refine V_to (ws2 := [(h7, .inl (gI g, 123, .inl (upd od (3 * om) 119))), (h6, .inl (gC g, 80, .inl pd)), (h0, .inr (10, [.ref h1, .ref h2, .ref h3, .ref h4, .int pm, .ref h5, .ref h6, .int (nI ty), .ref h7, .int (nI om), .int (nI (sp + 1)), .int (-6)]))]) ?_ rfl
          refine V_iload_n C 0 dX10_readOrder_64 rfl rfl ?_
          refine V_bipush (v := 100) C dX10_readOrder_65 (by decide) ?_
          refine V_icmp_eq (tgt := 76) C dX10_readOrder_67 (by decide) (fun h => absurd h (by decide)) (fun _ => ?_)
          refine V_iload_n C 0 dX10_readOrder_70 rfl rfl ?_
          refine V_bipush (v := 119) C dX10_readOrder_71 (by decide) ?_
          refine V_icmp_ne (tgt := 88) C dX10_readOrder_73 (by decide) (fun h => absurd rfl h) (fun _ => ?_)
          refine V_aload_n C 2 dX10_readOrder_76 rfl rfl ?_
          refine V_get (v := .ref h7) C 2 rfl rfl in_X10 8 (by decide) fl_X10_30 rfl rfl dX10_readOrder_77 ?_
          refine V_iload_n C 1 dX10_readOrder_80 rfl rfl ?_
          refine V_iconst (v := 1) C dX10_readOrder_81 (by decide) ?_
          refine V_iadd C dX10_readOrder_82 ?_
          refine V_ev (show ((nI (3 * om)) + 1 : Int32) = nI ((3 * om) + 1) from nI_add (3 * om) 1) ?_
          refine V_aload_n C 2 dX10_readOrder_83 rfl rfl ?_
          refine V_callVi (q0 := 2) (na := 0) (As := []) (rest := [.int (nI ((3 * om) + 1)), .ref h7]) (wr := [(h7, .inl (gI g, 123, .inl (upd od (3 * om) 119)))]) C (c_X10_number g h0 h1 h2 h3 h4 h5 h6 h7 pm ty (nI om) (sp + 1) (-6) pd (119, s5.2.1, -1, 2) (show ty ≤ 80 from by first | assumption | omega | exact ix_nI (by omega) (by omega) | decide) (show (sp + 1) ≤ 900 from by first | assumption | omega | exact ix_nI (by omega) (by omega) | decide) (show PDok pd ty from by first | assumption | omega | exact ix_nI (by omega) (by omega) | decide) (fun _ => ⟨by omega, Or.inr rfl, rfl⟩)) ⟨⟨ini_X10, co_X10_number, ⟨by decide, by decide, by decide +kernel⟩, by decide⟩, ml_X10_135, im_X10_number, se_X10_number⟩ [2, 1] [0] rfl rfl rfl rfl (by decide) rfl rfl rfl rfl (Nat.le_of_ble_eq_true rfl) (by omega) (by omega) dX10_readOrder_84 (fun r_51 w_ hw_52 => ?_)
          rcases hw_52 with ⟨v9_53, hf53_0, hrr, rfl⟩ | ⟨v9_54, hf54_0, hf54_1, hrr, rfl⟩ | ⟨V9_55, i9_56, hf56_0, hf56_1, hf56_2, hf56_3, hf56_4, rfl, rfl⟩
          · subst r_51
            refine V_to (ws2 := [(h7, .inl (gI g, 123, .inl (upd od (3 * om) 119))), (h0, .inr (10, [.ref h1, .ref h2, .ref h3, .ref h4, .int pm, .ref h5, .ref h6, .int (nI ty), .ref h7, .int (nI om), .int (nI (sp + 1)), .int (-6)])), (h6, .inl (gC g, 80, .inl pd))]) ?_ rfl
            exact absurd rfl hf53_0
          · subst r_51
            refine V_to (ws2 := [(h7, .inl (gI g, 123, .inl (upd od (3 * om) 119))), (h0, .inr (10, [.ref h1, .ref h2, .ref h3, .ref h4, .int pm, .ref h5, .ref h6, .int (nI ty), .ref h7, .int (nI om), .int (nI ((sp + 1) + 1)), .int (nI (sp + 1))])), (h6, .inl (gC g, 80, .inl pd))]) ?_ rfl
            refine V_iast (ws2 := [(h7, .inl (gI g, 123, .inl (upd (upd od (3 * om) 119) ((3 * om) + 1) v9_54))), (h0, .inr (10, [.ref h1, .ref h2, .ref h3, .ref h4, .int pm, .ref h5, .ref h6, .int (nI ty), .ref h7, .int (nI om), .int (nI ((sp + 1) + 1)), .int (nI (sp + 1))])), (h6, .inl (gC g, 80, .inl pd))]) C 0 rfl (ix_nI (show (3 * om) + 1 < 123 by omega) (by omega)) dX10_readOrder_87 rfl ?_
            refine V_iload_n C 0 dX10_readOrder_88 rfl rfl ?_
            refine V_bipush (v := 100) C dX10_readOrder_89 (by decide) ?_
            refine V_icmp_ne (tgt := 124) C dX10_readOrder_91 (by decide) (fun _ => ?_) (fun h => absurd h (by decide))
            refine V_aload_n C 2 dX10_readOrder_124 rfl rfl ?_
            refine V_dup C dX10_readOrder_125 rfl ?_
            refine V_get (v := .int (nI om)) C 1 rfl rfl in_X10 9 (by decide) fl_X10_132 rfl rfl dX10_readOrder_126 ?_
            refine V_iconst (v := 1) C dX10_readOrder_129 (by decide) ?_
            refine V_iadd C dX10_readOrder_130 ?_
            refine V_ev (show ((nI om) + 1 : Int32) = nI (om + 1) from nI_add om 1) ?_
            refine V_put (ty := .int) (ws2 := [(h7, .inl (gI g, 123, .inl (upd (upd od (3 * om) 119) ((3 * om) + 1) v9_54))), (h0, .inr (10, [.ref h1, .ref h2, .ref h3, .ref h4, .int pm, .ref h5, .ref h6, .int (nI ty), .ref h7, .int (nI (om + 1)), .int (nI ((sp + 1) + 1)), .int (nI (sp + 1))])), (h6, .inl (gC g, 80, .inl pd))]) C 1 rfl rfl in_X10 tyX10 tyX10_ok nmX10 9 (by decide) fl_X10_132 rfl rfl (by decide +kernel) rfl rfl (Nat.le_of_ble_eq_true rfl) dX10_readOrder_131 rfl ?_
            refine V_perm (ws2 := [(h0, .inr (10, [.ref h1, .ref h2, .ref h3, .ref h4, .int pm, .ref h5, .ref h6, .int (nI ty), .ref h7, .int (nI (om + 1)), .int (nI ((sp + 1) + 1)), .int (nI (sp + 1))])), (h6, .inl (gC g, 80, .inl pd)), (h7, .inl (gI g, 123, .inl (upd (upd od (3 * om) 119) ((3 * om) + 1) v9_54)))]) [1, 2, 0] rfl rfl ?_
            refine hret _ _ _ dX10_readOrder_134 ?_
            exact Or.inl ⟨(sp + 1), (upd (upd od (3 * om) 119) ((3 * om) + 1) v9_54), hR1.2.1.trans hf54_1, by omega, rfl⟩
          · refine V_to (ws2 := [(h7, .inl (gI g, 123, .inl (upd od (3 * om) 119))), (h0, .inr (10, [.ref h1, .ref h2, .ref h3, .ref h4, .int pm, .ref h5, .ref h6, .int (nI ty), .ref h7, .int (nI om), .int (nI i9_56), .int (-6)])), (h6, .inl (gC g, 80, .inl pd))]) ?_ rfl
            refine V_iast (ws2 := [(h7, .inl (gI g, 123, .inl (upd (upd od (3 * om) 119) ((3 * om) + 1) (nI V9_55)))), (h0, .inr (10, [.ref h1, .ref h2, .ref h3, .ref h4, .int pm, .ref h5, .ref h6, .int (nI ty), .ref h7, .int (nI om), .int (nI i9_56), .int (-6)])), (h6, .inl (gC g, 80, .inl pd))]) C 0 rfl (ix_nI (show (3 * om) + 1 < 123 by omega) (by omega)) dX10_readOrder_87 rfl ?_
            have hle9 := hf56_3.1
            refine V_iload_n C 0 dX10_readOrder_88 rfl rfl ?_
            refine V_bipush (v := 100) C dX10_readOrder_89 (by decide) ?_
            refine V_icmp_ne (tgt := 124) C dX10_readOrder_91 (by decide) (fun _ => ?_) (fun h => absurd h (by decide))
            refine V_aload_n C 2 dX10_readOrder_124 rfl rfl ?_
            refine V_dup C dX10_readOrder_125 rfl ?_
            refine V_get (v := .int (nI om)) C 1 rfl rfl in_X10 9 (by decide) fl_X10_132 rfl rfl dX10_readOrder_126 ?_
            refine V_iconst (v := 1) C dX10_readOrder_129 (by decide) ?_
            refine V_iadd C dX10_readOrder_130 ?_
            refine V_ev (show ((nI om) + 1 : Int32) = nI (om + 1) from nI_add om 1) ?_
            refine V_put (ty := .int) (ws2 := [(h7, .inl (gI g, 123, .inl (upd (upd od (3 * om) 119) ((3 * om) + 1) (nI V9_55)))), (h0, .inr (10, [.ref h1, .ref h2, .ref h3, .ref h4, .int pm, .ref h5, .ref h6, .int (nI ty), .ref h7, .int (nI (om + 1)), .int (nI i9_56), .int (-6)])), (h6, .inl (gC g, 80, .inl pd))]) C 1 rfl rfl in_X10 tyX10 tyX10_ok nmX10 9 (by decide) fl_X10_132 rfl rfl (by decide +kernel) rfl rfl (Nat.le_of_ble_eq_true rfl) dX10_readOrder_131 rfl ?_
            refine V_perm (ws2 := [(h0, .inr (10, [.ref h1, .ref h2, .ref h3, .ref h4, .int pm, .ref h5, .ref h6, .int (nI ty), .ref h7, .int (nI (om + 1)), .int (nI i9_56), .int (-6)])), (h6, .inl (gC g, 80, .inl pd)), (h7, .inl (gI g, 123, .inl (upd (upd od (3 * om) 119) ((3 * om) + 1) (nI V9_55))))]) [1, 2, 0] rfl rfl ?_
            refine hret _ _ _ dX10_readOrder_134 ?_
            exact Or.inr ⟨i9_56, (119, s5.2.1, nI V9_55, 2), (upd (upd od (3 * om) 119) ((3 * om) + 1) (nI V9_55)), by omega, hR1.tr hf56_3, Or.inr ⟨rfl, nI_nm1 (by omega)⟩, hf56_4, ⟨(upd_n (by omega)).trans upd_s, show isL (119 : Int32) by decide, fun _ => upd_s, fun h9 => absurd h9 (show ¬ (119 : Int32) = 100 by decide)⟩, fun k hk => (upd_n (by omega)).trans (upd_n (by omega)), rfl⟩
      · refine V_iload_n C 0 dX10_readOrder_38 rfl rfl ?_
        refine V_bipush (v := 115) C dX10_readOrder_39 (by decide) ?_
        refine V_icmp_eq (tgt := 56) C dX10_readOrder_41 (by decide) (fun c_41 => ?_) (fun c_41 => ?_)
        · obtain ⟨hlt, hpc⟩ := ltr_lit c_41 (by decide)
          have hR1 : RCH pd ty sp s5 (sp + 1) (115, s5.2.1, -1, 3) := RCH.st hlt (by rw [hpc, take_L hs0 (by decide)]; rfl) (by rw [hpc]; decide)
          rw [c_41]
          refine V_iconst (v := 1) C dX10_readOrder_56 (by decide) ?_
          refine V_goto (tgt := 61) C dX10_readOrder_57 (by decide) ?_
          refine V_callVv (q0 := 1) (na := 1) (As := [.int 1]) (rest := []) (wr := [(h7, .inl (gI g, 123, .inl (upd od (3 * om) 115))), (h6, .inl (gC g, 80, .inl pd))]) C (c_X10_wants g h0 h1 h2 h3 h4 h5 h6 h7 pm (nI ty) (nI om) sp (-6) 1 (show sp ≤ 1000 from by first | assumption | omega | exact ix_nI (by omega) (by omega) | decide)) ⟨⟨ini_X10, co_X10_wants, ⟨by decide, by decide, by decide +kernel⟩, by decide⟩, ml_X10_128, im_X10_wants, se_X10_wants⟩ [1] [0, 2] rfl rfl rfl rfl (by decide) rfl rfl rfl rfl (Nat.le_of_ble_eq_true rfl) (by omega) (by omega) dX10_readOrder_61 (fun w_ hw_58 => ?_)
          rcases hw_58 with ⟨hf58_0, rfl⟩ | ⟨hf58_0, hf58_1, rfl⟩ | ⟨hf58_0, hf58_1, rfl⟩
          · refine V_to (ws2 := [(h7, .inl (gI g, 123, .inl (upd od (3 * om) 115))), (h6, .inl (gC g, 80, .inl pd)), (h0, .inr (10, [.ref h1, .ref h2, .ref h3, .ref h4, .int pm, .ref h5, .ref h6, .int (nI ty), .ref h7, .int (nI om), .int (nI sp), .int (-6)]))]) ?_ rfl
            exact absurd rfl hf58_0
          · refine V_to (ws2 := [(h7, .inl (gI g, 123, .inl (upd od (3 * om) 115))), (h6, .inl (gC g, 80, .inl pd)), (h0, .inr (10, [.ref h1, .ref h2, .ref h3, .ref h4, .int pm, .ref h5, .ref h6, .int (nI ty), .ref h7, .int (nI om), .int (nI (sp + 1)), .int (nI sp)]))]) ?_ rfl
            exact absurd hf58_1 (by decide)
          · refine V_to (ws2 := [(h7, .inl (gI g, 123, .inl (upd od (3 * om) 115))), (h6, .inl (gC g, 80, .inl pd)), (h0, .inr (10, [.ref h1, .ref h2, .ref h3, .ref h4, .int pm, .ref h5, .ref h6, .int (nI ty), .ref h7, .int (nI om), .int (nI (sp + 1)), .int (-6)]))]) ?_ rfl
            refine V_iload_n C 0 dX10_readOrder_64 rfl rfl ?_
            refine V_bipush (v := 100) C dX10_readOrder_65 (by decide) ?_
            refine V_icmp_eq (tgt := 76) C dX10_readOrder_67 (by decide) (fun h => absurd h (by decide)) (fun _ => ?_)
            refine V_iload_n C 0 dX10_readOrder_70 rfl rfl ?_
            refine V_bipush (v := 119) C dX10_readOrder_71 (by decide) ?_
            refine V_icmp_ne (tgt := 88) C dX10_readOrder_73 (by decide) (fun _ => ?_) (fun h => absurd h (by decide))
            refine V_iload_n C 0 dX10_readOrder_88 rfl rfl ?_
            refine V_bipush (v := 100) C dX10_readOrder_89 (by decide) ?_
            refine V_icmp_ne (tgt := 124) C dX10_readOrder_91 (by decide) (fun _ => ?_) (fun h => absurd h (by decide))
            refine V_aload_n C 2 dX10_readOrder_124 rfl rfl ?_
            refine V_dup C dX10_readOrder_125 rfl ?_
            refine V_get (v := .int (nI om)) C 2 rfl rfl in_X10 9 (by decide) fl_X10_132 rfl rfl dX10_readOrder_126 ?_
            refine V_iconst (v := 1) C dX10_readOrder_129 (by decide) ?_
            refine V_iadd C dX10_readOrder_130 ?_
            refine V_ev (show ((nI om) + 1 : Int32) = nI (om + 1) from nI_add om 1) ?_
            refine V_put (ty := .int) (ws2 := [(h7, .inl (gI g, 123, .inl (upd od (3 * om) 115))), (h6, .inl (gC g, 80, .inl pd)), (h0, .inr (10, [.ref h1, .ref h2, .ref h3, .ref h4, .int pm, .ref h5, .ref h6, .int (nI ty), .ref h7, .int (nI (om + 1)), .int (nI (sp + 1)), .int (-6)]))]) C 2 rfl rfl in_X10 tyX10 tyX10_ok nmX10 9 (by decide) fl_X10_132 rfl rfl (by decide +kernel) rfl rfl (Nat.le_of_ble_eq_true rfl) dX10_readOrder_131 rfl ?_
            refine V_perm (ws2 := [(h0, .inr (10, [.ref h1, .ref h2, .ref h3, .ref h4, .int pm, .ref h5, .ref h6, .int (nI ty), .ref h7, .int (nI (om + 1)), .int (nI (sp + 1)), .int (-6)])), (h6, .inl (gC g, 80, .inl pd)), (h7, .inl (gI g, 123, .inl (upd od (3 * om) 115)))]) [2, 1, 0] rfl rfl ?_
            refine hret _ _ _ dX10_readOrder_134 ?_
            exact Or.inr ⟨sp + 1, (115, s5.2.1, -1, 3), (upd od (3 * om) 115), by omega, hR1, Or.inl rfl, fun _ h9 => take_3 rfl h9, ⟨upd_s, show isL (115 : Int32) by decide, fun h9 => absurd h9 (show ¬ (115 : Int32) = 119 by decide), fun h9 => absurd h9 (show ¬ (115 : Int32) = 100 by decide)⟩, fun k hk => upd_n (by omega), rfl⟩
        · refine V_iload_n C 0 dX10_readOrder_44 rfl rfl ?_
          refine V_bipush (v := 120) C dX10_readOrder_45 (by decide) ?_
          refine V_icmp_eq (tgt := 56) C dX10_readOrder_47 (by decide) (fun c_47 => ?_) (fun c_47 => ?_)
          · obtain ⟨hlt, hpc⟩ := ltr_lit c_47 (by decide)
            have hR1 : RCH pd ty sp s5 (sp + 1) (120, s5.2.1, -1, 3) := RCH.st hlt (by rw [hpc, take_L hs0 (by decide)]; rfl) (by rw [hpc]; decide)
            rw [c_47]
            refine V_iconst (v := 1) C dX10_readOrder_56 (by decide) ?_
            refine V_goto (tgt := 61) C dX10_readOrder_57 (by decide) ?_
            refine V_callVv (q0 := 1) (na := 1) (As := [.int 1]) (rest := []) (wr := [(h7, .inl (gI g, 123, .inl (upd od (3 * om) 120))), (h6, .inl (gC g, 80, .inl pd))]) C (c_X10_wants g h0 h1 h2 h3 h4 h5 h6 h7 pm (nI ty) (nI om) sp (-6) 1 (show sp ≤ 1000 from by first | assumption | omega | exact ix_nI (by omega) (by omega) | decide)) ⟨⟨ini_X10, co_X10_wants, ⟨by decide, by decide, by decide +kernel⟩, by decide⟩, ml_X10_128, im_X10_wants, se_X10_wants⟩ [1] [0, 2] rfl rfl rfl rfl (by decide) rfl rfl rfl rfl (Nat.le_of_ble_eq_true rfl) (by omega) (by omega) dX10_readOrder_61 (fun w_ hw_60 => ?_)
            rcases hw_60 with ⟨hf60_0, rfl⟩ | ⟨hf60_0, hf60_1, rfl⟩ | ⟨hf60_0, hf60_1, rfl⟩
            · refine V_to (ws2 := [(h7, .inl (gI g, 123, .inl (upd od (3 * om) 120))), (h6, .inl (gC g, 80, .inl pd)), (h0, .inr (10, [.ref h1, .ref h2, .ref h3, .ref h4, .int pm, .ref h5, .ref h6, .int (nI ty), .ref h7, .int (nI om), .int (nI sp), .int (-6)]))]) ?_ rfl
              exact absurd rfl hf60_0
            · refine V_to (ws2 := [(h7, .inl (gI g, 123, .inl (upd od (3 * om) 120))), (h6, .inl (gC g, 80, .inl pd)), (h0, .inr (10, [.ref h1, .ref h2, .ref h3, .ref h4, .int pm, .ref h5, .ref h6, .int (nI ty), .ref h7, .int (nI om), .int (nI (sp + 1)), .int (nI sp)]))]) ?_ rfl
              exact absurd hf60_1 (by decide)
            · refine V_to (ws2 := [(h7, .inl (gI g, 123, .inl (upd od (3 * om) 120))), (h6, .inl (gC g, 80, .inl pd)), (h0, .inr (10, [.ref h1, .ref h2, .ref h3, .ref h4, .int pm, .ref h5, .ref h6, .int (nI ty), .ref h7, .int (nI om), .int (nI (sp + 1)), .int (-6)]))]) ?_ rfl
              refine V_iload_n C 0 dX10_readOrder_64 rfl rfl ?_
              refine V_bipush (v := 100) C dX10_readOrder_65 (by decide) ?_
              refine V_icmp_eq (tgt := 76) C dX10_readOrder_67 (by decide) (fun h => absurd h (by decide)) (fun _ => ?_)
              refine V_iload_n C 0 dX10_readOrder_70 rfl rfl ?_
              refine V_bipush (v := 119) C dX10_readOrder_71 (by decide) ?_
              refine V_icmp_ne (tgt := 88) C dX10_readOrder_73 (by decide) (fun _ => ?_) (fun h => absurd h (by decide))
              refine V_iload_n C 0 dX10_readOrder_88 rfl rfl ?_
              refine V_bipush (v := 100) C dX10_readOrder_89 (by decide) ?_
              refine V_icmp_ne (tgt := 124) C dX10_readOrder_91 (by decide) (fun _ => ?_) (fun h => absurd h (by decide))
              refine V_aload_n C 2 dX10_readOrder_124 rfl rfl ?_
              refine V_dup C dX10_readOrder_125 rfl ?_
              refine V_get (v := .int (nI om)) C 2 rfl rfl in_X10 9 (by decide) fl_X10_132 rfl rfl dX10_readOrder_126 ?_
              refine V_iconst (v := 1) C dX10_readOrder_129 (by decide) ?_
              refine V_iadd C dX10_readOrder_130 ?_
              refine V_ev (show ((nI om) + 1 : Int32) = nI (om + 1) from nI_add om 1) ?_
              refine V_put (ty := .int) (ws2 := [(h7, .inl (gI g, 123, .inl (upd od (3 * om) 120))), (h6, .inl (gC g, 80, .inl pd)), (h0, .inr (10, [.ref h1, .ref h2, .ref h3, .ref h4, .int pm, .ref h5, .ref h6, .int (nI ty), .ref h7, .int (nI (om + 1)), .int (nI (sp + 1)), .int (-6)]))]) C 2 rfl rfl in_X10 tyX10 tyX10_ok nmX10 9 (by decide) fl_X10_132 rfl rfl (by decide +kernel) rfl rfl (Nat.le_of_ble_eq_true rfl) dX10_readOrder_131 rfl ?_
              refine V_perm (ws2 := [(h0, .inr (10, [.ref h1, .ref h2, .ref h3, .ref h4, .int pm, .ref h5, .ref h6, .int (nI ty), .ref h7, .int (nI (om + 1)), .int (nI (sp + 1)), .int (-6)])), (h6, .inl (gC g, 80, .inl pd)), (h7, .inl (gI g, 123, .inl (upd od (3 * om) 120)))]) [2, 1, 0] rfl rfl ?_
              refine hret _ _ _ dX10_readOrder_134 ?_
              exact Or.inr ⟨sp + 1, (120, s5.2.1, -1, 3), (upd od (3 * om) 120), by omega, hR1, Or.inl rfl, fun _ h9 => take_3 rfl h9, ⟨upd_s, show isL (120 : Int32) by decide, fun h9 => absurd h9 (show ¬ (120 : Int32) = 119 by decide), fun h9 => absurd h9 (show ¬ (120 : Int32) = 100 by decide)⟩, fun k hk => upd_n (by omega), rfl⟩
          · refine V_iload_n C 0 dX10_readOrder_50 rfl rfl ?_
            refine V_bipush (v := 101) C dX10_readOrder_51 (by decide) ?_
            refine V_icmp_ne (tgt := 60) C dX10_readOrder_53 (by decide) (fun c_53 => ?_) (fun c_53 => ?_)
            · refine V_iconst (v := 0) C dX10_readOrder_60 (by decide) ?_
              refine V_callVv (q0 := 1) (na := 1) (As := [.int 0]) (rest := []) (wr := [(h7, .inl (gI g, 123, .inl (upd od (3 * om) (ltr pd ty sp)))), (h6, .inl (gC g, 80, .inl pd))]) C (c_X10_wants g h0 h1 h2 h3 h4 h5 h6 h7 pm (nI ty) (nI om) sp (-6) 0 (show sp ≤ 1000 from by first | assumption | omega | exact ix_nI (by omega) (by omega) | decide)) ⟨⟨ini_X10, co_X10_wants, ⟨by decide, by decide, by decide +kernel⟩, by decide⟩, ml_X10_128, im_X10_wants, se_X10_wants⟩ [1] [0, 2] rfl rfl rfl rfl (by decide) rfl rfl rfl rfl (Nat.le_of_ble_eq_true rfl) (by omega) (by omega) dX10_readOrder_61 (fun w_ hw_62 => ?_)
              rcases hw_62 with ⟨hf62_0, rfl⟩ | ⟨hf62_0, hf62_1, rfl⟩ | ⟨hf62_0, hf62_1, rfl⟩
              · refine V_to (ws2 := [(h7, .inl (gI g, 123, .inl (upd od (3 * om) (ltr pd ty sp)))), (h6, .inl (gC g, 80, .inl pd)), (h0, .inr (10, [.ref h1, .ref h2, .ref h3, .ref h4, .int pm, .ref h5, .ref h6, .int (nI ty), .ref h7, .int (nI om), .int (nI sp), .int (-6)]))]) ?_ rfl
                exact absurd rfl hf62_0
              · refine V_to (ws2 := [(h7, .inl (gI g, 123, .inl (upd od (3 * om) (ltr pd ty sp)))), (h6, .inl (gC g, 80, .inl pd)), (h0, .inr (10, [.ref h1, .ref h2, .ref h3, .ref h4, .int pm, .ref h5, .ref h6, .int (nI ty), .ref h7, .int (nI om), .int (nI (sp + 1)), .int (nI sp)]))]) ?_ rfl
                refine V_iload_n C 0 dX10_readOrder_64 rfl rfl ?_
                refine V_bipush (v := 100) C dX10_readOrder_65 (by decide) ?_
                refine V_icmp_eq (tgt := 76) C dX10_readOrder_67 (by decide) (fun h => absurd h (c_29)) (fun _ => ?_)
                refine V_iload_n C 0 dX10_readOrder_70 rfl rfl ?_
                refine V_bipush (v := 119) C dX10_readOrder_71 (by decide) ?_
                refine V_icmp_ne (tgt := 88) C dX10_readOrder_73 (by decide) (fun _ => ?_) (fun h => absurd h (c_35))
                refine V_iload_n C 0 dX10_readOrder_88 rfl rfl ?_
                refine V_bipush (v := 100) C dX10_readOrder_89 (by decide) ?_
                refine V_icmp_ne (tgt := 124) C dX10_readOrder_91 (by decide) (fun _ => ?_) (fun h => absurd h (c_29))
                refine V_aload_n C 2 dX10_readOrder_124 rfl rfl ?_
                refine V_dup C dX10_readOrder_125 rfl ?_
                refine V_get (v := .int (nI om)) C 2 rfl rfl in_X10 9 (by decide) fl_X10_132 rfl rfl dX10_readOrder_126 ?_
                refine V_iconst (v := 1) C dX10_readOrder_129 (by decide) ?_
                refine V_iadd C dX10_readOrder_130 ?_
                refine V_ev (show ((nI om) + 1 : Int32) = nI (om + 1) from nI_add om 1) ?_
                refine V_put (ty := .int) (ws2 := [(h7, .inl (gI g, 123, .inl (upd od (3 * om) (ltr pd ty sp)))), (h6, .inl (gC g, 80, .inl pd)), (h0, .inr (10, [.ref h1, .ref h2, .ref h3, .ref h4, .int pm, .ref h5, .ref h6, .int (nI ty), .ref h7, .int (nI (om + 1)), .int (nI (sp + 1)), .int (nI sp)]))]) C 2 rfl rfl in_X10 tyX10 tyX10_ok nmX10 9 (by decide) fl_X10_132 rfl rfl (by decide +kernel) rfl rfl (Nat.le_of_ble_eq_true rfl) dX10_readOrder_131 rfl ?_
                refine V_perm (ws2 := [(h0, .inr (10, [.ref h1, .ref h2, .ref h3, .ref h4, .int pm, .ref h5, .ref h6, .int (nI ty), .ref h7, .int (nI (om + 1)), .int (nI (sp + 1)), .int (nI sp)])), (h6, .inl (gC g, 80, .inl pd)), (h7, .inl (gI g, 123, .inl (upd od (3 * om) (ltr pd ty sp))))]) [2, 1, 0] rfl rfl ?_
                refine hret _ _ _ dX10_readOrder_134 ?_
                exact Or.inl ⟨sp, (upd od (3 * om) (ltr pd ty sp)), or_bad hsp hs0 hpd ⟨c_23, c_29, c_35, c_41, c_47, c_53⟩, by omega, rfl⟩
              · refine V_to (ws2 := [(h7, .inl (gI g, 123, .inl (upd od (3 * om) (ltr pd ty sp)))), (h6, .inl (gC g, 80, .inl pd)), (h0, .inr (10, [.ref h1, .ref h2, .ref h3, .ref h4, .int pm, .ref h5, .ref h6, .int (nI ty), .ref h7, .int (nI om), .int (nI (sp + 1)), .int (-6)]))]) ?_ rfl
                exact absurd rfl hf62_1
            · obtain ⟨hlt, hpc⟩ := ltr_lit c_53 (by decide)
              have hR1 : RCH pd ty sp s5 (sp + 1) (101, s5.2.1, -1, 3) := RCH.st hlt (by rw [hpc, take_L hs0 (by decide)]; rfl) (by rw [hpc]; decide)
              rw [c_53]
              refine V_iconst (v := 1) C dX10_readOrder_56 (by decide) ?_
              refine V_goto (tgt := 61) C dX10_readOrder_57 (by decide) ?_
              refine V_callVv (q0 := 1) (na := 1) (As := [.int 1]) (rest := []) (wr := [(h7, .inl (gI g, 123, .inl (upd od (3 * om) 101))), (h6, .inl (gC g, 80, .inl pd))]) C (c_X10_wants g h0 h1 h2 h3 h4 h5 h6 h7 pm (nI ty) (nI om) sp (-6) 1 (show sp ≤ 1000 from by first | assumption | omega | exact ix_nI (by omega) (by omega) | decide)) ⟨⟨ini_X10, co_X10_wants, ⟨by decide, by decide, by decide +kernel⟩, by decide⟩, ml_X10_128, im_X10_wants, se_X10_wants⟩ [1] [0, 2] rfl rfl rfl rfl (by decide) rfl rfl rfl rfl (Nat.le_of_ble_eq_true rfl) (by omega) (by omega) dX10_readOrder_61 (fun w_ hw_64 => ?_)
              rcases hw_64 with ⟨hf64_0, rfl⟩ | ⟨hf64_0, hf64_1, rfl⟩ | ⟨hf64_0, hf64_1, rfl⟩
              · refine V_to (ws2 := [(h7, .inl (gI g, 123, .inl (upd od (3 * om) 101))), (h6, .inl (gC g, 80, .inl pd)), (h0, .inr (10, [.ref h1, .ref h2, .ref h3, .ref h4, .int pm, .ref h5, .ref h6, .int (nI ty), .ref h7, .int (nI om), .int (nI sp), .int (-6)]))]) ?_ rfl
                exact absurd rfl hf64_0
              · refine V_to (ws2 := [(h7, .inl (gI g, 123, .inl (upd od (3 * om) 101))), (h6, .inl (gC g, 80, .inl pd)), (h0, .inr (10, [.ref h1, .ref h2, .ref h3, .ref h4, .int pm, .ref h5, .ref h6, .int (nI ty), .ref h7, .int (nI om), .int (nI (sp + 1)), .int (nI sp)]))]) ?_ rfl
                exact absurd hf64_1 (by decide)
              · refine V_to (ws2 := [(h7, .inl (gI g, 123, .inl (upd od (3 * om) 101))), (h6, .inl (gC g, 80, .inl pd)), (h0, .inr (10, [.ref h1, .ref h2, .ref h3, .ref h4, .int pm, .ref h5, .ref h6, .int (nI ty), .ref h7, .int (nI om), .int (nI (sp + 1)), .int (-6)]))]) ?_ rfl
                refine V_iload_n C 0 dX10_readOrder_64 rfl rfl ?_
                refine V_bipush (v := 100) C dX10_readOrder_65 (by decide) ?_
                refine V_icmp_eq (tgt := 76) C dX10_readOrder_67 (by decide) (fun h => absurd h (by decide)) (fun _ => ?_)
                refine V_iload_n C 0 dX10_readOrder_70 rfl rfl ?_
                refine V_bipush (v := 119) C dX10_readOrder_71 (by decide) ?_
                refine V_icmp_ne (tgt := 88) C dX10_readOrder_73 (by decide) (fun _ => ?_) (fun h => absurd h (by decide))
                refine V_iload_n C 0 dX10_readOrder_88 rfl rfl ?_
                refine V_bipush (v := 100) C dX10_readOrder_89 (by decide) ?_
                refine V_icmp_ne (tgt := 124) C dX10_readOrder_91 (by decide) (fun _ => ?_) (fun h => absurd h (by decide))
                refine V_aload_n C 2 dX10_readOrder_124 rfl rfl ?_
                refine V_dup C dX10_readOrder_125 rfl ?_
                refine V_get (v := .int (nI om)) C 2 rfl rfl in_X10 9 (by decide) fl_X10_132 rfl rfl dX10_readOrder_126 ?_
                refine V_iconst (v := 1) C dX10_readOrder_129 (by decide) ?_
                refine V_iadd C dX10_readOrder_130 ?_
                refine V_ev (show ((nI om) + 1 : Int32) = nI (om + 1) from nI_add om 1) ?_
                refine V_put (ty := .int) (ws2 := [(h7, .inl (gI g, 123, .inl (upd od (3 * om) 101))), (h6, .inl (gC g, 80, .inl pd)), (h0, .inr (10, [.ref h1, .ref h2, .ref h3, .ref h4, .int pm, .ref h5, .ref h6, .int (nI ty), .ref h7, .int (nI (om + 1)), .int (nI (sp + 1)), .int (-6)]))]) C 2 rfl rfl in_X10 tyX10 tyX10_ok nmX10 9 (by decide) fl_X10_132 rfl rfl (by decide +kernel) rfl rfl (Nat.le_of_ble_eq_true rfl) dX10_readOrder_131 rfl ?_
                refine V_perm (ws2 := [(h0, .inr (10, [.ref h1, .ref h2, .ref h3, .ref h4, .int pm, .ref h5, .ref h6, .int (nI ty), .ref h7, .int (nI (om + 1)), .int (nI (sp + 1)), .int (-6)])), (h6, .inl (gC g, 80, .inl pd)), (h7, .inl (gI g, 123, .inl (upd od (3 * om) 101)))]) [2, 1, 0] rfl rfl ?_
                refine hret _ _ _ dX10_readOrder_134 ?_
                exact Or.inr ⟨sp + 1, (101, s5.2.1, -1, 3), (upd od (3 * om) 101), by omega, hR1, Or.inl rfl, fun _ h9 => take_3 rfl h9, ⟨upd_s, show isL (101 : Int32) by decide, fun h9 => absurd h9 (show ¬ (101 : Int32) = 119 by decide), fun h9 => absurd h9 (show ¬ (101 : Int32) = 100 by decide)⟩, fun k hk => upd_n (by omega), rfl⟩
