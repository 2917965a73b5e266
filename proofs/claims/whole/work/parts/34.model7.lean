
def PI (pd : Nat → Int32) (ty : Nat) (s5 : As) (i om : Nat) (s6 : As) (od : Nat → Int32) : Prop := i ≤ ty ∧ 2 * om ≤ i ∧ s6.2.2.2 = 0 ∧ flt pd ty 0 s5 = flt pd ty i s6 ∧ ∃ pre : List Or3, ors pd ty 0 s5 = pre ++ ors pd ty i s6 ∧ pre.length = om ∧ ∀ (k : Nat) (o : Or3), pre[k]? = some o → OE od k o
theorem PI_0 {pd : Nat → Int32} {ty : Nat} {s5 : As} {od : Nat → Int32} (h : s5.2.2.2 = 0) : PI pd ty s5 0 0 s5 od := ⟨Nat.zero_le _, by omega, h, rfl, [], rfl, rfl, fun k o hk => by simp at hk⟩
theorem OE_keep {od od2 : Nat → Int32} {om k : Nat} {o : Or3} (h : OE od k o) (hk : k < om) (hf : ∀ j, j < 3 * om → od2 j = od j) : OE od2 k o := by
  obtain ⟨h1, h2, h3, h4⟩ := h
  refine ⟨by rw [hf _ (by omega)]; exact h1, h2, fun q => by rw [hf _ (by omega)]; exact h3 q, fun q => ?_⟩
  rw [hf _ (by omega), hf _ (by omega)]
  exact h4 q
theorem OE_app {od od2 : Nat → Int32} {om : Nat} {pre : List Or3} {o1 : Or3} (hl : pre.length = om) (h : ∀ (k : Nat) (o : Or3), pre[k]? = some o → OE od k o) (hn : OE od2 om o1) (hf : ∀ j, j < 3 * om → od2 j = od j) : ∀ (k : Nat) (o : Or3), (pre ++ [o1])[k]? = some o → OE od2 k o := by
  intro k o hk
  rcases Nat.lt_or_ge k om with q | q
  · rw [List.getElem?_append_left (by omega)] at hk
    exact OE_keep (h k o hk) q hf
  · rw [List.getElem?_append_right (by omega)] at hk
    have hz : k - pre.length < 1 := (List.getElem?_eq_some_iff.mp hk).1
    have e : k = om := by omega
    subst e
    rw [hl, Nat.sub_self] at hk
    cases hk
    exact hn
theorem PI_next {pd : Nat → Int32} {ty : Nat} {s5 s6 s8 : As} {i om i8 : Nat} {od od2 : Nat → Int32} (h : PI pd ty s5 i om s6 od) (h1 : i < i8) (hR : RCH pd ty i s6 i8 s8) (hm : mayE s8) (hO : OE od2 om (s8.1, s8.2.1, s8.2.2.1)) (hf : ∀ j, j < 3 * om → od2 j = od j) (hl : i8 < ty) (hc : pd i8 = 59) : PI pd ty s5 (i8 + 1) (om + 1) (s8.1, s8.2.1, s8.2.2.1, 0) od2 := by
  obtain ⟨p1, p2, p3, p4, pre, p5, p6, p7⟩ := h
  obtain ⟨-, e2, e3⟩ := semi hl hc hm
  refine ⟨by omega, by omega, rfl, (p4.trans hR.2.1).trans e2, pre ++ [(s8.1, s8.2.1, s8.2.2.1)], ?_, by simp [p6], OE_app p6 p7 hO hf⟩
  rw [p5, hR.2.2, e3]
  simp
theorem PI_end {pd : Nat → Int32} {ty : Nat} {s5 s6 s8 : As} {i om : Nat} {od od2 : Nat → Int32} (h : PI pd ty s5 i om s6 od) (hR : RCH pd ty i s6 ty s8) (hm : mayE s8) (hO : OE od2 om (s8.1, s8.2.1, s8.2.2.1)) (hf : ∀ j, j < 3 * om → od2 j = od j) : flt pd ty 0 s5 = -6 ∧ (ors pd ty 0 s5).length = om + 1 ∧ ∀ (k : Nat) (o : Or3), (ors pd ty 0 s5)[k]? = some o → OE od2 k o := by
  obtain ⟨p1, p2, p3, p4, pre, p5, p6, p7⟩ := h
  have e : ors pd ty 0 s5 = pre ++ [(s8.1, s8.2.1, s8.2.2.1)] := by rw [p5, hR.2.2, ors_end]
  refine ⟨(p4.trans hR.2.1).trans (flt_ok hm), by rw [e]; simp [p6], ?_⟩
  rw [e]
  exact OE_app p6 p7 hO hf
/-- behind an order that may end, only a semicolon can stand -/
theorem se_bad {pd : Nat → Int32} {ty i : Nat} {s : As} (hl : i < ty) (hp : PDok pd ty) (hm : mayE s) (hk : STK pd ty i s) (hn : ¬ pd i = 59) : flt pd ty i s = nI i := by
  refine flt_none hl ?_
  by_cases hd : ¬ pd i < 48 ∧ ¬ 57 < pd i
  · exact hk hl hd
  · have h0 : ¬ s.2.2.2 = 0 := by rcases hm with e | ⟨e, -⟩ <;> rw [e] <;> decide
    have h1 : ¬ s.2.2.2 = 1 := by rcases hm with e | ⟨e, -⟩ <;> rw [e] <;> decide
    unfold takeA
    rw [if_neg h0, if_neg hd, if_neg (fun q => h1 q.2.1), if_neg (fun q => hn q.1)]

set_option maxRecDepth 100000 in
set_option maxHeartbeats 4000000 in
theorem c_X10_readPad (g : Gd) (h0 : Nat) (h1 : Nat) (h2 : Nat) (h3 : Nat) (h4 : Nat) (h5 : Nat) (h6 : Nat) (h7 : Nat) (pm : Int32) (ty : Nat) (om : Int32) (sp : Int32) (wr : Int32) (pd : Nat → Int32) (od : Nat → Int32) (s5 : As) (hty : ty ≤ 80) (hpd : PDok pd ty) (hs0 : s5.2.2.2 = 0) : Ki g yX10_readPad cX10_readPad 2 (some .int) 3 0 0 [.ref h0] [(h0, .inr (10, [.ref h1, .ref h2, .ref h3, .ref h4, .int pm, .ref h5, .ref h6, .int (nI ty), .ref h7, .int om, .int sp, .int wr])), (h6, .inl (gC g, 80, .inl pd)), (h7, .inl (gI g, 123, .inl od))] (fun (r : Int32) (w : va_W) => (∃ (f9 : Nat) (o2 : Nat) (od2 : Nat → Int32), flt pd ty 0 s5 = nI f9 ∧ f9 ≤ ty ∧ r = nI f9 ∧ w = [(h0, .inr (10, [.ref h1, .ref h2, .ref h3, .ref h4, .int pm, .ref h5, .ref h6, .int (nI ty), .ref h7, .int (nI o2), .int (nI (f9 + 1)), .int (nI f9)])), (h6, .inl (gC g, 80, .inl pd)), (h7, .inl (gI g, 123, .inl od2))]) ∨ (∃ (o2 : Nat) (od2 : Nat → Int32), flt pd ty 0 s5 = -6 ∧ (ors pd ty 0 s5).length = o2 ∧ o2 ≤ 41 ∧ (∀ (k : Nat) (o : Or3), (ors pd ty 0 s5)[k]? = some o → OE od2 k o) ∧ r = (-6) ∧ w = [(h0, .inr (10, [.ref h1, .ref h2, .ref h3, .ref h4, .int pm, .ref h5, .ref h6, .int (nI ty), .ref h7, .int (nI o2), .int (nI ty), .int (-6)])), (h6, .inl (gC g, 80, .inl pd)), (h7, .inl (gI g, 123, .inl od2))])) := by
  refine Ki.of (by decide) (Nat.le_of_ble_eq_true rfl) (fun X C hI hret => ?_)
  show V g X 0 0 [(h0, .inr (10, [.ref h1, .ref h2, .ref h3, .ref h4, .int pm, .ref h5, .ref h6, .int (nI ty), .ref h7, .int om, .int sp, .int wr])), (h6, .inl (gC g, 80, .inl pd)), (h7, .inl (gI g, 123, .inl od))] 0 [(0, .ref h0)] []
  refine V_aload_n C 0 dX10_readPad_0 rfl rfl ?_
  refine V_iconst (v := 0) C dX10_readPad_1 (by decide) ?_
  refine V_put (ty := .int) (ws2 := [(h0, .inr (10, [.ref h1, .ref h2, .ref h3, .ref h4, .int pm, .ref h5, .ref h6, .int (nI ty), .ref h7, .int 0, .int sp, .int wr])), (h6, .inl (gC g, 80, .inl pd)), (h7, .inl (gI g, 123, .inl od))]) C 0 rfl rfl in_X10 tyX10 tyX10_ok nmX10 9 (by decide) fl_X10_132 rfl rfl (by decide +kernel) rfl rfl (Nat.le_of_ble_eq_true rfl) dX10_readPad_2 rfl ?_
  refine V_aload_n C 0 dX10_readPad_5 rfl rfl ?_
  refine V_iconst (v := 0) C dX10_readPad_6 (by decide) ?_
  refine V_put (ty := .int) (ws2 := [(h0, .inr (10, [.ref h1, .ref h2, .ref h3, .ref h4, .int pm, .ref h5, .ref h6, .int (nI ty), .ref h7, .int 0, .int 0, .int wr])), (h6, .inl (gC g, 80, .inl pd)), (h7, .inl (gI g, 123, .inl od))]) C 0 rfl rfl in_X10 tyX10 tyX10_ok nmX10 10 (by decide) fl_X10_119 rfl rfl (by decide +kernel) rfl rfl (Nat.le_of_ble_eq_true rfl) dX10_readPad_7 rfl ?_
  refine V_aload_n C 0 dX10_readPad_10 rfl rfl ?_
  refine V_bipush (v := (-6)) C dX10_readPad_11 (by decide) ?_
  refine V_put (ty := .int) (ws2 := [(h0, .inr (10, [.ref h1, .ref h2, .ref h3, .ref h4, .int pm, .ref h5, .ref h6, .int (nI ty), .ref h7, .int 0, .int 0, .int (-6)])), (h6, .inl (gC g, 80, .inl pd)), (h7, .inl (gI g, 123, .inl od))]) C 0 rfl rfl in_X10 tyX10 tyX10_ok nmX10 11 (by decide) fl_X10_122 rfl rfl (by decide +kernel) rfl rfl (Nat.le_of_ble_eq_true rfl) dX10_readPad_13 rfl ?_
  refine V_iconst (v := 1) C dX10_readPad_16 (by decide) ?_
  refine V_istore_n (L2 := [(1, .int 1), (0, .ref h0)]) C dX10_readPad_17 rfl (by decide) rfl ?_
  have loop_18 : ∀ (fu_18 : Nat) (i6 : Nat) (om6 : Nat) (s6 : As) (od6 : Nat → Int32), (PI pd ty s5 i6 om6 s6 od6) → ty + 1 - i6 < fu_18 → V g X 0 0 [(h0, .inr (10, [.ref h1, .ref h2, .ref h3, .ref h4, .int pm, .ref h5, .ref h6, .int (nI ty), .ref h7, .int (nI om6), .int (nI i6), .int (-6)])), (h6, .inl (gC g, 80, .inl pd)), (h7, .inl (gI g, 123, .inl od6))] 18 [(0, .ref h0), (1, .int 1)] [] := by
    intro fu_18
    induction fu_18 with
    | zero => intro i6 om6 s6 od6 hPI hm; exact absurd hm (by omega)
    | succ fu_18 ih_18 =>
      intro i6 om6 s6 od6 hPI hm
      have hI1 := hPI.1
      have hI2 := hPI.2.1
      have hI3 := hPI.2.2.1
      refine V_iload_n C 1 dX10_readPad_18 rfl rfl ?_
      refine V_if_eq (tgt := 92) C dX10_readPad_19 (by decide) (fun h => absurd h (by decide)) (fun _ => ?_)
      refine V_aload_n C 0 dX10_readPad_22 rfl rfl ?_
      refine V_callVv (q0 := 0) (na := 0) (As := []) (rest := []) (wr := []) C (c_X10_readOrder g h0 h1 h2 h3 h4 h5 h6 h7 pm ty om6 i6 pd od6 s6 (show ty ≤ 80 from by first | assumption | omega | exact ix_nI (by omega) (by omega) | decide) (show i6 ≤ ty from by first | assumption | omega | exact ix_nI (by omega) (by omega) | decide) (by omega) hpd hI3) ⟨⟨ini_X10, co_X10_readOrder, ⟨by decide, by decide, by decide +kernel⟩, by decide⟩, ml_X10_138, im_X10_readOrder, se_X10_readOrder⟩ [0, 1, 2] [] rfl rfl rfl rfl (by decide) rfl rfl rfl rfl (Nat.le_of_ble_eq_true rfl) (by omega) (by omega) dX10_readPad_23 (fun w_ hw_2 => ?_)
      rcases hw_2 with ⟨f9_3, od2_4, hf4_0, hf4_1, rfl⟩ | ⟨i8_5, s8_6, od2_7, hf7_0, hf7_1, hf7_2, hf7_3, hf7_4, hf7_5, rfl⟩
      · refine V_to (ws2 := [(h0, .inr (10, [.ref h1, .ref h2, .ref h3, .ref h4, .int pm, .ref h5, .ref h6, .int (nI ty), .ref h7, .int (nI (om6 + 1)), .int (nI (f9_3 + 1)), .int (nI f9_3)])), (h6, .inl (gC g, 80, .inl pd)), (h7, .inl (gI g, 123, .inl od2_4))]) ?_ rfl
        have hle8 := hf4_1
        refine V_aload_n C 0 dX10_readPad_26 rfl rfl ?_
        refine V_get (v := .int (nI f9_3)) C 0 rfl rfl in_X10 11 (by decide) fl_X10_122 rfl rfl dX10_readPad_27 ?_
        refine V_bipush (v := (-6)) C dX10_readPad_30 (by decide) ?_
        refine V_icmp_ne (tgt := 50) C dX10_readPad_32 (by decide) (fun _ => ?_) (fun h => absurd h (nI_ne6 (by omega)))
        refine V_iconst (v := 0) C dX10_readPad_50 (by decide) ?_
        refine V_istore_n (L2 := [(1, .int 0), (0, .ref h0)]) C dX10_readPad_51 rfl (by decide) rfl ?_
        refine V_iload_n C 0 dX10_readPad_52 rfl rfl ?_
        refine V_if_eq (tgt := 18) C dX10_readPad_53 (by decide) (fun _ => ?_) (fun h => absurd (by decide) h)
        refine V_iload_n C 0 dX10_readPad_18 rfl rfl ?_
        refine V_if_eq (tgt := 92) C dX10_readPad_19 (by decide) (fun _ => ?_) (fun h => absurd (by decide) h)
        refine V_aload_n C 1 dX10_readPad_92 rfl rfl ?_
        refine V_get (v := .int (nI f9_3)) C 0 rfl rfl in_X10 11 (by decide) fl_X10_122 rfl rfl dX10_readPad_93 ?_
        refine hret _ _ _ _ dX10_readPad_96 ?_
        exact Or.inl ⟨f9_3, om6 + 1, od2_4, hPI.2.2.2.1.trans hf4_0, hf4_1, rfl, rfl⟩
      · refine V_to (ws2 := [(h0, .inr (10, [.ref h1, .ref h2, .ref h3, .ref h4, .int pm, .ref h5, .ref h6, .int (nI ty), .ref h7, .int (nI (om6 + 1)), .int (nI i8_5), .int (-6)])), (h6, .inl (gC g, 80, .inl pd)), (h7, .inl (gI g, 123, .inl od2_7))]) ?_ rfl
        have hle8 := hf7_1.1
        refine V_aload_n C 0 dX10_readPad_26 rfl rfl ?_
        refine V_get (v := .int (-6)) C 0 rfl rfl in_X10 11 (by decide) fl_X10_122 rfl rfl dX10_readPad_27 ?_
        refine V_bipush (v := (-6)) C dX10_readPad_30 (by decide) ?_
        refine V_icmp_ne (tgt := 50) C dX10_readPad_32 (by decide) (fun h => absurd rfl h) (fun _ => ?_)
        refine V_aload_n C 0 dX10_readPad_35 rfl rfl ?_
        refine V_get (v := .int (nI i8_5)) C 0 rfl rfl in_X10 10 (by decide) fl_X10_119 rfl rfl dX10_readPad_36 ?_
        refine V_aload_n C 0 dX10_readPad_39 rfl rfl ?_
        refine V_get (v := .int (nI ty)) C 0 rfl rfl in_X10 7 (by decide) fl_X10_104 rfl rfl dX10_readPad_40 ?_
        refine V_icmp_ge (tgt := 50) C dX10_readPad_43 (by decide) (fun c_43 => ?_) (fun c_43 => ?_)
        · refine V_iconst (v := 0) C dX10_readPad_50 (by decide) ?_
          refine V_istore_n (L2 := [(1, .int 0), (0, .ref h0)]) C dX10_readPad_51 rfl (by decide) rfl ?_
          refine V_iload_n C 0 dX10_readPad_52 rfl rfl ?_
          refine V_if_eq (tgt := 18) C dX10_readPad_53 (by decide) (fun _ => ?_) (fun h => absurd (by decide) h)
          refine V_iload_n C 0 dX10_readPad_18 rfl rfl ?_
          refine V_if_eq (tgt := 92) C dX10_readPad_19 (by decide) (fun _ => ?_) (fun h => absurd (by decide) h)
          refine V_aload_n C 1 dX10_readPad_92 rfl rfl ?_
          refine V_get (v := .int (-6)) C 0 rfl rfl in_X10 11 (by decide) fl_X10_122 rfl rfl dX10_readPad_93 ?_
          refine hret _ _ _ _ dX10_readPad_96 ?_
          have hie : i8_5 = ty := by have := lp_ge ty rfl (by omega) (by omega) c_43; have := hf7_1.1; omega
          subst hie
          obtain ⟨e1, e2, e3⟩ := PI_end hPI hf7_1 hf7_2 hf7_4 hf7_5
          exact Or.inr ⟨om6 + 1, od2_7, e1, e2, by omega, e3, rfl, rfl⟩
        · have hlt2 : i8_5 < ty := lp_lt ty rfl (by omega) (by omega) c_43
          refine V_iconst (v := 1) C dX10_readPad_46 (by decide) ?_
          refine V_goto (tgt := 51) C dX10_readPad_47 (by decide) ?_
          refine V_istore_n (L2 := [(1, .int 1), (0, .ref h0)]) C dX10_readPad_51 rfl (by decide) rfl ?_
          refine V_iload_n C 0 dX10_readPad_52 rfl rfl ?_
          refine V_if_eq (tgt := 18) C dX10_readPad_53 (by decide) (fun h => absurd h (by decide)) (fun _ => ?_)
          refine V_aload_n C 1 dX10_readPad_56 rfl rfl ?_
          refine V_aload_n C 1 dX10_readPad_57 rfl rfl ?_
          refine V_callVi (q0 := 0) (na := 0) (As := []) (rest := [.ref h0]) (wr := [(h7, .inl (gI g, 123, .inl od2_7))]) C (c_X10_letter g h0 h1 h2 h3 h4 h5 h6 h7 pm ty (nI (om6 + 1)) i8_5 (-6) pd (show ty ≤ 80 from by first | assumption | omega | exact ix_nI (by omega) (by omega) | decide) (show i8_5 ≤ 1000 from by first | assumption | omega | exact ix_nI (by omega) (by omega) | decide)) ⟨⟨ini_X10, co_X10_letter, ⟨by decide, by decide, by decide +kernel⟩, by decide⟩, ml_X10_125, im_X10_letter, se_X10_letter⟩ [0, 1] [2] rfl rfl rfl rfl (by decide) rfl rfl rfl rfl (Nat.le_of_ble_eq_true rfl) (by omega) (by omega) dX10_readPad_58 (fun r_8 w_ hw_9 => ?_)
          obtain ⟨rfl, rfl⟩ := hw_9
          refine V_to (ws2 := [(h7, .inl (gI g, 123, .inl od2_7)), (h0, .inr (10, [.ref h1, .ref h2, .ref h3, .ref h4, .int pm, .ref h5, .ref h6, .int (nI ty), .ref h7, .int (nI (om6 + 1)), .int (nI i8_5), .int (-6)])), (h6, .inl (gC g, 80, .inl pd))]) ?_ rfl
          refine V_bipush (v := 59) C dX10_readPad_61 (by decide) ?_
          refine V_icmp_ne (tgt := 70) C dX10_readPad_63 (by decide) (fun c_63 => ?_) (fun c_63 => ?_)
          · refine V_iconst (v := 0) C dX10_readPad_70 (by decide) ?_
            refine V_callVv (q0 := 1) (na := 1) (As := [.int 0]) (rest := []) (wr := [(h7, .inl (gI g, 123, .inl od2_7)), (h6, .inl (gC g, 80, .inl pd))]) C (c_X10_wants g h0 h1 h2 h3 h4 h5 h6 h7 pm (nI ty) (nI (om6 + 1)) i8_5 (-6) 0 (show i8_5 ≤ 1000 from by first | assumption | omega | exact ix_nI (by omega) (by omega) | decide)) ⟨⟨ini_X10, co_X10_wants, ⟨by decide, by decide, by decide +kernel⟩, by decide⟩, ml_X10_128, im_X10_wants, se_X10_wants⟩ [1] [0, 2] rfl rfl rfl rfl (by decide) rfl rfl rfl rfl (Nat.le_of_ble_eq_true rfl) (by omega) (by omega) dX10_readPad_71 (fun w_ hw_11 => ?_)
            rcases hw_11 with ⟨hf11_0, rfl⟩ | ⟨hf11_0, hf11_1, rfl⟩ | ⟨hf11_0, hf11_1, rfl⟩
            · refine V_to (ws2 := [(h7, .inl (gI g, 123, .inl od2_7)), (h6, .inl (gC g, 80, .inl pd)), (h0, .inr (10, [.ref h1, .ref h2, .ref h3, .ref h4, .int pm, .ref h5, .ref h6, .int (nI ty), .ref h7, .int (nI (om6 + 1)), .int (nI i8_5), .int (-6)]))]) ?_ rfl
              exact absurd rfl hf11_0
            · refine V_to (ws2 := [(h7, .inl (gI g, 123, .inl od2_7)), (h6, .inl (gC g, 80, .inl pd)), (h0, .inr (10, [.ref h1, .ref h2, .ref h3, .ref h4, .int pm, .ref h5, .ref h6, .int (nI ty), .ref h7, .int (nI (om6 + 1)), .int (nI (i8_5 + 1)), .int (nI i8_5)]))]) ?_ rfl
              refine V_aload_n C 1 dX10_readPad_74 rfl rfl ?_
              refine V_get (v := .int (nI i8_5)) C 2 rfl rfl in_X10 11 (by decide) fl_X10_122 rfl rfl dX10_readPad_75 ?_
              refine V_bipush (v := (-6)) C dX10_readPad_78 (by decide) ?_
              refine V_icmp_ne (tgt := 87) C dX10_readPad_80 (by decide) (fun _ => ?_) (fun h => absurd h (nI_ne6 (by omega)))
              refine V_iconst (v := 0) C dX10_readPad_87 (by decide) ?_
              refine V_istore_n (L2 := [(1, .int 0), (0, .ref h0)]) C dX10_readPad_88 rfl (by decide) rfl ?_
              refine V_goto (tgt := 18) C dX10_readPad_89 (by decide) ?_
              refine V_iload_n C 0 dX10_readPad_18 rfl rfl ?_
              refine V_if_eq (tgt := 92) C dX10_readPad_19 (by decide) (fun _ => ?_) (fun h => absurd (by decide) h)
              refine V_aload_n C 1 dX10_readPad_92 rfl rfl ?_
              refine V_get (v := .int (nI i8_5)) C 2 rfl rfl in_X10 11 (by decide) fl_X10_122 rfl rfl dX10_readPad_93 ?_
              refine V_perm (ws2 := [(h0, .inr (10, [.ref h1, .ref h2, .ref h3, .ref h4, .int pm, .ref h5, .ref h6, .int (nI ty), .ref h7, .int (nI (om6 + 1)), .int (nI (i8_5 + 1)), .int (nI i8_5)])), (h6, .inl (gC g, 80, .inl pd)), (h7, .inl (gI g, 123, .inl od2_7))]) [2, 1, 0] rfl rfl ?_
              refine hret _ _ _ _ dX10_readPad_96 ?_
              exact Or.inl ⟨i8_5, om6 + 1, od2_7, hPI.2.2.2.1.trans (hf7_1.2.1.trans (se_bad hlt2 hpd hf7_2 hf7_3 (fun q9 => c_63 ((ltr_in hlt2).trans q9)))), by omega, rfl, rfl⟩
            · refine V_to (ws2 := [(h7, .inl (gI g, 123, .inl od2_7)), (h6, .inl (gC g, 80, .inl pd)), (h0, .inr (10, [.ref h1, .ref h2, .ref h3, .ref h4, .int pm, .ref h5, .ref h6, .int (nI ty), .ref h7, .int (nI (om6 + 1)), .int (nI (i8_5 + 1)), .int (-6)]))]) ?_ rfl
              exact absurd rfl hf11_1
          · have hpc2 := (ltr_in hlt2).symm.trans c_63
            refine V_iconst (v := 1) C dX10_readPad_66 (by decide) ?_
            refine V_goto (tgt := 71) C dX10_readPad_67 (by decide) ?_
            refine V_callVv (q0 := 1) (na := 1) (As := [.int 1]) (rest := []) (wr := [(h7, .inl (gI g, 123, .inl od2_7)), (h6, .inl (gC g, 80, .inl pd))]) C (c_X10_wants g h0 h1 h2 h3 h4 h5 h6 h7 pm (nI ty) (nI (om6 + 1)) i8_5 (-6) 1 (show i8_5 ≤ 1000 from by first | assumption | omega | exact ix_nI (by omega) (by omega) | decide)) ⟨⟨ini_X10, co_X10_wants, ⟨by decide, by decide, by decide +kernel⟩, by decide⟩, ml_X10_128, im_X10_wants, se_X10_wants⟩ [1] [0, 2] rfl rfl rfl rfl (by decide) rfl rfl rfl rfl (Nat.le_of_ble_eq_true rfl) (by omega) (by omega) dX10_readPad_71 (fun w_ hw_13 => ?_)
            rcases hw_13 with ⟨hf13_0, rfl⟩ | ⟨hf13_0, hf13_1, rfl⟩ | ⟨hf13_0, hf13_1, rfl⟩
            · refine V_to (ws2 := [(h7, .inl (gI g, 123, .inl od2_7)), (h6, .inl (gC g, 80, .inl pd)), (h0, .inr (10, [.ref h1, .ref h2, .ref h3, .ref h4, .int pm, .ref h5, .ref h6, .int (nI ty), .ref h7, .int (nI (om6 + 1)), .int (nI i8_5), .int (-6)]))]) ?_ rfl
              exact absurd rfl hf13_0
            · refine V_to (ws2 := [(h7, .inl (gI g, 123, .inl od2_7)), (h6, .inl (gC g, 80, .inl pd)), (h0, .inr (10, [.ref h1, .ref h2, .ref h3, .ref h4, .int pm, .ref h5, .ref h6, .int (nI ty), .ref h7, .int (nI (om6 + 1)), .int (nI (i8_5 + 1)), .int (nI i8_5)]))]) ?_ rfl
              exact absurd hf13_1 (by decide)
            · refine V_to (ws2 := [(h7, .inl (gI g, 123, .inl od2_7)), (h6, .inl (gC g, 80, .inl pd)), (h0, .inr (10, [.ref h1, .ref h2, .ref h3, .ref h4, .int pm, .ref h5, .ref h6, .int (nI ty), .ref h7, .int (nI (om6 + 1)), .int (nI (i8_5 + 1)), .int (-6)]))]) ?_ rfl
              refine V_aload_n C 1 dX10_readPad_74 rfl rfl ?_
              refine V_get (v := .int (-6)) C 2 rfl rfl in_X10 11 (by decide) fl_X10_122 rfl rfl dX10_readPad_75 ?_
              refine V_bipush (v := (-6)) C dX10_readPad_78 (by decide) ?_
              refine V_icmp_ne (tgt := 87) C dX10_readPad_80 (by decide) (fun h => absurd rfl h) (fun _ => ?_)
              refine V_iconst (v := 1) C dX10_readPad_83 (by decide) ?_
              refine V_goto (tgt := 88) C dX10_readPad_84 (by decide) ?_
              refine V_istore_n (L2 := [(1, .int 1), (0, .ref h0)]) C dX10_readPad_88 rfl (by decide) rfl ?_
              refine V_goto (tgt := 18) C dX10_readPad_89 (by decide) ?_
              refine V_perm (ws2 := [(h0, .inr (10, [.ref h1, .ref h2, .ref h3, .ref h4, .int pm, .ref h5, .ref h6, .int (nI ty), .ref h7, .int (nI (om6 + 1)), .int (nI (i8_5 + 1)), .int (-6)])), (h6, .inl (gC g, 80, .inl pd)), (h7, .inl (gI g, 123, .inl od2_7))]) [2, 1, 0] rfl rfl ?_
              refine V_locs (L2 := [(0, .ref h0), (1, .int 1)]) [1, 0] rfl ?_
              exact ih_18 (i8_5 + 1) (om6 + 1) (s8_6.1, s8_6.2.1, s8_6.2.2.1, 0) od2_7 (PI_next hPI hf7_0 hf7_1 hf7_2 hf7_4 hf7_5 hlt2 hpc2) (by omega)
  refine V_locs (L2 := [(0, .ref h0), (1, .int 1)]) [1, 0] rfl ?_
  exact loop_18 (ty + 1 - 0 + 1) 0 0 s5 od (PI_0 hs0) (by omega)
set_option maxRecDepth 100000 in
set_option maxHeartbeats 4000000 in
theorem c_X10_fault (g : Gd) (h0 : Nat) (h1 : Nat) (h2 : Nat) (h3 : Nat) (h4 : Nat) (h5 : Nat) (h6 : Nat) (h7 : Nat) (pm : Int32) (ty : Nat) (om : Int32) (sp : Int32) (wr : Int32) (pd : Nat → Int32) (od : Nat → Int32) (s5 : As) (hty : ty ≤ 80) (hpd : PDok pd ty) (hs0 : s5.2.2.2 = 0) : Ki g yX10_fault cX10_fault 1 (some .int) 4 0 0 [.ref h0] [(h0, .inr (10, [.ref h1, .ref h2, .ref h3, .ref h4, .int pm, .ref h5, .ref h6, .int (nI ty), .ref h7, .int om, .int sp, .int wr])), (h6, .inl (gC g, 80, .inl pd)), (h7, .inl (gI g, 123, .inl od))] (fun (r : Int32) (w : va_W) => (∃ (f9 : Nat) (o2 : Nat) (od2 : Nat → Int32), flt pd ty 0 s5 = nI f9 ∧ f9 ≤ ty ∧ r = nI f9 ∧ w = [(h0, .inr (10, [.ref h1, .ref h2, .ref h3, .ref h4, .int pm, .ref h5, .ref h6, .int (nI ty), .ref h7, .int (nI o2), .int (nI (f9 + 1)), .int (nI f9)])), (h6, .inl (gC g, 80, .inl pd)), (h7, .inl (gI g, 123, .inl od2))]) ∨ (∃ (o2 : Nat) (od2 : Nat → Int32), flt pd ty 0 s5 = -6 ∧ (ors pd ty 0 s5).length = o2 ∧ o2 ≤ 41 ∧ (∀ (k : Nat) (o : Or3), (ors pd ty 0 s5)[k]? = some o → OE od2 k o) ∧ r = (-6) ∧ w = [(h0, .inr (10, [.ref h1, .ref h2, .ref h3, .ref h4, .int pm, .ref h5, .ref h6, .int (nI ty), .ref h7, .int (nI o2), .int (nI ty), .int (-6)])), (h6, .inl (gC g, 80, .inl pd)), (h7, .inl (gI g, 123, .inl od2))])) := by
  refine Ki.of (by decide) (Nat.le_of_ble_eq_true rfl) (fun X C hI hret => ?_)
  show V g X 0 0 [(h0, .inr (10, [.ref h1, .ref h2, .ref h3, .ref h4, .int pm, .ref h5, .ref h6, .int (nI ty), .ref h7, .int om, .int sp, .int wr])), (h6, .inl (gC g, 80, .inl pd)), (h7, .inl (gI g, 123, .inl od))] 0 [(0, .ref h0)] []
  refine V_aload_n C 0 dX10_fault_0 rfl rfl ?_
  refine V_callVi (q0 := 0) (na := 0) (As := []) (rest := []) (wr := []) C (c_X10_readPad g h0 h1 h2 h3 h4 h5 h6 h7 pm ty om sp wr pd od s5 (show ty ≤ 80 from by first | assumption | omega | exact ix_nI (by omega) (by omega) | decide) (show PDok pd ty from by first | assumption | omega | exact ix_nI (by omega) (by omega) | decide) (show s5.2.2.2 = 0 from by first | assumption | omega | exact ix_nI (by omega) (by omega) | decide)) ⟨⟨ini_X10, co_X10_readPad, ⟨by decide, by decide, by decide +kernel⟩, by decide⟩, ml_X10_141, im_X10_readPad, se_X10_readPad⟩ [0, 1, 2] [] rfl rfl rfl rfl (by decide) rfl rfl rfl rfl (Nat.le_of_ble_eq_true rfl) (by omega) (by omega) dX10_fault_1 (fun r_1 w_ hw_2 => ?_)
  rcases hw_2 with ⟨f9_3, o2_4, od2_5, hf5_0, hf5_1, rfl, rfl⟩ | ⟨o2_6, od2_7, hf7_0, hf7_1, hf7_2, hf7_3, rfl, rfl⟩
  · refine V_to (ws2 := [(h0, .inr (10, [.ref h1, .ref h2, .ref h3, .ref h4, .int pm, .ref h5, .ref h6, .int (nI ty), .ref h7, .int (nI o2_4), .int (nI (f9_3 + 1)), .int (nI f9_3)])), (h6, .inl (gC g, 80, .inl pd)), (h7, .inl (gI g, 123, .inl od2_5))]) ?_ rfl
    refine hret _ _ _ _ dX10_fault_4 ?_
    exact Or.inl ⟨f9_3, o2_4, od2_5, hf5_0, hf5_1, rfl, rfl⟩
  · refine V_to (ws2 := [(h0, .inr (10, [.ref h1, .ref h2, .ref h3, .ref h4, .int pm, .ref h5, .ref h6, .int (nI ty), .ref h7, .int (nI o2_6), .int (nI ty), .int (-6)])), (h6, .inl (gC g, 80, .inl pd)), (h7, .inl (gI g, 123, .inl od2_7))]) ?_ rfl
    refine hret _ _ _ _ dX10_fault_4 ?_
    exact Or.inr ⟨o2_6, od2_7, hf7_0, hf7_1, hf7_2, hf7_3, rfl, rfl⟩
