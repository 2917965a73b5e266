
def ok1 (v : Int32) : Prop := ¬ v < 0 ∧ ¬ 1 < v

set_option maxRecDepth 100000 in
set_option maxHeartbeats 4000000 in
theorem c_X10_driveIt (g : Gd) (h0 : Nat) (h1 : Nat) (h2 : Nat) (h3 : Nat) (h4 : Nat) (h5 : Nat) (h6 : Nat) (h7 : Nat) (pm : Int32) (ty : Int32) (om : Int32) (sp : Int32) (wr : Int32) (z : Nat → Int32) (P : Nat) (S : Nat) (hP : P ≤ 9999) (hS1 : 1 ≤ S) (hS2 : S ≤ 9999) (hd : DV z) : Ki g yX10_driveIt cX10_driveIt 7 (some .int) 3 0 0 [.ref h0, .int (nI P), .int (nI S)] [(h0, .inr (10, [.ref h1, .ref h2, .ref h3, .ref h4, .int pm, .ref h5, .ref h6, .int ty, .ref h7, .int om, .int sp, .int wr])), (h1, .inl (gI g, 113, .inl z))] (fun (r : Int32) (w : va_W) => r = (drvZ z P S S).2 ∧ w = [(h0, .inr (10, [.ref h1, .ref h2, .ref h3, .ref h4, .int pm, .ref h5, .ref h6, .int ty, .ref h7, .int om, .int sp, .int wr])), (h1, .inl (gI g, 113, .inl (drvF z P S)))]) := by
  refine Ki.of (by decide) (Nat.le_of_ble_eq_true rfl) (fun X C hI hret => ?_)
  show V g X 0 0 [(h0, .inr (10, [.ref h1, .ref h2, .ref h3, .ref h4, .int pm, .ref h5, .ref h6, .int ty, .ref h7, .int om, .int sp, .int wr])), (h1, .inl (gI g, 113, .inl z))] 0 [(0, .ref h0), (1, .int (nI P)), (2, .int (nI S))] []
  refine V_iconst (v := 0) C dX10_driveIt_0 (by decide) ?_
  refine V_istore_n (L2 := [(3, .int 0), (0, .ref h0), (1, .int (nI P)), (2, .int (nI S))]) C dX10_driveIt_1 rfl (by decide) rfl ?_
  refine V_iconst (v := 0) C dX10_driveIt_2 (by decide) ?_
  refine V_istore (L2 := [(4, .int 0), (3, .int 0), (0, .ref h0), (1, .int (nI P)), (2, .int (nI S))]) C dX10_driveIt_3 (by decide) rfl ?_
  refine V_iconst (v := 1) C dX10_driveIt_5 (by decide) ?_
  refine V_istore (L2 := [(5, .int 1), (4, .int 0), (3, .int 0), (0, .ref h0), (1, .int (nI P)), (2, .int (nI S))]) C dX10_driveIt_6 (by decide) rfl ?_
  have loop_8 : ∀ (fu_8 : Nat) (j : Nat) (dr : Int32) (hd0 : Int32) (zz : Nat → Int32), j ≤ S → dr = (drvZ z P S j).2 → hd0 = nI (P * j / S) → zz = (drvZ z P S j).1 → S - j < fu_8 → V g X 0 0 [(h0, .inr (10, [.ref h1, .ref h2, .ref h3, .ref h4, .int pm, .ref h5, .ref h6, .int ty, .ref h7, .int om, .int sp, .int wr])), (h1, .inl (gI g, 113, .inl zz))] 8 [(0, .ref h0), (1, .int (nI P)), (2, .int (nI S)), (3, .int dr), (4, .int hd0), (5, .int (nI (j + 1)))] [] := by
    intro fu_8
    induction fu_8 with
    | zero => intro j dr hd0 zz hj hdr hhd hzz hm; exact absurd hm (by omega)
    | succ fu_8 ih_8 =>
      intro j dr hd0 zz hj hdr hhd hzz hm
      subst hdr; subst hhd; subst hzz
      have hdv := hd.drv (P := P) (S := S) j
      obtain ⟨c, t, hc, hz, ht, hzt, hpp⟩ := hdv.1.get
      have h48 := hdv.2
      have hb : P * (j + 1) ≤ 9999 * (9999 + 1) := Nat.mul_le_mul hP (by omega)
      refine V_iload C 5 dX10_driveIt_8 rfl ?_
      refine V_iload_n C 2 dX10_driveIt_10 rfl rfl ?_
      refine V_icmp_gt (tgt := 44) C dX10_driveIt_11 (by decide) (fun c_11 => ?_) (fun c_11 => ?_)
      · have hj2 : j = S := by
          have q := (nI_ltI (a := S) (b := j + 1) (by omega) (by omega)).mp c_11
          omega
        refine V_aload_n C 0 dX10_driveIt_44 rfl rfl ?_
        refine V_get (v := .ref h1) C 0 rfl rfl in_X10 0 (by decide) fl_X10_7 rfl rfl dX10_driveIt_45 ?_
        refine V_bipush (v := 41) C dX10_driveIt_48 (by decide) ?_
        refine V_dup2 C dX10_driveIt_50 rfl rfl ?_
        refine V_iald C 1 rfl (show ix 41 41 113 from ix_nI (k := 41) (by omega) (by omega)) dX10_driveIt_51 ?_
        refine V_iload_n C 1 dX10_driveIt_52 rfl rfl ?_
        refine V_iadd C dX10_driveIt_53 ?_
        refine V_iast (ws2 := [(h0, .inr (10, [.ref h1, .ref h2, .ref h3, .ref h4, .int pm, .ref h5, .ref h6, .int ty, .ref h7, .int om, .int sp, .int wr])), (h1, .inl (gI g, 113, .inl (upd ((drvZ z P S j).1) 41 ((((drvZ z P S j).1) 41) + (nI P)))))]) C 1 rfl (show ix 41 41 113 from ix_nI (k := 41) (by omega) (by omega)) dX10_driveIt_54 rfl ?_
        refine V_aload_n C 0 dX10_driveIt_55 rfl rfl ?_
        refine V_get (v := .ref h1) C 0 rfl rfl in_X10 0 (by decide) fl_X10_7 rfl rfl dX10_driveIt_56 ?_
        refine V_bipush (v := 42) C dX10_driveIt_59 (by decide) ?_
        refine V_dup2 C dX10_driveIt_61 rfl rfl ?_
        refine V_iald C 1 rfl (show ix 42 42 113 from ix_nI (k := 42) (by omega) (by omega)) dX10_driveIt_62 ?_
        refine V_ev (show (upd ((drvZ z P S j).1) 41 ((((drvZ z P S j).1) 41) + (nI P))) 42 = ((drvZ z P S j).1) 42 from (upd_n (show 42 ≠ 41 from by omega))) ?_
        refine V_iload_n C 2 dX10_driveIt_63 rfl rfl ?_
        refine V_iadd C dX10_driveIt_64 ?_
        refine V_iast (ws2 := [(h0, .inr (10, [.ref h1, .ref h2, .ref h3, .ref h4, .int pm, .ref h5, .ref h6, .int ty, .ref h7, .int om, .int sp, .int wr])), (h1, .inl (gI g, 113, .inl (upd (upd ((drvZ z P S j).1) 41 ((((drvZ z P S j).1) 41) + (nI P))) 42 ((((drvZ z P S j).1) 42) + (nI S)))))]) C 1 rfl (show ix 42 42 113 from ix_nI (k := 42) (by omega) (by omega)) dX10_driveIt_65 rfl ?_
        refine V_to (ws2 := [(h0, .inr (10, [.ref h1, .ref h2, .ref h3, .ref h4, .int pm, .ref h5, .ref h6, .int ty, .ref h7, .int om, .int sp, .int wr])), (h1, .inl (gI g, 113, .inl (drvF z P S)))]) ?_ (by rw [hj2]; rfl)
        refine V_iload_n C 3 dX10_driveIt_66 rfl rfl ?_
        refine hret _ _ _ _ dX10_driveIt_67 ?_
        exact ⟨by rw [hj2], rfl⟩
      · have hj2 : j + 1 ≤ S := by
          rcases Nat.lt_or_ge S (j + 1) with q | q
          · exact absurd ((nI_ltI (a := S) (b := j + 1) (by omega) (by omega)).mpr q) c_11
          · exact q
        refine V_iload_n C 1 dX10_driveIt_14 rfl rfl ?_
        refine V_iload C 5 dX10_driveIt_15 rfl ?_
        refine V_imul C dX10_driveIt_17 ?_
        refine V_ev (show ((nI P) * (nI (j + 1)) : Int32) = nI (P * (j + 1)) from pk_mul P (j + 1)) ?_
        refine V_iload_n C 2 dX10_driveIt_18 rfl rfl ?_
        refine V_idiv C dX10_driveIt_19 (nI_ne0 (by omega) (by omega)) ?_
        refine V_ev (show ((nI (P * (j + 1))) / (nI S) : Int32) = nI (P * (j + 1) / S) from pk_div (by omega) (by omega) (by omega)) ?_
        refine V_istore (L2 := [(6, .int (nI (P * (j + 1) / S))), (0, .ref h0), (1, .int (nI P)), (2, .int (nI S)), (3, .int ((drvZ z P S j).2)), (4, .int (nI (P * j / S))), (5, .int (nI (j + 1)))]) C dX10_driveIt_20 (by decide) rfl ?_
        refine V_iload_n C 4 dX10_driveIt_22 rfl rfl ?_
        refine V_aload_n C 1 dX10_driveIt_23 rfl rfl ?_
        refine V_iload C 0 dX10_driveIt_24 rfl ?_
        refine V_iload C 5 dX10_driveIt_26 rfl ?_
        refine V_isub C dX10_driveIt_28 ?_
        refine V_callVi (q0 := 0) (na := 1) (As := [.int ((nI (P * (j + 1) / S)) - (nI (P * j / S)))]) (rest := [.int ((drvZ z P S j).2)]) (wr := []) C (c_X10_driveSecond g h0 h1 h2 h3 h4 h5 h6 h7 pm ty om sp wr ((drvZ z P S j).1) c t ((nI (P * (j + 1) / S)) - (nI (P * j / S))) (show c < 86400 from by first | assumption | omega | exact ix_nI (by omega) (by omega) | decide) (show ((drvZ z P S j).1) 37 = nI c from by first | assumption | omega | exact ix_nI (by omega) (by omega) | decide) (show t < 3 from by first | assumption | omega | exact ix_nI (by omega) (by omega) | decide) (show ((drvZ z P S j).1) (12 + c / 3600) = nI t from by first | assumption | omega | exact ix_nI (by omega) (by omega) | decide) hpp (show ¬ ((drvZ z P S j).1) 48 = 0 from by first | assumption | omega | exact ix_nI (by omega) (by omega) | decide)) ⟨⟨ini_X10, co_X10_driveSecond, ⟨by decide, by decide, by decide +kernel⟩, by decide⟩, ml_X10_69, im_X10_driveSecond, se_X10_driveSecond⟩ [0, 1] [] rfl rfl rfl rfl (by decide) rfl rfl rfl rfl (Nat.le_of_ble_eq_true rfl) (by omega) (by omega) dX10_driveIt_29 (fun r_1 w_ hw_2 => ?_)
        obtain ⟨rfl, rfl⟩ := hw_2
        refine V_to (ws2 := [(h0, .inr (10, [.ref h1, .ref h2, .ref h3, .ref h4, .int pm, .ref h5, .ref h6, .int ty, .ref h7, .int om, .int sp, .int wr])), (h1, .inl (gI g, 113, .inl (secZ ((drvZ z P S j).1) c t ((nI (P * (j + 1) / S)) - (nI (P * j / S))))))]) ?_ rfl
        refine V_iadd C dX10_driveIt_32 ?_
        refine V_istore_n (L2 := [(3, .int (((drvZ z P S j).2) + (drpZ ((drvZ z P S j).1) t ((nI (P * (j + 1) / S)) - (nI (P * j / S)))))), (6, .int (nI (P * (j + 1) / S))), (0, .ref h0), (1, .int (nI P)), (2, .int (nI S)), (4, .int (nI (P * j / S))), (5, .int (nI (j + 1)))]) C dX10_driveIt_33 rfl (by decide) rfl ?_
        refine V_iload C 1 dX10_driveIt_34 rfl ?_
        refine V_istore (L2 := [(4, .int (nI (P * (j + 1) / S))), (3, .int (((drvZ z P S j).2) + (drpZ ((drvZ z P S j).1) t ((nI (P * (j + 1) / S)) - (nI (P * j / S)))))), (6, .int (nI (P * (j + 1) / S))), (0, .ref h0), (1, .int (nI P)), (2, .int (nI S)), (5, .int (nI (j + 1)))]) C dX10_driveIt_36 (by decide) rfl ?_
        refine V_iinc (v := nI ((j + 1) + 1)) (L2 := [(5, .int (nI ((j + 1) + 1))), (4, .int (nI (P * (j + 1) / S))), (3, .int (((drvZ z P S j).2) + (drpZ ((drvZ z P S j).1) t ((nI (P * (j + 1) / S)) - (nI (P * j / S)))))), (6, .int (nI (P * (j + 1) / S))), (0, .ref h0), (1, .int (nI P)), (2, .int (nI S))]) C 6 dX10_driveIt_38 rfl (nI_add (j + 1) 1) (by decide) rfl ?_
        refine V_goto (tgt := 8) C dX10_driveIt_41 (by decide) ?_
        refine V_locs (L2 := [(0, .ref h0), (1, .int (nI P)), (2, .int (nI S)), (3, .int (((drvZ z P S j).2) + (drpZ ((drvZ z P S j).1) t ((nI (P * (j + 1) / S)) - (nI (P * j / S)))))), (4, .int (nI (P * (j + 1) / S))), (5, .int (nI ((j + 1) + 1)))]) [4, 5, 6, 2, 1, 0] rfl ?_
        exact ih_8 (j + 1) (((drvZ z P S j).2) + (drpZ ((drvZ z P S j).1) t ((nI (P * (j + 1) / S)) - (nI (P * j / S))))) (nI (P * (j + 1) / S)) (secZ ((drvZ z P S j).1) c t ((nI (P * (j + 1) / S)) - (nI (P * j / S)))) (show (j + 1) ≤ S from by first | assumption | omega | rfl) (by rw [drvZ_s hz hc hzt ht]) rfl (by rw [drvZ_s hz hc hzt ht]) (by omega)
  refine V_locs (L2 := [(0, .ref h0), (1, .int (nI P)), (2, .int (nI S)), (3, .int 0), (4, .int 0), (5, .int 1)]) [3, 4, 5, 2, 1, 0] rfl ?_
  exact loop_8 (S - 0 + 1) 0 0 0 z (show 0 ≤ S from by first | assumption | omega | rfl) (show 0 = (drvZ z P S 0).2 from by first | assumption | omega | rfl) (by rw [Nat.mul_zero, Nat.zero_div]; rfl) (show z = (drvZ z P S 0).1 from by first | assumption | omega | rfl) (by omega)
set_option maxRecDepth 100000 in
set_option maxHeartbeats 4000000 in
theorem c_X10_record (g : Gd) (h0 : Nat) (h1 : Nat) (h2 : Nat) (h3 : Nat) (h4 : Nat) (h5 : Nat) (h6 : Nat) (h7 : Nat) (pm : Nat) (ty : Int32) (om : Int32) (sp : Int32) (wr : Int32) (z : Nat → Int32) (past : Nat → Int32) (hpm : pm ≤ 6) : Kv g yX10_record cX10_record 2 none 0 0 0 [.ref h0] [(h0, .inr (10, [.ref h1, .ref h2, .ref h3, .ref h4, .int (nI pm), .ref h5, .ref h6, .int ty, .ref h7, .int om, .int sp, .int wr])), (h1, .inl (gI g, 113, .inl z)), (h2, .inl (gI g, 678, .inl past))] (fun (w : va_W) => w = [(h0, .inr (10, [.ref h1, .ref h2, .ref h3, .ref h4, .int (nI (min (pm + 1) 6)), .ref h5, .ref h6, .int ty, .ref h7, .int om, .int sp, .int wr])), (h1, .inl (gI g, 113, .inl z)), (h2, .inl (gI g, 678, .inl (recP z past pm)))]) := by
  refine Kv.of (by decide) (Nat.le_of_ble_eq_true rfl) (fun X C hI hret => ?_)
  show V g X 0 0 [(h0, .inr (10, [.ref h1, .ref h2, .ref h3, .ref h4, .int (nI pm), .ref h5, .ref h6, .int ty, .ref h7, .int om, .int sp, .int wr])), (h1, .inl (gI g, 113, .inl z)), (h2, .inl (gI g, 678, .inl past))] 0 [(0, .ref h0)] []
  refine V_aload_n C 0 dX10_record_0 rfl rfl ?_
  refine V_get (v := .int (nI pm)) C 0 rfl rfl in_X10 4 (by decide) fl_X10_41 rfl rfl dX10_record_1 ?_
  refine V_bipush (v := 6) C dX10_record_4 (by decide) ?_
  refine V_icmp_ne (tgt := 49) C dX10_record_6 (by decide) (fun c_6 => ?_) (fun c_6 => ?_)
  · have hp7 : pm ≠ 6 := fun q => c_6 (by rw [q]; rfl)
    refine V_iconst (v := 0) C dX10_record_49 (by decide) ?_
    refine V_istore_n (L2 := [(1, .int 0), (0, .ref h0)]) C dX10_record_50 rfl (by decide) rfl ?_
    refine V_to (ws2 := [(h0, .inr (10, [.ref h1, .ref h2, .ref h3, .ref h4, .int (nI pm), .ref h5, .ref h6, .int ty, .ref h7, .int om, .int sp, .int wr])), (h1, .inl (gI g, 113, .inl z)), (h2, .inl (gI g, 678, .inl (cpO z past (pm * 113) 0)))]) ?_ (by rw [cpO_0])
    have loop_51 : ∀ (fu_51 : Nat) (j : Nat), j ≤ 113 → 113 - j < fu_51 → V g X 0 0 [(h0, .inr (10, [.ref h1, .ref h2, .ref h3, .ref h4, .int (nI pm), .ref h5, .ref h6, .int ty, .ref h7, .int om, .int sp, .int wr])), (h1, .inl (gI g, 113, .inl z)), (h2, .inl (gI g, 678, .inl (cpO z past (pm * 113) j)))] 51 [(0, .ref h0), (1, .int (nI j))] [] := by
      intro fu_51
      induction fu_51 with
      | zero => intro j hj hm; exact absurd hm (by omega)
      | succ fu_51 ih_51 =>
        intro j hj hm
        refine V_iload_n C 1 dX10_record_51 rfl rfl ?_
        refine V_bipush (v := 113) C dX10_record_52 (by decide) ?_
        refine V_icmp_ge (tgt := 83) C dX10_record_54 (by decide) (fun c_54 => ?_) (fun c_54 => ?_)
        · have hj3 : j = 113 := by have := lp_ge 113 rfl (by omega) (by omega) c_54; omega
          subst hj3
          refine V_aload_n C 0 dX10_record_83 rfl rfl ?_
          refine V_dup C dX10_record_84 rfl ?_
          refine V_get (v := .int (nI pm)) C 0 rfl rfl in_X10 4 (by decide) fl_X10_41 rfl rfl dX10_record_85 ?_
          refine V_iconst (v := 1) C dX10_record_88 (by decide) ?_
          refine V_iadd C dX10_record_89 ?_
          refine V_ev (show ((nI pm) + 1 : Int32) = nI (pm + 1) from nI_add pm 1) ?_
          refine V_put (ty := .int) (ws2 := [(h0, .inr (10, [.ref h1, .ref h2, .ref h3, .ref h4, .int (nI (pm + 1)), .ref h5, .ref h6, .int ty, .ref h7, .int om, .int sp, .int wr])), (h1, .inl (gI g, 113, .inl z)), (h2, .inl (gI g, 678, .inl (cpO z past (pm * 113) 113)))]) C 0 rfl rfl in_X10 tyX10 tyX10_ok nmX10 4 (by decide) fl_X10_41 rfl rfl (by decide +kernel) rfl rfl (Nat.le_of_ble_eq_true rfl) dX10_record_90 rfl ?_
          refine V_to (ws2 := [(h0, .inr (10, [.ref h1, .ref h2, .ref h3, .ref h4, .int (nI (min (pm + 1) 6)), .ref h5, .ref h6, .int ty, .ref h7, .int om, .int sp, .int wr])), (h1, .inl (gI g, 113, .inl z)), (h2, .inl (gI g, 678, .inl (recP z past pm)))]) ?_ (by rw [recP, if_neg (fun q => c_6 (by rw [q]; rfl)), Nat.min_eq_left (by omega)])
          refine hret _ _ _ dX10_record_93 ?_
          exact rfl
        · have hj3 : j < 113 := lp_lt 113 rfl (by omega) (by omega) c_54
          refine V_aload_n C 0 dX10_record_57 rfl rfl ?_
          refine V_get (v := .ref h2) C 0 rfl rfl in_X10 1 (by decide) fl_X10_13 rfl rfl dX10_record_58 ?_
          refine V_aload_n C 0 dX10_record_61 rfl rfl ?_
          refine V_get (v := .int (nI pm)) C 0 rfl rfl in_X10 4 (by decide) fl_X10_41 rfl rfl dX10_record_62 ?_
          refine V_bipush (v := 113) C dX10_record_65 (by decide) ?_
          refine V_imul C dX10_record_67 ?_
          refine V_ev (show ((nI pm) * 113 : Int32) = nI (pm * 113) from pk_mul pm 113) ?_
          refine V_iload_n C 1 dX10_record_68 rfl rfl ?_
          refine V_iadd C dX10_record_69 ?_
          refine V_ev (show ((nI (pm * 113)) + (nI j) : Int32) = nI ((pm * 113) + j) from nI_add (pm * 113) j) ?_
          refine V_aload_n C 0 dX10_record_70 rfl rfl ?_
          refine V_get (v := .ref h1) C 0 rfl rfl in_X10 0 (by decide) fl_X10_7 rfl rfl dX10_record_71 ?_
          refine V_iload_n C 1 dX10_record_74 rfl rfl ?_
          refine V_iald C 1 rfl (ix_nI (show j < 113 by omega) (by omega)) dX10_record_75 ?_
          refine V_iast (ws2 := [(h0, .inr (10, [.ref h1, .ref h2, .ref h3, .ref h4, .int (nI pm), .ref h5, .ref h6, .int ty, .ref h7, .int om, .int sp, .int wr])), (h1, .inl (gI g, 113, .inl z)), (h2, .inl (gI g, 678, .inl (upd (cpO z past (pm * 113) j) ((pm * 113) + j) (z j))))]) C 2 rfl (ix_nI (show (pm * 113) + j < 678 by omega) (by omega)) dX10_record_76 rfl ?_
          refine V_to (ws2 := [(h0, .inr (10, [.ref h1, .ref h2, .ref h3, .ref h4, .int (nI pm), .ref h5, .ref h6, .int ty, .ref h7, .int om, .int sp, .int wr])), (h1, .inl (gI g, 113, .inl z)), (h2, .inl (gI g, 678, .inl (cpO z past (pm * 113) (j + 1))))]) ?_ (by rw [← cpO_s])
          refine V_iinc (v := nI (j + 1)) (L2 := [(1, .int (nI (j + 1))), (0, .ref h0)]) C 1 dX10_record_77 rfl (nI_add j 1) (by decide) rfl ?_
          refine V_goto (tgt := 51) C dX10_record_80 (by decide) ?_
          refine V_locs (L2 := [(0, .ref h0), (1, .int (nI (j + 1)))]) [1, 0] rfl ?_
          exact ih_51 (j + 1) (show (j + 1) ≤ 113 from by first | assumption | omega | rfl) (by omega)
    refine V_locs (L2 := [(0, .ref h0), (1, .int 0)]) [1, 0] rfl ?_
    exact loop_51 (113 - 0 + 1) 0 (show 0 ≤ 113 from by first | assumption | omega | rfl) (by omega)
  · have hp6 : pm = 6 := (nI_eq (by omega) (by omega)).mp c_6
    subst hp6
    refine V_iconst (v := 0) C dX10_record_9 (by decide) ?_
    refine V_istore_n (L2 := [(1, .int 0), (0, .ref h0)]) C dX10_record_10 rfl (by decide) rfl ?_
    refine V_to (ws2 := [(h0, .inr (10, [.ref h1, .ref h2, .ref h3, .ref h4, .int (nI 6), .ref h5, .ref h6, .int ty, .ref h7, .int om, .int sp, .int wr])), (h1, .inl (gI g, 113, .inl z)), (h2, .inl (gI g, 678, .inl (shU past 0)))]) ?_ (by rw [shU_0])
    have loop_11 : ∀ (fu_11 : Nat) (j : Nat), j ≤ 565 → 565 - j < fu_11 → V g X 0 0 [(h0, .inr (10, [.ref h1, .ref h2, .ref h3, .ref h4, .int (nI 6), .ref h5, .ref h6, .int ty, .ref h7, .int om, .int sp, .int wr])), (h1, .inl (gI g, 113, .inl z)), (h2, .inl (gI g, 678, .inl (shU past j)))] 11 [(0, .ref h0), (1, .int (nI j))] [] := by
      intro fu_11
      induction fu_11 with
      | zero => intro j hj hm; exact absurd hm (by omega)
      | succ fu_11 ih_11 =>
        intro j hj hm
        refine V_iload_n C 1 dX10_record_11 rfl rfl ?_
        refine V_sipush (v := 565) C dX10_record_12 (by decide) ?_
        refine V_icmp_ge (tgt := 39) C dX10_record_15 (by decide) (fun c_15 => ?_) (fun c_15 => ?_)
        · have hj2 : j = 565 := by have := lp_ge 565 rfl (by omega) (by omega) c_15; omega
          subst hj2
          refine V_aload_n C 0 dX10_record_39 rfl rfl ?_
          refine V_dup C dX10_record_40 rfl ?_
          refine V_get (v := .int (nI 6)) C 0 rfl rfl in_X10 4 (by decide) fl_X10_41 rfl rfl dX10_record_41 ?_
          refine V_iconst (v := 1) C dX10_record_44 (by decide) ?_
          refine V_isub C dX10_record_45 ?_
          refine V_ev (show ((nI 6) - 1 : Int32) = nI 5 from by decide) ?_
          refine V_put (ty := .int) (ws2 := [(h0, .inr (10, [.ref h1, .ref h2, .ref h3, .ref h4, .int (nI 5), .ref h5, .ref h6, .int ty, .ref h7, .int om, .int sp, .int wr])), (h1, .inl (gI g, 113, .inl z)), (h2, .inl (gI g, 678, .inl (shU past 565)))]) C 0 rfl rfl in_X10 tyX10 tyX10_ok nmX10 4 (by decide) fl_X10_41 rfl rfl (by decide +kernel) rfl rfl (Nat.le_of_ble_eq_true rfl) dX10_record_46 rfl ?_
          refine V_iconst (v := 0) C dX10_record_49 (by decide) ?_
          refine V_istore_n (L2 := [(1, .int 0), (0, .ref h0)]) C dX10_record_50 rfl (by decide) rfl ?_
          refine V_to (ws2 := [(h0, .inr (10, [.ref h1, .ref h2, .ref h3, .ref h4, .int (nI 5), .ref h5, .ref h6, .int ty, .ref h7, .int om, .int sp, .int wr])), (h1, .inl (gI g, 113, .inl z)), (h2, .inl (gI g, 678, .inl (cpO z (shU past 565) (5 * 113) 0)))]) ?_ (by rw [cpO_0])
          have loop_51 : ∀ (fu_51 : Nat) (j : Nat), j ≤ 113 → 113 - j < fu_51 → V g X 0 0 [(h0, .inr (10, [.ref h1, .ref h2, .ref h3, .ref h4, .int (nI 5), .ref h5, .ref h6, .int ty, .ref h7, .int om, .int sp, .int wr])), (h1, .inl (gI g, 113, .inl z)), (h2, .inl (gI g, 678, .inl (cpO z (shU past 565) (5 * 113) j)))] 51 [(0, .ref h0), (1, .int (nI j))] [] := by
            intro fu_51
            induction fu_51 with
            | zero => intro j hj hm; exact absurd hm (by omega)
            | succ fu_51 ih_51 =>
              intro j hj hm
              refine V_iload_n C 1 dX10_record_51 rfl rfl ?_
              refine V_bipush (v := 113) C dX10_record_52 (by decide) ?_
              refine V_icmp_ge (tgt := 83) C dX10_record_54 (by decide) (fun c_54 => ?_) (fun c_54 => ?_)
              · have hj3 : j = 113 := by have := lp_ge 113 rfl (by omega) (by omega) c_54; omega
                subst hj3
                refine V_aload_n C 0 dX10_record_83 rfl rfl ?_
                refine V_dup C dX10_record_84 rfl ?_
                refine V_get (v := .int (nI 5)) C 0 rfl rfl in_X10 4 (by decide) fl_X10_41 rfl rfl dX10_record_85 ?_
                refine V_iconst (v := 1) C dX10_record_88 (by decide) ?_
                refine V_iadd C dX10_record_89 ?_
                refine V_ev (show ((nI 5) + 1 : Int32) = nI (5 + 1) from nI_add 5 1) ?_
                refine V_put (ty := .int) (ws2 := [(h0, .inr (10, [.ref h1, .ref h2, .ref h3, .ref h4, .int (nI (5 + 1)), .ref h5, .ref h6, .int ty, .ref h7, .int om, .int sp, .int wr])), (h1, .inl (gI g, 113, .inl z)), (h2, .inl (gI g, 678, .inl (cpO z (shU past 565) (5 * 113) 113)))]) C 0 rfl rfl in_X10 tyX10 tyX10_ok nmX10 4 (by decide) fl_X10_41 rfl rfl (by decide +kernel) rfl rfl (Nat.le_of_ble_eq_true rfl) dX10_record_90 rfl ?_
                refine V_to (ws2 := [(h0, .inr (10, [.ref h1, .ref h2, .ref h3, .ref h4, .int (nI (min (6 + 1) 6)), .ref h5, .ref h6, .int ty, .ref h7, .int om, .int sp, .int wr])), (h1, .inl (gI g, 113, .inl z)), (h2, .inl (gI g, 678, .inl (recP z past 6)))]) ?_ (by rw [recP, if_pos rfl]; rfl)
                refine hret _ _ _ dX10_record_93 ?_
                exact rfl
              · have hj3 : j < 113 := lp_lt 113 rfl (by omega) (by omega) c_54
                refine V_aload_n C 0 dX10_record_57 rfl rfl ?_
                refine V_get (v := .ref h2) C 0 rfl rfl in_X10 1 (by decide) fl_X10_13 rfl rfl dX10_record_58 ?_
                refine V_aload_n C 0 dX10_record_61 rfl rfl ?_
                refine V_get (v := .int (nI 5)) C 0 rfl rfl in_X10 4 (by decide) fl_X10_41 rfl rfl dX10_record_62 ?_
                refine V_bipush (v := 113) C dX10_record_65 (by decide) ?_
                refine V_imul C dX10_record_67 ?_
                refine V_ev (show ((nI 5) * 113 : Int32) = nI (5 * 113) from pk_mul 5 113) ?_
                refine V_iload_n C 1 dX10_record_68 rfl rfl ?_
                refine V_iadd C dX10_record_69 ?_
                refine V_ev (show ((nI (5 * 113)) + (nI j) : Int32) = nI ((5 * 113) + j) from nI_add (5 * 113) j) ?_
                refine V_aload_n C 0 dX10_record_70 rfl rfl ?_
                refine V_get (v := .ref h1) C 0 rfl rfl in_X10 0 (by decide) fl_X10_7 rfl rfl dX10_record_71 ?_
                refine V_iload_n C 1 dX10_record_74 rfl rfl ?_
                refine V_iald C 1 rfl (ix_nI (show j < 113 by omega) (by omega)) dX10_record_75 ?_
                refine V_iast (ws2 := [(h0, .inr (10, [.ref h1, .ref h2, .ref h3, .ref h4, .int (nI 5), .ref h5, .ref h6, .int ty, .ref h7, .int om, .int sp, .int wr])), (h1, .inl (gI g, 113, .inl z)), (h2, .inl (gI g, 678, .inl (upd (cpO z (shU past 565) (5 * 113) j) ((5 * 113) + j) (z j))))]) C 2 rfl (ix_nI (show (5 * 113) + j < 678 by omega) (by omega)) dX10_record_76 rfl ?_
                refine V_to (ws2 := [(h0, .inr (10, [.ref h1, .ref h2, .ref h3, .ref h4, .int (nI 5), .ref h5, .ref h6, .int ty, .ref h7, .int om, .int sp, .int wr])), (h1, .inl (gI g, 113, .inl z)), (h2, .inl (gI g, 678, .inl (cpO z (shU past 565) (5 * 113) (j + 1))))]) ?_ (by rw [← cpO_s])
                refine V_iinc (v := nI (j + 1)) (L2 := [(1, .int (nI (j + 1))), (0, .ref h0)]) C 1 dX10_record_77 rfl (nI_add j 1) (by decide) rfl ?_
                refine V_goto (tgt := 51) C dX10_record_80 (by decide) ?_
                refine V_locs (L2 := [(0, .ref h0), (1, .int (nI (j + 1)))]) [1, 0] rfl ?_
                exact ih_51 (j + 1) (show (j + 1) ≤ 113 from by first | assumption | omega | rfl) (by omega)
          refine V_locs (L2 := [(0, .ref h0), (1, .int 0)]) [1, 0] rfl ?_
          exact loop_51 (113 - 0 + 1) 0 (show 0 ≤ 113 from by first | assumption | omega | rfl) (by omega)
        · have hj2 : j < 565 := lp_lt 565 rfl (by omega) (by omega) c_15
          refine V_aload_n C 0 dX10_record_18 rfl rfl ?_
          refine V_get (v := .ref h2) C 0 rfl rfl in_X10 1 (by decide) fl_X10_13 rfl rfl dX10_record_19 ?_
          refine V_iload_n C 1 dX10_record_22 rfl rfl ?_
          refine V_aload_n C 0 dX10_record_23 rfl rfl ?_
          refine V_get (v := .ref h2) C 0 rfl rfl in_X10 1 (by decide) fl_X10_13 rfl rfl dX10_record_24 ?_
          refine V_iload_n C 1 dX10_record_27 rfl rfl ?_
          refine V_bipush (v := 113) C dX10_record_28 (by decide) ?_
          refine V_iadd C dX10_record_30 ?_
          refine V_ev (show ((nI j) + 113 : Int32) = nI (j + 113) from nI_add j 113) ?_
          refine V_iald C 2 rfl (ix_nI (show j + 113 < 678 by omega) (by omega)) dX10_record_31 ?_
          refine V_ev (show ((shU past j) (j + 113) : Int32) = past (j + 113) from shU_r) ?_
          refine V_iast (ws2 := [(h0, .inr (10, [.ref h1, .ref h2, .ref h3, .ref h4, .int (nI 6), .ref h5, .ref h6, .int ty, .ref h7, .int om, .int sp, .int wr])), (h1, .inl (gI g, 113, .inl z)), (h2, .inl (gI g, 678, .inl (upd (shU past j) j (past (j + 113)))))]) C 2 rfl (ix_nI (show j < 678 by omega) (by omega)) dX10_record_32 rfl ?_
          refine V_to (ws2 := [(h0, .inr (10, [.ref h1, .ref h2, .ref h3, .ref h4, .int (nI 6), .ref h5, .ref h6, .int ty, .ref h7, .int om, .int sp, .int wr])), (h1, .inl (gI g, 113, .inl z)), (h2, .inl (gI g, 678, .inl (shU past (j + 1))))]) ?_ (by rw [← shU_s])
          refine V_iinc (v := nI (j + 1)) (L2 := [(1, .int (nI (j + 1))), (0, .ref h0)]) C 1 dX10_record_33 rfl (nI_add j 1) (by decide) rfl ?_
          refine V_goto (tgt := 11) C dX10_record_36 (by decide) ?_
          refine V_locs (L2 := [(0, .ref h0), (1, .int (nI (j + 1)))]) [1, 0] rfl ?_
          exact ih_11 (j + 1) (show (j + 1) ≤ 565 from by first | assumption | omega | rfl) (by omega)
    refine V_locs (L2 := [(0, .ref h0), (1, .int 0)]) [1, 0] rfl ?_
    exact loop_11 (565 - 0 + 1) 0 (show 0 ≤ 565 from by first | assumption | omega | rfl) (by omega)
set_option maxRecDepth 100000 in
set_option maxHeartbeats 4000000 in
theorem c_X10_undo (g : Gd) (h0 : Nat) (h1 : Nat) (h2 : Nat) (h3 : Nat) (h4 : Nat) (h5 : Nat) (h6 : Nat) (h7 : Nat) (pm : Nat) (ty : Int32) (om : Int32) (sp : Int32) (wr : Int32) (z : Nat → Int32) (past : Nat → Int32) (hpm : pm ≤ 6) : Ki g yX10_undo cX10_undo 2 (some .int) 0 0 0 [.ref h0] [(h0, .inr (10, [.ref h1, .ref h2, .ref h3, .ref h4, .int (nI pm), .ref h5, .ref h6, .int ty, .ref h7, .int om, .int sp, .int wr])), (h1, .inl (gI g, 113, .inl z)), (h2, .inl (gI g, 678, .inl past))] (fun (r : Int32) (w : va_W) => (pm = 0 ∧ r = (-5) ∧ w = [(h0, .inr (10, [.ref h1, .ref h2, .ref h3, .ref h4, .int (nI pm), .ref h5, .ref h6, .int ty, .ref h7, .int om, .int sp, .int wr])), (h1, .inl (gI g, 113, .inl z)), (h2, .inl (gI g, 678, .inl past))]) ∨ (¬ pm = 0 ∧ r = nI (pm - 1) ∧ w = [(h0, .inr (10, [.ref h1, .ref h2, .ref h3, .ref h4, .int (nI (pm - 1)), .ref h5, .ref h6, .int ty, .ref h7, .int om, .int sp, .int wr])), (h1, .inl (gI g, 113, .inl (fun k => past ((pm - 1) * 113 + k)))), (h2, .inl (gI g, 678, .inl past))])) := by
  refine Ki.of (by decide) (Nat.le_of_ble_eq_true rfl) (fun X C hI hret => ?_)
  show V g X 0 0 [(h0, .inr (10, [.ref h1, .ref h2, .ref h3, .ref h4, .int (nI pm), .ref h5, .ref h6, .int ty, .ref h7, .int om, .int sp, .int wr])), (h1, .inl (gI g, 113, .inl z)), (h2, .inl (gI g, 678, .inl past))] 0 [(0, .ref h0)] []
  refine V_aload_n C 0 dX10_undo_0 rfl rfl ?_
  refine V_get (v := .int (nI pm)) C 0 rfl rfl in_X10 4 (by decide) fl_X10_41 rfl rfl dX10_undo_1 ?_
  refine V_if_ne (tgt := 10) C dX10_undo_4 (by decide) (fun c_4 => ?_) (fun c_4 => ?_)
  · have hp0 : ¬ pm = 0 := fun q => c_4 (by rw [q]; rfl)
    refine V_aload_n C 0 dX10_undo_10 rfl rfl ?_
    refine V_dup C dX10_undo_11 rfl ?_
    refine V_get (v := .int (nI pm)) C 0 rfl rfl in_X10 4 (by decide) fl_X10_41 rfl rfl dX10_undo_12 ?_
    refine V_iconst (v := 1) C dX10_undo_15 (by decide) ?_
    refine V_isub C dX10_undo_16 ?_
    refine V_ev (show ((nI pm) - 1 : Int32) = nI (pm - 1) from pk_sub (b := 1) (by omega)) ?_
    refine V_put (ty := .int) (ws2 := [(h0, .inr (10, [.ref h1, .ref h2, .ref h3, .ref h4, .int (nI (pm - 1)), .ref h5, .ref h6, .int ty, .ref h7, .int om, .int sp, .int wr])), (h1, .inl (gI g, 113, .inl z)), (h2, .inl (gI g, 678, .inl past))]) C 0 rfl rfl in_X10 tyX10 tyX10_ok nmX10 4 (by decide) fl_X10_41 rfl rfl (by decide +kernel) rfl rfl (Nat.le_of_ble_eq_true rfl) dX10_undo_17 rfl ?_
    refine V_iconst (v := 0) C dX10_undo_20 (by decide) ?_
    refine V_istore_n (L2 := [(1, .int 0), (0, .ref h0)]) C dX10_undo_21 rfl (by decide) rfl ?_
    refine V_to (ws2 := [(h0, .inr (10, [.ref h1, .ref h2, .ref h3, .ref h4, .int (nI (pm - 1)), .ref h5, .ref h6, .int ty, .ref h7, .int om, .int sp, .int wr])), (h1, .inl (gI g, 113, .inl (cpI past z ((pm - 1) * 113) 0))), (h2, .inl (gI g, 678, .inl past))]) ?_ (by rw [cpI_0])
    have loop_22 : ∀ (fu_22 : Nat) (j : Nat), j ≤ 113 → 113 - j < fu_22 → V g X 0 0 [(h0, .inr (10, [.ref h1, .ref h2, .ref h3, .ref h4, .int (nI (pm - 1)), .ref h5, .ref h6, .int ty, .ref h7, .int om, .int sp, .int wr])), (h1, .inl (gI g, 113, .inl (cpI past z ((pm - 1) * 113) j))), (h2, .inl (gI g, 678, .inl past))] 22 [(0, .ref h0), (1, .int (nI j))] [] := by
      intro fu_22
      induction fu_22 with
      | zero => intro j hj hm; exact absurd hm (by omega)
      | succ fu_22 ih_22 =>
        intro j hj hm
        refine V_iload_n C 1 dX10_undo_22 rfl rfl ?_
        refine V_bipush (v := 113) C dX10_undo_23 (by decide) ?_
        refine V_icmp_ge (tgt := 54) C dX10_undo_25 (by decide) (fun c_25 => ?_) (fun c_25 => ?_)
        · have hj2 : j = 113 := by have := lp_ge 113 rfl (by omega) (by omega) c_25; omega
          subst hj2
          refine V_ext (f2 := fun k => past ((pm - 1) * 113 + k)) (ws2 := [(h0, .inr (10, [.ref h1, .ref h2, .ref h3, .ref h4, .int (nI (pm - 1)), .ref h5, .ref h6, .int ty, .ref h7, .int om, .int sp, .int wr])), (h1, .inl (gI g, 113, .inl (fun k => past ((pm - 1) * 113 + k)))), (h2, .inl (gI g, 678, .inl past))]) 1 rfl (fun k hk => by rw [cpI_e k hk]) rfl ?_
          refine V_aload_n C 0 dX10_undo_54 rfl rfl ?_
          refine V_get (v := .int (nI (pm - 1))) C 0 rfl rfl in_X10 4 (by decide) fl_X10_41 rfl rfl dX10_undo_55 ?_
          refine hret _ _ _ _ dX10_undo_58 ?_
          exact Or.inr ⟨fun q => c_4 (by rw [q]; rfl), rfl, rfl⟩
        · have hj2 : j < 113 := lp_lt 113 rfl (by omega) (by omega) c_25
          refine V_aload_n C 0 dX10_undo_28 rfl rfl ?_
          refine V_get (v := .ref h1) C 0 rfl rfl in_X10 0 (by decide) fl_X10_7 rfl rfl dX10_undo_29 ?_
          refine V_iload_n C 1 dX10_undo_32 rfl rfl ?_
          refine V_aload_n C 0 dX10_undo_33 rfl rfl ?_
          refine V_get (v := .ref h2) C 0 rfl rfl in_X10 1 (by decide) fl_X10_13 rfl rfl dX10_undo_34 ?_
          refine V_aload_n C 0 dX10_undo_37 rfl rfl ?_
          refine V_get (v := .int (nI (pm - 1))) C 0 rfl rfl in_X10 4 (by decide) fl_X10_41 rfl rfl dX10_undo_38 ?_
          refine V_bipush (v := 113) C dX10_undo_41 (by decide) ?_
          refine V_imul C dX10_undo_43 ?_
          refine V_ev (show ((nI (pm - 1)) * 113 : Int32) = nI ((pm - 1) * 113) from pk_mul (pm - 1) 113) ?_
          refine V_iload_n C 1 dX10_undo_44 rfl rfl ?_
          refine V_iadd C dX10_undo_45 ?_
          refine V_ev (show ((nI ((pm - 1) * 113)) + (nI j) : Int32) = nI (((pm - 1) * 113) + j) from nI_add ((pm - 1) * 113) j) ?_
          refine V_iald C 2 rfl (ix_nI (show ((pm - 1) * 113) + j < 678 by omega) (by omega)) dX10_undo_46 ?_
          refine V_iast (ws2 := [(h0, .inr (10, [.ref h1, .ref h2, .ref h3, .ref h4, .int (nI (pm - 1)), .ref h5, .ref h6, .int ty, .ref h7, .int om, .int sp, .int wr])), (h1, .inl (gI g, 113, .inl (upd (cpI past z ((pm - 1) * 113) j) j (past (((pm - 1) * 113) + j))))), (h2, .inl (gI g, 678, .inl past))]) C 1 rfl (ix_nI (show j < 113 by omega) (by omega)) dX10_undo_47 rfl ?_
          refine V_to (ws2 := [(h0, .inr (10, [.ref h1, .ref h2, .ref h3, .ref h4, .int (nI (pm - 1)), .ref h5, .ref h6, .int ty, .ref h7, .int om, .int sp, .int wr])), (h1, .inl (gI g, 113, .inl (cpI past z ((pm - 1) * 113) (j + 1)))), (h2, .inl (gI g, 678, .inl past))]) ?_ (by rw [← cpI_s])
          refine V_iinc (v := nI (j + 1)) (L2 := [(1, .int (nI (j + 1))), (0, .ref h0)]) C 1 dX10_undo_48 rfl (nI_add j 1) (by decide) rfl ?_
          refine V_goto (tgt := 22) C dX10_undo_51 (by decide) ?_
          refine V_locs (L2 := [(0, .ref h0), (1, .int (nI (j + 1)))]) [1, 0] rfl ?_
          exact ih_22 (j + 1) (show (j + 1) ≤ 113 from by first | assumption | omega | rfl) (by omega)
    refine V_locs (L2 := [(0, .ref h0), (1, .int 0)]) [1, 0] rfl ?_
    exact loop_22 (113 - 0 + 1) 0 (show 0 ≤ 113 from by first | assumption | omega | rfl) (by omega)
  · refine V_bipush (v := (-5)) C dX10_undo_7 (by decide) ?_
    refine hret _ _ _ _ dX10_undo_9 ?_
    exact Or.inl ⟨(nI_eq (b := 0) (by omega) (by omega)).mp c_4, rfl, rfl⟩
set_option maxRecDepth 100000 in
set_option maxHeartbeats 4000000 in
theorem c_X10_save (g : Gd) (h0 : Nat) (h1 : Nat) (h2 : Nat) (h3 : Nat) (h4 : Nat) (h5 : Nat) (h6 : Nat) (h7 : Nat) (pm : Int32) (ty : Int32) (om : Int32) (sp : Int32) (wr : Int32) (z : Nat → Int32) (sl : Nat → Int32) (sv : Nat → Int32) (s0 : Int32)  : Ki g yX10_save cX10_save 3 (some .int) 1 0 0 [.ref h0, .int s0] [(h0, .inr (10, [.ref h1, .ref h2, .ref h3, .ref h4, .int pm, .ref h5, .ref h6, .int ty, .ref h7, .int om, .int sp, .int wr])), (h1, .inl (gI g, 113, .inl z)), (h3, .inl (gI g, 226, .inl sl)), (h4, .inl (gZ g, 2, .inl sv))] (fun (r : Int32) (w : va_W) => (¬ ok1 s0 ∧ r = (-2) ∧ w = [(h0, .inr (10, [.ref h1, .ref h2, .ref h3, .ref h4, .int pm, .ref h5, .ref h6, .int ty, .ref h7, .int om, .int sp, .int wr])), (h1, .inl (gI g, 113, .inl z)), (h3, .inl (gI g, 226, .inl sl)), (h4, .inl (gZ g, 2, .inl sv))]) ∨ (∃ (q : Nat), q < 2 ∧ s0 = nI q ∧ r = z 50 ∧ w = [(h0, .inr (10, [.ref h1, .ref h2, .ref h3, .ref h4, .int pm, .ref h5, .ref h6, .int ty, .ref h7, .int om, .int sp, .int wr])), (h1, .inl (gI g, 113, .inl z)), (h3, .inl (gI g, 226, .inl (cpO z sl (q * 113) 113))), (h4, .inl (gZ g, 2, .inl (upd sv q 1)))])) := by
  refine Ki.of (by decide) (Nat.le_of_ble_eq_true rfl) (fun X C hI hret => ?_)
  show V g X 0 0 [(h0, .inr (10, [.ref h1, .ref h2, .ref h3, .ref h4, .int pm, .ref h5, .ref h6, .int ty, .ref h7, .int om, .int sp, .int wr])), (h1, .inl (gI g, 113, .inl z)), (h3, .inl (gI g, 226, .inl sl)), (h4, .inl (gZ g, 2, .inl sv))] 0 [(0, .ref h0), (1, .int s0)] []
  refine V_iload_n C 1 dX10_save_0 rfl rfl ?_
  refine V_iconst (v := 0) C dX10_save_1 (by decide) ?_
  refine V_iconst (v := 1) C dX10_save_2 (by decide) ?_
  refine V_callSi (na := 3) (As := [.int s0, .int 0, .int 1]) (rest := []) (wr := [(h0, .inr (10, [.ref h1, .ref h2, .ref h3, .ref h4, .int pm, .ref h5, .ref h6, .int ty, .ref h7, .int om, .int sp, .int wr])), (h1, .inl (gI g, 113, .inl z)), (h3, .inl (gI g, 226, .inl sl)), (h4, .inl (gZ g, 2, .inl sv))]) C (c_X10_in g s0 0 1 ) ⟨⟨ini_X10, co_X10_in, ⟨by decide, by decide, by decide +kernel⟩, by decide⟩, ml_X10_33, sm_X10_in⟩ [] [0, 1, 2, 3] rfl rfl rfl rfl (by decide) rfl rfl (Nat.le_of_ble_eq_true rfl) (by omega) (by omega) dX10_save_3 (fun r_1 w_ hw_2 => ?_)
  rcases hw_2 with ⟨hf2_0, hf2_1, rfl, rfl⟩ | ⟨hf2_0, rfl, rfl⟩
  · refine V_to (ws2 := [(h0, .inr (10, [.ref h1, .ref h2, .ref h3, .ref h4, .int pm, .ref h5, .ref h6, .int ty, .ref h7, .int om, .int sp, .int wr])), (h1, .inl (gI g, 113, .inl z)), (h3, .inl (gI g, 226, .inl sl)), (h4, .inl (gZ g, 2, .inl sv))]) ?_ rfl
    refine V_if_ne (tgt := 12) C dX10_save_6 (by decide) (fun _ => ?_) (fun h => absurd h (by decide))
    obtain ⟨q, -, hq, rfl⟩ := rg_nI 0 1 rfl rfl (by omega) (by omega) hf2_0 hf2_1
    refine V_aload_n C 0 dX10_save_12 rfl rfl ?_
    refine V_get (v := .ref h4) C 0 rfl rfl in_X10 3 (by decide) fl_X10_19 rfl rfl dX10_save_13 ?_
    refine V_iload_n C 1 dX10_save_16 rfl rfl ?_
    refine V_iconst (v := 1) C dX10_save_17 (by decide) ?_
    refine V_zast (ws2 := [(h0, .inr (10, [.ref h1, .ref h2, .ref h3, .ref h4, .int pm, .ref h5, .ref h6, .int ty, .ref h7, .int om, .int sp, .int wr])), (h1, .inl (gI g, 113, .inl z)), (h3, .inl (gI g, 226, .inl sl)), (h4, .inl (gZ g, 2, .inl (upd sv q (vp_nar .boolean 1))))]) C 3 rfl (ix_nI (show q < 2 by omega) (by omega)) dX10_save_18 rfl ?_
    refine V_to (ws2 := [(h0, .inr (10, [.ref h1, .ref h2, .ref h3, .ref h4, .int pm, .ref h5, .ref h6, .int ty, .ref h7, .int om, .int sp, .int wr])), (h1, .inl (gI g, 113, .inl z)), (h3, .inl (gI g, 226, .inl sl)), (h4, .inl (gZ g, 2, .inl (upd sv q 1)))]) ?_ rfl
    refine V_iconst (v := 0) C dX10_save_19 (by decide) ?_
    refine V_istore_n (L2 := [(2, .int 0), (0, .ref h0), (1, .int (nI q))]) C dX10_save_20 rfl (by decide) rfl ?_
    refine V_to (ws2 := [(h0, .inr (10, [.ref h1, .ref h2, .ref h3, .ref h4, .int pm, .ref h5, .ref h6, .int ty, .ref h7, .int om, .int sp, .int wr])), (h1, .inl (gI g, 113, .inl z)), (h3, .inl (gI g, 226, .inl (cpO z sl (q * 113) 0))), (h4, .inl (gZ g, 2, .inl (upd sv q 1)))]) ?_ (by rw [cpO_0])
    have loop_21 : ∀ (fu_21 : Nat) (j : Nat), j ≤ 113 → 113 - j < fu_21 → V g X 0 0 [(h0, .inr (10, [.ref h1, .ref h2, .ref h3, .ref h4, .int pm, .ref h5, .ref h6, .int ty, .ref h7, .int om, .int sp, .int wr])), (h1, .inl (gI g, 113, .inl z)), (h3, .inl (gI g, 226, .inl (cpO z sl (q * 113) j))), (h4, .inl (gZ g, 2, .inl (upd sv q 1)))] 21 [(0, .ref h0), (1, .int (nI q)), (2, .int (nI j))] [] := by
      intro fu_21
      induction fu_21 with
      | zero => intro j hj hm; exact absurd hm (by omega)
      | succ fu_21 ih_21 =>
        intro j hj hm
        refine V_iload_n C 2 dX10_save_21 rfl rfl ?_
        refine V_bipush (v := 113) C dX10_save_22 (by decide) ?_
        refine V_icmp_ge (tgt := 50) C dX10_save_24 (by decide) (fun c_24 => ?_) (fun c_24 => ?_)
        · have hj2 : j = 113 := by have := lp_ge 113 rfl (by omega) (by omega) c_24; omega
          subst hj2
          refine V_aload_n C 0 dX10_save_50 rfl rfl ?_
          refine V_get (v := .ref h1) C 0 rfl rfl in_X10 0 (by decide) fl_X10_7 rfl rfl dX10_save_51 ?_
          refine V_bipush (v := 50) C dX10_save_54 (by decide) ?_
          refine V_iald C 1 rfl (show ix 50 50 113 from ix_nI (k := 50) (by omega) (by omega)) dX10_save_56 ?_
          refine hret _ _ _ _ dX10_save_57 ?_
          exact Or.inr ⟨q, by omega, rfl, rfl, rfl⟩
        · have hj2 : j < 113 := lp_lt 113 rfl (by omega) (by omega) c_24
          refine V_aload_n C 0 dX10_save_27 rfl rfl ?_
          refine V_get (v := .ref h3) C 0 rfl rfl in_X10 2 (by decide) fl_X10_16 rfl rfl dX10_save_28 ?_
          refine V_iload_n C 1 dX10_save_31 rfl rfl ?_
          refine V_bipush (v := 113) C dX10_save_32 (by decide) ?_
          refine V_imul C dX10_save_34 ?_
          refine V_ev (show ((nI q) * 113 : Int32) = nI (q * 113) from pk_mul q 113) ?_
          refine V_iload_n C 2 dX10_save_35 rfl rfl ?_
          refine V_iadd C dX10_save_36 ?_
          refine V_ev (show ((nI (q * 113)) + (nI j) : Int32) = nI ((q * 113) + j) from nI_add (q * 113) j) ?_
          refine V_aload_n C 0 dX10_save_37 rfl rfl ?_
          refine V_get (v := .ref h1) C 0 rfl rfl in_X10 0 (by decide) fl_X10_7 rfl rfl dX10_save_38 ?_
          refine V_iload_n C 2 dX10_save_41 rfl rfl ?_
          refine V_iald C 1 rfl (ix_nI (show j < 113 by omega) (by omega)) dX10_save_42 ?_
          refine V_iast (ws2 := [(h0, .inr (10, [.ref h1, .ref h2, .ref h3, .ref h4, .int pm, .ref h5, .ref h6, .int ty, .ref h7, .int om, .int sp, .int wr])), (h1, .inl (gI g, 113, .inl z)), (h3, .inl (gI g, 226, .inl (upd (cpO z sl (q * 113) j) ((q * 113) + j) (z j)))), (h4, .inl (gZ g, 2, .inl (upd sv q 1)))]) C 2 rfl (ix_nI (show (q * 113) + j < 226 by omega) (by omega)) dX10_save_43 rfl ?_
          refine V_to (ws2 := [(h0, .inr (10, [.ref h1, .ref h2, .ref h3, .ref h4, .int pm, .ref h5, .ref h6, .int ty, .ref h7, .int om, .int sp, .int wr])), (h1, .inl (gI g, 113, .inl z)), (h3, .inl (gI g, 226, .inl (cpO z sl (q * 113) (j + 1)))), (h4, .inl (gZ g, 2, .inl (upd sv q 1)))]) ?_ (by rw [← cpO_s])
          refine V_iinc (v := nI (j + 1)) (L2 := [(2, .int (nI (j + 1))), (0, .ref h0), (1, .int (nI q))]) C 2 dX10_save_44 rfl (nI_add j 1) (by decide) rfl ?_
          refine V_goto (tgt := 21) C dX10_save_47 (by decide) ?_
          refine V_locs (L2 := [(0, .ref h0), (1, .int (nI q)), (2, .int (nI (j + 1)))]) [1, 2, 0] rfl ?_
          exact ih_21 (j + 1) (show (j + 1) ≤ 113 from by first | assumption | omega | rfl) (by omega)
    refine V_locs (L2 := [(0, .ref h0), (1, .int (nI q)), (2, .int 0)]) [1, 2, 0] rfl ?_
    exact loop_21 (113 - 0 + 1) 0 (show 0 ≤ 113 from by first | assumption | omega | rfl) (by omega)
  · refine V_to (ws2 := [(h0, .inr (10, [.ref h1, .ref h2, .ref h3, .ref h4, .int pm, .ref h5, .ref h6, .int ty, .ref h7, .int om, .int sp, .int wr])), (h1, .inl (gI g, 113, .inl z)), (h3, .inl (gI g, 226, .inl sl)), (h4, .inl (gZ g, 2, .inl sv))]) ?_ rfl
    refine V_if_ne (tgt := 12) C dX10_save_6 (by decide) (fun h => absurd rfl h) (fun _ => ?_)
    refine V_bipush (v := (-2)) C dX10_save_9 (by decide) ?_
    refine hret _ _ _ _ dX10_save_11 ?_
    exact Or.inl ⟨fun h => (hf2_0).elim h.1 h.2, rfl, rfl⟩
set_option maxRecDepth 100000 in
set_option maxHeartbeats 4000000 in
theorem c_X10_restore (g : Gd) (h0 : Nat) (h1 : Nat) (h2 : Nat) (h3 : Nat) (h4 : Nat) (h5 : Nat) (h6 : Nat) (h7 : Nat) (pm : Nat) (ty : Int32) (om : Int32) (sp : Int32) (wr : Int32) (z : Nat → Int32) (past : Nat → Int32) (sl : Nat → Int32) (sv : Nat → Int32) (s0 : Int32) (hpm : pm ≤ 6) : Ki g yX10_restore cX10_restore 3 (some .int) 1 0 0 [.ref h0, .int s0] [(h0, .inr (10, [.ref h1, .ref h2, .ref h3, .ref h4, .int (nI pm), .ref h5, .ref h6, .int ty, .ref h7, .int om, .int sp, .int wr])), (h1, .inl (gI g, 113, .inl z)), (h2, .inl (gI g, 678, .inl past)), (h3, .inl (gI g, 226, .inl sl)), (h4, .inl (gZ g, 2, .inl sv))] (fun (r : Int32) (w : va_W) => (¬ ok1 s0 ∧ r = (-2) ∧ w = [(h0, .inr (10, [.ref h1, .ref h2, .ref h3, .ref h4, .int (nI pm), .ref h5, .ref h6, .int ty, .ref h7, .int om, .int sp, .int wr])), (h1, .inl (gI g, 113, .inl z)), (h2, .inl (gI g, 678, .inl past)), (h3, .inl (gI g, 226, .inl sl)), (h4, .inl (gZ g, 2, .inl sv))]) ∨ (∃ (q : Nat), q < 2 ∧ s0 = nI q ∧ sv q = 0 ∧ r = (-5) ∧ w = [(h0, .inr (10, [.ref h1, .ref h2, .ref h3, .ref h4, .int (nI pm), .ref h5, .ref h6, .int ty, .ref h7, .int om, .int sp, .int wr])), (h1, .inl (gI g, 113, .inl z)), (h2, .inl (gI g, 678, .inl past)), (h3, .inl (gI g, 226, .inl sl)), (h4, .inl (gZ g, 2, .inl sv))]) ∨ (∃ (q : Nat), q < 2 ∧ s0 = nI q ∧ ¬ sv q = 0 ∧ r = sl (q * 113 + 50) ∧ w = [(h0, .inr (10, [.ref h1, .ref h2, .ref h3, .ref h4, .int (nI (min (pm + 1) 6)), .ref h5, .ref h6, .int ty, .ref h7, .int om, .int sp, .int wr])), (h1, .inl (gI g, 113, .inl (fun k => sl (q * 113 + k)))), (h2, .inl (gI g, 678, .inl (recP z past pm))), (h3, .inl (gI g, 226, .inl sl)), (h4, .inl (gZ g, 2, .inl sv))])) := by
  refine Ki.of (by decide) (Nat.le_of_ble_eq_true rfl) (fun X C hI hret => ?_)
  show V g X 0 0 [(h0, .inr (10, [.ref h1, .ref h2, .ref h3, .ref h4, .int (nI pm), .ref h5, .ref h6, .int ty, .ref h7, .int om, .int sp, .int wr])), (h1, .inl (gI g, 113, .inl z)), (h2, .inl (gI g, 678, .inl past)), (h3, .inl (gI g, 226, .inl sl)), (h4, .inl (gZ g, 2, .inl sv))] 0 [(0, .ref h0), (1, .int s0)] []
  refine V_iload_n C 1 dX10_restore_0 rfl rfl ?_
  refine V_iconst (v := 0) C dX10_restore_1 (by decide) ?_
  refine V_iconst (v := 1) C dX10_restore_2 (by decide) ?_
  refine V_callSi (na := 3) (As := [.int s0, .int 0, .int 1]) (rest := []) (wr := [(h0, .inr (10, [.ref h1, .ref h2, .ref h3, .ref h4, .int (nI pm), .ref h5, .ref h6, .int ty, .ref h7, .int om, .int sp, .int wr])), (h1, .inl (gI g, 113, .inl z)), (h2, .inl (gI g, 678, .inl past)), (h3, .inl (gI g, 226, .inl sl)), (h4, .inl (gZ g, 2, .inl sv))]) C (c_X10_in g s0 0 1 ) ⟨⟨ini_X10, co_X10_in, ⟨by decide, by decide, by decide +kernel⟩, by decide⟩, ml_X10_33, sm_X10_in⟩ [] [0, 1, 2, 3, 4] rfl rfl rfl rfl (by decide) rfl rfl (Nat.le_of_ble_eq_true rfl) (by omega) (by omega) dX10_restore_3 (fun r_1 w_ hw_2 => ?_)
  rcases hw_2 with ⟨hf2_0, hf2_1, rfl, rfl⟩ | ⟨hf2_0, rfl, rfl⟩
  · refine V_to (ws2 := [(h0, .inr (10, [.ref h1, .ref h2, .ref h3, .ref h4, .int (nI pm), .ref h5, .ref h6, .int ty, .ref h7, .int om, .int sp, .int wr])), (h1, .inl (gI g, 113, .inl z)), (h2, .inl (gI g, 678, .inl past)), (h3, .inl (gI g, 226, .inl sl)), (h4, .inl (gZ g, 2, .inl sv))]) ?_ rfl
    refine V_if_ne (tgt := 12) C dX10_restore_6 (by decide) (fun _ => ?_) (fun h => absurd h (by decide))
    obtain ⟨q, -, hq, rfl⟩ := rg_nI 0 1 rfl rfl (by omega) (by omega) hf2_0 hf2_1
    refine V_aload_n C 0 dX10_restore_12 rfl rfl ?_
    refine V_get (v := .ref h4) C 0 rfl rfl in_X10 3 (by decide) fl_X10_19 rfl rfl dX10_restore_13 ?_
    refine V_iload_n C 1 dX10_restore_16 rfl rfl ?_
    refine V_zald C 4 rfl (ix_nI (show q < 2 by omega) (by omega)) dX10_restore_17 ?_
    refine V_if_ne (tgt := 24) C dX10_restore_18 (by decide) (fun c_18 => ?_) (fun c_18 => ?_)
    · refine V_aload_n C 0 dX10_restore_24 rfl rfl ?_
      refine V_callVv (q0 := 0) (na := 0) (As := []) (rest := []) (wr := [(h3, .inl (gI g, 226, .inl sl)), (h4, .inl (gZ g, 2, .inl sv))]) C (c_X10_record g h0 h1 h2 h3 h4 h5 h6 h7 pm ty om sp wr z past (show pm ≤ 6 from by first | assumption | omega | exact ix_nI (by omega) (by omega) | decide)) ⟨⟨ini_X10, co_X10_record, ⟨by decide, by decide, by decide +kernel⟩, by decide⟩, ml_X10_45, im_X10_record, se_X10_record⟩ [0, 1, 2] [3, 4] rfl rfl rfl rfl (by decide) rfl rfl rfl rfl (Nat.le_of_ble_eq_true rfl) (by omega) (by omega) dX10_restore_25 (fun w_ hw_4 => ?_)
      obtain rfl := hw_4
      refine V_to (ws2 := [(h3, .inl (gI g, 226, .inl sl)), (h4, .inl (gZ g, 2, .inl sv)), (h0, .inr (10, [.ref h1, .ref h2, .ref h3, .ref h4, .int (nI (min (pm + 1) 6)), .ref h5, .ref h6, .int ty, .ref h7, .int om, .int sp, .int wr])), (h1, .inl (gI g, 113, .inl z)), (h2, .inl (gI g, 678, .inl (recP z past pm)))]) ?_ rfl
      refine V_iconst (v := 0) C dX10_restore_28 (by decide) ?_
      refine V_istore_n (L2 := [(2, .int 0), (0, .ref h0), (1, .int (nI q))]) C dX10_restore_29 rfl (by decide) rfl ?_
      refine V_to (ws2 := [(h3, .inl (gI g, 226, .inl sl)), (h4, .inl (gZ g, 2, .inl sv)), (h0, .inr (10, [.ref h1, .ref h2, .ref h3, .ref h4, .int (nI (min (pm + 1) 6)), .ref h5, .ref h6, .int ty, .ref h7, .int om, .int sp, .int wr])), (h1, .inl (gI g, 113, .inl (cpI sl z (q * 113) 0))), (h2, .inl (gI g, 678, .inl (recP z past pm)))]) ?_ (by rw [cpI_0])
      have loop_30 : ∀ (fu_30 : Nat) (j : Nat), j ≤ 113 → 113 - j < fu_30 → V g X 0 0 [(h3, .inl (gI g, 226, .inl sl)), (h4, .inl (gZ g, 2, .inl sv)), (h0, .inr (10, [.ref h1, .ref h2, .ref h3, .ref h4, .int (nI (min (pm + 1) 6)), .ref h5, .ref h6, .int ty, .ref h7, .int om, .int sp, .int wr])), (h1, .inl (gI g, 113, .inl (cpI sl z (q * 113) j))), (h2, .inl (gI g, 678, .inl (recP z past pm)))] 30 [(0, .ref h0), (1, .int (nI q)), (2, .int (nI j))] [] := by
        intro fu_30
        induction fu_30 with
        | zero => intro j hj hm; exact absurd hm (by omega)
        | succ fu_30 ih_30 =>
          intro j hj hm
          refine V_iload_n C 2 dX10_restore_30 rfl rfl ?_
          refine V_bipush (v := 113) C dX10_restore_31 (by decide) ?_
          refine V_icmp_ge (tgt := 59) C dX10_restore_33 (by decide) (fun c_33 => ?_) (fun c_33 => ?_)
          · have hj2 : j = 113 := by have := lp_ge 113 rfl (by omega) (by omega) c_33; omega
            subst hj2
            refine V_ext (f2 := fun k => sl (q * 113 + k)) (ws2 := [(h3, .inl (gI g, 226, .inl sl)), (h4, .inl (gZ g, 2, .inl sv)), (h0, .inr (10, [.ref h1, .ref h2, .ref h3, .ref h4, .int (nI (min (pm + 1) 6)), .ref h5, .ref h6, .int ty, .ref h7, .int om, .int sp, .int wr])), (h1, .inl (gI g, 113, .inl (fun k => sl (q * 113 + k)))), (h2, .inl (gI g, 678, .inl (recP z past pm)))]) 3 rfl (fun k hk => by rw [cpI_e k hk]) rfl ?_
            refine V_aload_n C 0 dX10_restore_59 rfl rfl ?_
            refine V_get (v := .ref h1) C 2 rfl rfl in_X10 0 (by decide) fl_X10_7 rfl rfl dX10_restore_60 ?_
            refine V_bipush (v := 50) C dX10_restore_63 (by decide) ?_
            refine V_iald C 3 rfl (show ix 50 50 113 from ix_nI (k := 50) (by omega) (by omega)) dX10_restore_65 ?_
            refine V_perm (ws2 := [(h0, .inr (10, [.ref h1, .ref h2, .ref h3, .ref h4, .int (nI (min (pm + 1) 6)), .ref h5, .ref h6, .int ty, .ref h7, .int om, .int sp, .int wr])), (h1, .inl (gI g, 113, .inl (fun k => sl (q * 113 + k)))), (h2, .inl (gI g, 678, .inl (recP z past pm))), (h3, .inl (gI g, 226, .inl sl)), (h4, .inl (gZ g, 2, .inl sv))]) [2, 3, 4, 0, 1] rfl rfl ?_
            refine hret _ _ _ _ dX10_restore_66 ?_
            exact Or.inr (Or.inr ⟨q, by omega, rfl, c_18, rfl, rfl⟩)
          · have hj2 : j < 113 := lp_lt 113 rfl (by omega) (by omega) c_33
            refine V_aload_n C 0 dX10_restore_36 rfl rfl ?_
            refine V_get (v := .ref h1) C 2 rfl rfl in_X10 0 (by decide) fl_X10_7 rfl rfl dX10_restore_37 ?_
            refine V_iload_n C 2 dX10_restore_40 rfl rfl ?_
            refine V_aload_n C 0 dX10_restore_41 rfl rfl ?_
            refine V_get (v := .ref h3) C 2 rfl rfl in_X10 2 (by decide) fl_X10_16 rfl rfl dX10_restore_42 ?_
            refine V_iload_n C 1 dX10_restore_45 rfl rfl ?_
            refine V_bipush (v := 113) C dX10_restore_46 (by decide) ?_
            refine V_imul C dX10_restore_48 ?_
            refine V_ev (show ((nI q) * 113 : Int32) = nI (q * 113) from pk_mul q 113) ?_
            refine V_iload_n C 2 dX10_restore_49 rfl rfl ?_
            refine V_iadd C dX10_restore_50 ?_
            refine V_ev (show ((nI (q * 113)) + (nI j) : Int32) = nI ((q * 113) + j) from nI_add (q * 113) j) ?_
            refine V_iald C 0 rfl (ix_nI (show (q * 113) + j < 226 by omega) (by omega)) dX10_restore_51 ?_
            refine V_iast (ws2 := [(h3, .inl (gI g, 226, .inl sl)), (h4, .inl (gZ g, 2, .inl sv)), (h0, .inr (10, [.ref h1, .ref h2, .ref h3, .ref h4, .int (nI (min (pm + 1) 6)), .ref h5, .ref h6, .int ty, .ref h7, .int om, .int sp, .int wr])), (h1, .inl (gI g, 113, .inl (upd (cpI sl z (q * 113) j) j (sl ((q * 113) + j))))), (h2, .inl (gI g, 678, .inl (recP z past pm)))]) C 3 rfl (ix_nI (show j < 113 by omega) (by omega)) dX10_restore_52 rfl ?_
            refine V_to (ws2 := [(h3, .inl (gI g, 226, .inl sl)), (h4, .inl (gZ g, 2, .inl sv)), (h0, .inr (10, [.ref h1, .ref h2, .ref h3, .ref h4, .int (nI (min (pm + 1) 6)), .ref h5, .ref h6, .int ty, .ref h7, .int om, .int sp, .int wr])), (h1, .inl (gI g, 113, .inl (cpI sl z (q * 113) (j + 1)))), (h2, .inl (gI g, 678, .inl (recP z past pm)))]) ?_ (by rw [← cpI_s])
            refine V_iinc (v := nI (j + 1)) (L2 := [(2, .int (nI (j + 1))), (0, .ref h0), (1, .int (nI q))]) C 2 dX10_restore_53 rfl (nI_add j 1) (by decide) rfl ?_
            refine V_goto (tgt := 30) C dX10_restore_56 (by decide) ?_
            refine V_locs (L2 := [(0, .ref h0), (1, .int (nI q)), (2, .int (nI (j + 1)))]) [1, 2, 0] rfl ?_
            exact ih_30 (j + 1) (show (j + 1) ≤ 113 from by first | assumption | omega | rfl) (by omega)
      refine V_locs (L2 := [(0, .ref h0), (1, .int (nI q)), (2, .int 0)]) [1, 2, 0] rfl ?_
      exact loop_30 (113 - 0 + 1) 0 (show 0 ≤ 113 from by first | assumption | omega | rfl) (by omega)
    · refine V_bipush (v := (-5)) C dX10_restore_21 (by decide) ?_
      refine hret _ _ _ _ dX10_restore_23 ?_
      exact Or.inr (Or.inl ⟨q, by omega, rfl, c_18, rfl, rfl⟩)
  · refine V_to (ws2 := [(h0, .inr (10, [.ref h1, .ref h2, .ref h3, .ref h4, .int (nI pm), .ref h5, .ref h6, .int ty, .ref h7, .int om, .int sp, .int wr])), (h1, .inl (gI g, 113, .inl z)), (h2, .inl (gI g, 678, .inl past)), (h3, .inl (gI g, 226, .inl sl)), (h4, .inl (gZ g, 2, .inl sv))]) ?_ rfl
    refine V_if_ne (tgt := 12) C dX10_restore_6 (by decide) (fun h => absurd rfl h) (fun _ => ?_)
    refine V_bipush (v := (-2)) C dX10_restore_9 (by decide) ?_
    refine hret _ _ _ _ dX10_restore_11 ?_
    exact Or.inl ⟨fun h => (hf2_0).elim h.1 h.2, rfl, rfl⟩
set_option maxRecDepth 100000 in
set_option maxHeartbeats 4000000 in
theorem c_X10_costAt (g : Gd) (h0 : Nat) (h1 : Nat) (h2 : Nat) (h3 : Nat) (h4 : Nat) (h5 : Nat) (h6 : Nat) (h7 : Nat) (pm : Int32) (ty : Int32) (om : Int32) (sp : Int32) (wr : Int32) (z : Nat → Int32) (c0 : Nat) (P : Nat) (S : Nat) (hc0 : c0 < 86400) (hP : P ≤ 9999) (hS1 : 1 ≤ S) (hS2 : S ≤ 9999) (hb : BV z) : Ki g yX10_costAt cX10_costAt 4 (some .int) 4 0 0 [.ref h0, .int (nI c0), .int (nI P), .int (nI S)] [(h0, .inr (10, [.ref h1, .ref h2, .ref h3, .ref h4, .int pm, .ref h5, .ref h6, .int ty, .ref h7, .int om, .int sp, .int wr])), (h1, .inl (gI g, 113, .inl z))] (fun (r : Int32) (w : va_W) => r = costZ z c0 P S 39 ∧ w = [(h0, .inr (10, [.ref h1, .ref h2, .ref h3, .ref h4, .int pm, .ref h5, .ref h6, .int ty, .ref h7, .int om, .int sp, .int wr])), (h1, .inl (gI g, 113, .inl (costZ z c0 P S)))]) := by
  refine Ki.of (by decide) (Nat.le_of_ble_eq_true rfl) (fun X C hI hret => ?_)
  show V g X 0 0 [(h0, .inr (10, [.ref h1, .ref h2, .ref h3, .ref h4, .int pm, .ref h5, .ref h6, .int ty, .ref h7, .int om, .int sp, .int wr])), (h1, .inl (gI g, 113, .inl z))] 0 [(0, .ref h0), (1, .int (nI c0)), (2, .int (nI P)), (3, .int (nI S))] []
  obtain ⟨t, ht, hzt⟩ := hb.2.1 (c0 / 3600) (by omega)
  refine V_aload_n C 0 dX10_costAt_0 rfl rfl ?_
  refine V_get (v := .ref h1) C 0 rfl rfl in_X10 0 (by decide) fl_X10_7 rfl rfl dX10_costAt_1 ?_
  refine V_bipush (v := 37) C dX10_costAt_4 (by decide) ?_
  refine V_iload_n C 1 dX10_costAt_6 rfl rfl ?_
  refine V_iast (ws2 := [(h0, .inr (10, [.ref h1, .ref h2, .ref h3, .ref h4, .int pm, .ref h5, .ref h6, .int ty, .ref h7, .int om, .int sp, .int wr])), (h1, .inl (gI g, 113, .inl (upd z 37 (nI c0))))]) C 1 rfl (show ix 37 37 113 from ix_nI (k := 37) (by omega) (by omega)) dX10_costAt_7 rfl ?_
  refine V_aload_n C 0 dX10_costAt_8 rfl rfl ?_
  refine V_callVi (q0 := 0) (na := 0) (As := []) (rest := []) (wr := []) C (c_X10_hireIt g h0 h1 h2 h3 h4 h5 h6 h7 pm ty om sp wr (upd z 37 (nI c0)) c0 t (show c0 < 86400 from by first | assumption | omega | exact ix_nI (by omega) (by omega) | decide) upd_s ht ((upd_n (by omega)).trans hzt)) ⟨⟨ini_X10, co_X10_hireIt, ⟨by decide, by decide, by decide +kernel⟩, by decide⟩, ml_X10_59, im_X10_hireIt, se_X10_hireIt⟩ [0, 1] [] rfl rfl rfl rfl (by decide) rfl rfl rfl rfl (Nat.le_of_ble_eq_true rfl) (by omega) (by omega) dX10_costAt_9 (fun r_1 w_ hw_2 => ?_)
  obtain ⟨rfl, rfl⟩ := hw_2
  refine V_to (ws2 := [(h0, .inr (10, [.ref h1, .ref h2, .ref h3, .ref h4, .int pm, .ref h5, .ref h6, .int ty, .ref h7, .int om, .int sp, .int wr])), (h1, .inl (gI g, 113, .inl (hireZ (upd z 37 (nI c0)) t)))]) ?_ rfl
  refine V_pop C dX10_costAt_12 rfl ?_
  refine V_aload_n C 0 dX10_costAt_13 rfl rfl ?_
  refine V_iload_n C 2 dX10_costAt_14 rfl rfl ?_
  refine V_iload_n C 3 dX10_costAt_15 rfl rfl ?_
  refine V_callVi (q0 := 0) (na := 2) (As := [.int (nI P), .int (nI S)]) (rest := []) (wr := []) C (c_X10_driveIt g h0 h1 h2 h3 h4 h5 h6 h7 pm ty om sp wr (hireZ (upd z 37 (nI c0)) t) P S (show P ≤ 9999 from by first | assumption | omega | exact ix_nI (by omega) (by omega) | decide) (show 1 ≤ S from by first | assumption | omega | exact ix_nI (by omega) (by omega) | decide) (show S ≤ 9999 from by first | assumption | omega | exact ix_nI (by omega) (by omega) | decide) ((hb.set37 hc0).hire ht)) ⟨⟨ini_X10, co_X10_driveIt, ⟨by decide, by decide, by decide +kernel⟩, by decide⟩, ml_X10_79, im_X10_driveIt, se_X10_driveIt⟩ [0, 1] [] rfl rfl rfl rfl (by decide) rfl rfl rfl rfl (Nat.le_of_ble_eq_true rfl) (by omega) (by omega) dX10_costAt_16 (fun r_3 w_ hw_4 => ?_)
  obtain ⟨rfl, rfl⟩ := hw_4
  refine V_to (ws2 := [(h0, .inr (10, [.ref h1, .ref h2, .ref h3, .ref h4, .int pm, .ref h5, .ref h6, .int ty, .ref h7, .int om, .int sp, .int wr])), (h1, .inl (gI g, 113, .inl (drvF (hireZ (upd z 37 (nI c0)) t) P S)))]) ?_ rfl
  refine V_pop C dX10_costAt_19 rfl ?_
  refine V_to (ws2 := [(h0, .inr (10, [.ref h1, .ref h2, .ref h3, .ref h4, .int pm, .ref h5, .ref h6, .int ty, .ref h7, .int om, .int sp, .int wr])), (h1, .inl (gI g, 113, .inl (costZ z c0 P S)))]) ?_ (by rw [costZ, hzt, nI_clamp (by omega)])
  refine V_aload_n C 0 dX10_costAt_20 rfl rfl ?_
  refine V_get (v := .ref h1) C 0 rfl rfl in_X10 0 (by decide) fl_X10_7 rfl rfl dX10_costAt_21 ?_
  refine V_bipush (v := 39) C dX10_costAt_24 (by decide) ?_
  refine V_iald C 1 rfl (show ix 39 39 113 from ix_nI (k := 39) (by omega) (by omega)) dX10_costAt_26 ?_
  refine hret _ _ _ _ dX10_costAt_27 ?_
  exact ⟨rfl, rfl⟩
