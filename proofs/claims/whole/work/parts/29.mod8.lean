set_option maxRecDepth 100000 in
set_option maxHeartbeats 4000000 in
theorem c_X6_cell (h : List PO) (m : Nat) (v : SV) (hv : Int → SV) (sz ks : Int) (sw : SV) (tx : Int → Int) (len sn se : Int) (c d : Int) (hA : mdA h m v hv sz ks sw tx len sn se) (hI : INV v hv sz ks sw tx len) (hc : inR c) (hd : inR d) : PM 7 yX6_cell cX6_cell 3 (some .int) h [r_ m, i_ c, i_ d] (fun r0 h2 => r0 = some (i_ (cellR v c d)) ∧ Fr h h2 m (m + 5) ∧ mdA h2 m (v) (hv) (sz) (ks) (sw) (tx) (len) (sn) (se)) := by
  refine PM_of_G RX6 [some (r_ m), some (i_ c), some (i_ d)] rfl (by decide +kernel) (Nat.le_of_ble_eq_true rfl) rfl ?_
  obtain ⟨s, mk, co, fi, ca, sp, le, on, tw, hM, hR, hX⟩ := id hA
  obtain ⟨⟨hV, hT⟩, hsz, hhv, hks, hx, hl⟩ := id hI
  obtain ⟨⟨hrd, hrs, hrh⟩, ⟨hs0, hs1, hs2⟩, ⟨hn, hf, hfa⟩, ⟨hc0, hrr, hs, hz⟩, h49, hdi⟩ := id hV
  have hF : Fr h h m (m + 5) := Fr.rf
  obtain ⟨hM0, hM1, hM2, hM3, hM4⟩ := id hM
  obtain ⟨hRc, ⟨hR0, hR1, hR2, hR3, hR4, hR5, hR6⟩, hRw⟩ := rwF.zero hR
  have hc1 := hc.1
  have hc2 := hc.2
  have hd1 := hd.1
  have hd2 := hd.2
  refine G_iload_n dX6_cell_0 rfl rfl ?_
  refine G_callS (as := [_]) (c_X6_isCell _ (c) (inR_of (by omega) (by omega))) dX6_cell_1 ml_X6_74 cs_X6_isCell rfl (Nat.le_of_ble_eq_true rfl) (Nat.le_of_ble_eq_true rfl) rfl (fun r h2 hp => ?_)
  obtain ⟨yc, rfl, rfl, hyc⟩ := hp
  refine G_if_ne (tgt := 9) dX6_cell_4 (by decide) (inR_of (by omega) (by omega)) (fun hc4 => ?_) (fun hc4 => ?_)
  · skip
    refine G_iload_n dX6_cell_9 rfl rfl ?_
    rcases (show (d < 0 ∨ 4 < d) ∨ d = 0 ∨ d = 1 ∨ d = 2 ∨ d = 3 ∨ d = 4 from by omega) with hsw | hsw | hsw | hsw | hsw | hsw
    · skip
      refine G_tblOut (tgt := 90) dX6_cell_10 (inR_of (by omega) (by omega)) hsw (by decide) ?_
      refine G_bipush dX6_cell_90 rfl ?_
      refine G_ireturn dX6_cell_92 rfl ?_
      have e9 : cellR v c d = -2 := by unfold cellR; rw [if_neg (by omega), if_neg (by omega), if_neg (by omega), if_neg (by omega), if_neg (by omega), if_neg (by omega)]
      rw [e9]
      exact ⟨rfl, hF, _, _, _, _, _, _, _, _, _, hM, hR, hX⟩
    · skip
      subst hsw
      refine G_tblIn (tgt := 44) dX6_cell_10 (inR_of (by omega) (by omega)) (by omega) (by omega) rfl (by decide) ?_
      refine G_aload_n dX6_cell_44 rfl rfl ?_
      refine G_getf fl_X6_7 dX6_cell_45 (by assumption) rfl ?_
      refine G_bipush dX6_cell_48 rfl ?_
      refine G_iload_n dX6_cell_50 rfl rfl ?_
      refine G_iadd dX6_cell_51 ?_
      refine G_iald dX6_cell_52 (by assumption) (by omega) (by omega) (by decide) ?_
      refine G_top ((hRc (c) (by omega) (by omega)).1) ?_
      refine G_ireturn dX6_cell_53 rfl ?_
      have e9 : cellR v c 0 = v 0 c := by unfold cellR; rw [if_neg (by omega), if_pos (by omega)]
      rw [e9]
      exact ⟨rfl, hF, _, _, _, _, _, _, _, _, _, hM, hR, hX⟩
    · skip
      subst hsw
      refine G_tblIn (tgt := 54) dX6_cell_10 (inR_of (by omega) (by omega)) (by omega) (by omega) rfl (by decide) ?_
      refine G_aload_n dX6_cell_54 rfl rfl ?_
      refine G_getf fl_X6_7 dX6_cell_55 (by assumption) rfl ?_
      refine G_bipush dX6_cell_58 rfl ?_
      refine G_iload_n dX6_cell_60 rfl rfl ?_
      refine G_iadd dX6_cell_61 ?_
      refine G_iald dX6_cell_62 (by assumption) (by omega) (by omega) (by decide) ?_
      refine G_top ((hRc (c) (by omega) (by omega)).2.1) ?_
      refine G_ireturn dX6_cell_63 rfl ?_
      have e9 : cellR v c 1 = v 1 c := by unfold cellR; rw [if_neg (by omega), if_neg (by omega), if_pos (by omega)]
      rw [e9]
      exact ⟨rfl, hF, _, _, _, _, _, _, _, _, _, hM, hR, hX⟩
    · skip
      subst hsw
      refine G_tblIn (tgt := 64) dX6_cell_10 (inR_of (by omega) (by omega)) (by omega) (by omega) rfl (by decide) ?_
      refine G_aload_n dX6_cell_64 rfl rfl ?_
      refine G_getf fl_X6_7 dX6_cell_65 (by assumption) rfl ?_
      refine G_bipush dX6_cell_68 rfl ?_
      refine G_iload_n dX6_cell_70 rfl rfl ?_
      refine G_iadd dX6_cell_71 ?_
      refine G_iald dX6_cell_72 (by assumption) (by omega) (by omega) (by decide) ?_
      refine G_top ((hRc (c) (by omega) (by omega)).2.2.1) ?_
      refine G_ireturn dX6_cell_73 rfl ?_
      have e9 : cellR v c 2 = v 2 c := by unfold cellR; rw [if_neg (by omega), if_neg (by omega), if_neg (by omega), if_pos (by omega)]
      rw [e9]
      exact ⟨rfl, hF, _, _, _, _, _, _, _, _, _, hM, hR, hX⟩
    · skip
      subst hsw
      refine G_tblIn (tgt := 74) dX6_cell_10 (inR_of (by omega) (by omega)) (by omega) (by omega) rfl (by decide) ?_
      refine G_aload_n dX6_cell_74 rfl rfl ?_
      refine G_iload_n dX6_cell_75 rfl rfl ?_
      refine G_callV (ci := 6) (as := [_]) (c_X6_wellBeside _ m s tx mk co sz ks len sn se fi ca sp le on tw c (v 0) (v 1) (v 2) (v 3) (v 4) (v 5) (v 6) (v 7) (v 8) (v 9) (v 11 0) (v 10) (v 11 1) (v 11 2) (v 11 3) hM hR hn hc0 hc) dX6_cell_76 ml_X6_81 cv_X6_wellBeside (by assumption) rfl rfl (Nat.le_of_ble_eq_true rfl) (Nat.le_of_ble_eq_true rfl) rfl (fun r h2 hp => ?_)
      obtain ⟨rfl, rfl⟩ := hp
      refine G_ireturn dX6_cell_79 rfl ?_
      have e9 : cellR v c 3 = besN (v 4) c (v 11 0).toNat := by unfold cellR; rw [if_neg (by omega), if_neg (by omega), if_neg (by omega), if_neg (by omega), if_pos (by omega)]
      rw [e9]
      exact ⟨rfl, hF, _, _, _, _, _, _, _, _, _, hM, hR, hX⟩
    · skip
      subst hsw
      refine G_tblIn (tgt := 80) dX6_cell_10 (inR_of (by omega) (by omega)) (by omega) (by omega) rfl (by decide) ?_
      refine G_aload_n dX6_cell_80 rfl rfl ?_
      refine G_getf fl_X6_7 dX6_cell_81 (by assumption) rfl ?_
      refine G_bipush dX6_cell_84 rfl ?_
      refine G_iload_n dX6_cell_86 rfl rfl ?_
      refine G_iadd dX6_cell_87 ?_
      refine G_iald dX6_cell_88 (by assumption) (by omega) (by omega) (by decide) ?_
      refine G_top ((hRc (c) (by omega) (by omega)).2.2.2) ?_
      refine G_ireturn dX6_cell_89 rfl ?_
      have e9 : cellR v c 4 = v 3 c := by unfold cellR; rw [if_neg (by omega), if_neg (by omega), if_neg (by omega), if_neg (by omega), if_neg (by omega), if_pos (by omega)]
      rw [e9]
      exact ⟨rfl, hF, _, _, _, _, _, _, _, _, _, hM, hR, hX⟩
  · skip
    refine G_iconst dX6_cell_7 ?_
    refine G_ireturn dX6_cell_8 rfl ?_
    have e9 : cellR v c d = -1 := by unfold cellR; rw [if_pos (by omega)]
    rw [e9]
    exact ⟨rfl, hF, _, _, _, _, _, _, _, _, _, hM, hR, hX⟩
set_option maxRecDepth 100000 in
set_option maxHeartbeats 4000000 in
theorem c_X6_well (h : List PO) (m : Nat) (v : SV) (hv : Int → SV) (sz ks : Int) (sw : SV) (tx : Int → Int) (len sn se : Int) (c d : Int) (hA : mdA h m v hv sz ks sw tx len sn se) (hI : INV v hv sz ks sw tx len) (hc : inR c) (hd : inR d) : PM 7 yX6_well cX6_well 4 (some .int) h [r_ m, i_ c, i_ d] (fun r0 h2 => r0 = some (i_ (wellR v c d)) ∧ Fr h h2 m (m + 5) ∧ mdA h2 m (v) (hv) (sz) (ks) (sw) (tx) (len) (sn) (se)) := by
  refine PM_of_G RX6 [some (r_ m), some (i_ c), some (i_ d), none] rfl (by decide +kernel) (Nat.le_of_ble_eq_true rfl) rfl ?_
  obtain ⟨s, mk, co, fi, ca, sp, le, on, tw, hM, hR, hX⟩ := id hA
  obtain ⟨⟨hV, hT⟩, hsz, hhv, hks, hx, hl⟩ := id hI
  obtain ⟨⟨hrd, hrs, hrh⟩, ⟨hs0, hs1, hs2⟩, ⟨hn, hf, hfa⟩, ⟨hc0, hrr, hs, hz⟩, h49, hdi⟩ := id hV
  have hF : Fr h h m (m + 5) := Fr.rf
  obtain ⟨hM0, hM1, hM2, hM3, hM4⟩ := id hM
  obtain ⟨hRc, ⟨hR0, hR1, hR2, hR3, hR4, hR5, hR6⟩, hRw⟩ := rwF.zero hR
  have hc1 := hc.1
  have hc2 := hc.2
  have hd1 := hd.1
  have hd2 := hd.2
  refine G_aload_n dX6_well_0 rfl rfl ?_
  refine G_iload_n dX6_well_1 rfl rfl ?_
  refine G_callV (ci := 6) (as := [_]) (c_X6_isWell _ m s tx mk co sz ks len sn se fi ca sp le on tw (v 11 0) c hM hR6 hn hc) dX6_well_2 ml_X6_84 cv_X6_isWell (by assumption) rfl rfl (Nat.le_of_ble_eq_true rfl) (Nat.le_of_ble_eq_true rfl) rfl (fun r h2 hp => ?_)
  obtain ⟨yw, rfl, rfl, hyw⟩ := hp
  refine G_if_ne (tgt := 10) dX6_well_5 (by decide) (inR_of (by omega) (by omega)) (fun hc5 => ?_) (fun hc5 => ?_)
  · skip
    refine G_iconst dX6_well_10 ?_
    refine G_iload_n dX6_well_11 rfl rfl ?_
    refine G_callS (as := [_, _]) (c_X6_wellAt _ 0 c) dX6_well_12 ml_X6_46 cs_X6_wellAt rfl (Nat.le_of_ble_eq_true rfl) (Nat.le_of_ble_eq_true rfl) rfl (fun r h2 hp => ?_)
    obtain ⟨rfl, rfl⟩ := hp
    refine G_istore_n dX6_well_15 rfl (by decide) rfl ?_
    refine G_iload_n dX6_well_16 rfl rfl ?_
    refine G_iconst dX6_well_17 ?_
    refine G_iconst dX6_well_18 ?_
    refine G_callS (as := [_, _, _]) (c_X6_in _ (d) (0) (3) (inR_of (by omega) (by omega)) (inR_of (by omega) (by omega)) (inR_of (by omega) (by omega))) dX6_well_19 ml_X6_70 cs_X6_in rfl (Nat.le_of_ble_eq_true rfl) (Nat.le_of_ble_eq_true rfl) rfl (fun r h2 hp => ?_)
    obtain ⟨y1, rfl, rfl, hy1⟩ := hp
    refine G_if_eq (tgt := 36) dX6_well_22 (by decide) (inR_of (by omega) (by omega)) (fun hc22 => ?_) (fun hc22 => ?_)
    · skip
      refine G_iload_n dX6_well_36 rfl rfl ?_
      refine G_iconst dX6_well_37 ?_
      refine G_icmp_ne (tgt := 50) dX6_well_38 (by decide) (inR_of (by omega) (by omega)) (inR_of (by omega) (by omega)) (fun hc38 => ?_) (fun hc38 => ?_)
      · skip
        refine G_iload_n dX6_well_50 rfl rfl ?_
        refine G_iconst dX6_well_51 ?_
        refine G_bipush dX6_well_52 rfl ?_
        refine G_callS (as := [_, _, _]) (c_X6_in _ (d) (5) (6) (inR_of (by omega) (by omega)) (inR_of (by omega) (by omega)) (inR_of (by omega) (by omega))) dX6_well_54 ml_X6_70 cs_X6_in rfl (Nat.le_of_ble_eq_true rfl) (Nat.le_of_ble_eq_true rfl) rfl (fun r h2 hp => ?_)
        obtain ⟨y2, rfl, rfl, hy2⟩ := hp
        refine G_if_eq (tgt := 73) dX6_well_57 (by decide) (inR_of (by omega) (by omega)) (fun hc57 => ?_) (fun hc57 => ?_)
        · skip
          refine G_bipush dX6_well_73 rfl ?_
          refine G_ireturn dX6_well_75 rfl ?_
          first
            | exact ⟨rfl, hF, _, _, _, _, _, _, _, _, _, hM, hR, hX⟩
            | (have e9 : wellR v c d = conI (v 4) (v 5) (v 7) (v 11 0) c := by
                 unfold wellR tellR
                 rw [if_neg (by omega), if_neg (by omega), if_neg (by omega), if_neg (by omega), if_neg (by omega), if_pos (by omega)]
               rw [e9]
               exact ⟨rfl, hF, _, _, _, _, _, _, _, _, _, hM, hR, hX⟩)
            | (have e9 : wellR v c d = -2 := by
                 unfold wellR tellR
                 rw [if_neg (by omega), if_neg (by omega), if_neg (by omega), if_neg (by omega), if_neg (by omega), if_neg (by omega), if_neg (by omega), if_neg (by omega)]
               rw [e9]
               exact ⟨rfl, hF, _, _, _, _, _, _, _, _, _, hM, hR, hX⟩)
        · skip
          have e8 : s (0 + 167 + 6 * c + d - 1) = wellR v c d := by
            obtain ⟨g0, g1, g2, g3, g4, g5⟩ := hRw c (by omega) (by omega)
            unfold wellR tellR
            rw [if_neg (by omega), if_neg (by omega), if_neg (by omega), if_neg (by omega), if_neg (by omega), if_neg (by omega)]
            rcases (show d = 5 ∨ d = 6 from by omega) with q | q
            · rw [q, if_pos rfl, show 0 + 167 + 6 * c + 5 - 1 = 0 + 167 + 6 * c + 4 from by omega]; exact g4
            · rw [q, if_neg (by omega), if_pos rfl, show 0 + 167 + 6 * c + 6 - 1 = 0 + 167 + 6 * c + 5 from by omega]; exact g5
          refine G_aload_n dX6_well_60 rfl rfl ?_
          refine G_getf fl_X6_7 dX6_well_61 (by assumption) rfl ?_
          refine G_iload_n dX6_well_64 rfl rfl ?_
          refine G_iload_n dX6_well_65 rfl rfl ?_
          refine G_iadd dX6_well_66 ?_
          refine G_iconst dX6_well_67 ?_
          refine G_isub dX6_well_68 ?_
          refine G_iald dX6_well_69 (by assumption) (by omega) (by omega) (by decide) ?_
          refine G_top (e8) ?_
          refine G_goto (tgt := 75) dX6_well_70 (by decide) ?_
          refine G_ireturn dX6_well_75 rfl ?_
          first
            | exact ⟨rfl, hF, _, _, _, _, _, _, _, _, _, hM, hR, hX⟩
            | (have e9 : wellR v c d = conI (v 4) (v 5) (v 7) (v 11 0) c := by
                 unfold wellR tellR
                 rw [if_neg (by omega), if_neg (by omega), if_neg (by omega), if_neg (by omega), if_neg (by omega), if_pos (by omega)]
               rw [e9]
               exact ⟨rfl, hF, _, _, _, _, _, _, _, _, _, hM, hR, hX⟩)
            | (have e9 : wellR v c d = -2 := by
                 unfold wellR tellR
                 rw [if_neg (by omega), if_neg (by omega), if_neg (by omega), if_neg (by omega), if_neg (by omega), if_neg (by omega), if_neg (by omega), if_neg (by omega)]
               rw [e9]
               exact ⟨rfl, hF, _, _, _, _, _, _, _, _, _, hM, hR, hX⟩)
      · skip
        refine G_aload_n dX6_well_41 rfl rfl ?_
        refine G_iconst dX6_well_42 ?_
        refine G_iload_n dX6_well_43 rfl rfl ?_
        refine G_callV (ci := 6) (as := [_, _]) (c_X6_cone _ m s tx mk co sz ks len sn se fi ca sp le on tw 0 c (v 0) (v 1) (v 2) (v 3) (v 4) (v 5) (v 6) (v 7) (v 8) (v 9) (v 11 0) (v 10) (v 11 1) (v 11 2) (v 11 3) hM (by omega) (by omega) hR hn hc0 hrr hz (by omega) (by omega)) dX6_well_44 ml_X6_60 cv_X6_cone (by assumption) rfl rfl (Nat.le_of_ble_eq_true rfl) (Nat.le_of_ble_eq_true rfl) rfl (fun r h2 hp => ?_)
        obtain ⟨rfl, rfl⟩ := hp
        refine G_goto (tgt := 75) dX6_well_47 (by decide) ?_
        refine G_ireturn dX6_well_75 rfl ?_
        first
          | exact ⟨rfl, hF, _, _, _, _, _, _, _, _, _, hM, hR, hX⟩
          | (have e9 : wellR v c d = conI (v 4) (v 5) (v 7) (v 11 0) c := by
               unfold wellR tellR
               rw [if_neg (by omega), if_neg (by omega), if_neg (by omega), if_neg (by omega), if_neg (by omega), if_pos (by omega)]
             rw [e9]
             exact ⟨rfl, hF, _, _, _, _, _, _, _, _, _, hM, hR, hX⟩)
          | (have e9 : wellR v c d = -2 := by
               unfold wellR tellR
               rw [if_neg (by omega), if_neg (by omega), if_neg (by omega), if_neg (by omega), if_neg (by omega), if_neg (by omega), if_neg (by omega), if_neg (by omega)]
             rw [e9]
             exact ⟨rfl, hF, _, _, _, _, _, _, _, _, _, hM, hR, hX⟩)
    · skip
      have e8 : s (0 + 167 + 6 * c + d) = wellR v c d := by
        obtain ⟨g0, g1, g2, g3, g4, g5⟩ := hRw c (by omega) (by omega)
        unfold wellR tellR
        rw [if_neg (by omega)]
        rcases (show d = 0 ∨ d = 1 ∨ d = 2 ∨ d = 3 from by omega) with q | q | q | q
        · rw [q, if_pos rfl, Int.add_zero]; exact g0
        · rw [q, if_neg (by omega), if_pos rfl]; exact g1
        · rw [q, if_neg (by omega), if_neg (by omega), if_pos rfl]; exact g2
        · rw [q, if_neg (by omega), if_neg (by omega), if_neg (by omega), if_pos rfl]; exact g3
      refine G_aload_n dX6_well_25 rfl rfl ?_
      refine G_getf fl_X6_7 dX6_well_26 (by assumption) rfl ?_
      refine G_iload_n dX6_well_29 rfl rfl ?_
      refine G_iload_n dX6_well_30 rfl rfl ?_
      refine G_iadd dX6_well_31 ?_
      refine G_iald dX6_well_32 (by assumption) (by omega) (by omega) (by decide) ?_
      refine G_top (e8) ?_
      refine G_goto (tgt := 75) dX6_well_33 (by decide) ?_
      refine G_ireturn dX6_well_75 rfl ?_
      first
        | exact ⟨rfl, hF, _, _, _, _, _, _, _, _, _, hM, hR, hX⟩
        | (have e9 : wellR v c d = conI (v 4) (v 5) (v 7) (v 11 0) c := by
             unfold wellR tellR
             rw [if_neg (by omega), if_neg (by omega), if_neg (by omega), if_neg (by omega), if_neg (by omega), if_pos (by omega)]
           rw [e9]
           exact ⟨rfl, hF, _, _, _, _, _, _, _, _, _, hM, hR, hX⟩)
        | (have e9 : wellR v c d = -2 := by
             unfold wellR tellR
             rw [if_neg (by omega), if_neg (by omega), if_neg (by omega), if_neg (by omega), if_neg (by omega), if_neg (by omega), if_neg (by omega), if_neg (by omega)]
           rw [e9]
           exact ⟨rfl, hF, _, _, _, _, _, _, _, _, _, hM, hR, hX⟩)
  · skip
    refine G_iconst dX6_well_8 ?_
    refine G_ireturn dX6_well_9 rfl ?_
    have e9 : wellR v c d = -1 := by unfold wellR tellR; rw [if_pos (by omega)]
    rw [e9]
    exact ⟨rfl, hF, _, _, _, _, _, _, _, _, _, hM, hR, hX⟩
set_option maxRecDepth 100000 in
set_option maxHeartbeats 4000000 in
theorem c_X6_reach (h : List PO) (m : Nat) (v : SV) (hv : Int → SV) (sz ks : Int) (sw : SV) (tx : Int → Int) (len sn se : Int) (hA : mdA h m v hv sz ks sw tx len sn se) (hI : INV v hv sz ks sw tx len) : PM 7 yX6_reach cX6_reach 1 (some .int) h [r_ m] (fun r0 h2 => r0 = some (i_ (reachN (v 2) 40)) ∧ Fr h h2 m (m + 5) ∧ mdA h2 m (v) (hv) (sz) (ks) (sw) (tx) (len) (sn) (se)) := by
  refine PM_of_G RX6 [some (r_ m)] rfl (by decide +kernel) (Nat.le_of_ble_eq_true rfl) rfl ?_
  obtain ⟨s, mk, co, fi, ca, sp, le, on, tw, hM, hR, hX⟩ := id hA
  obtain ⟨⟨hV, hT⟩, hsz, hhv, hks, hx, hl⟩ := id hI
  obtain ⟨⟨hrd, hrs, hrh⟩, ⟨hs0, hs1, hs2⟩, ⟨hn, hf, hfa⟩, ⟨hc0, hrr, hs, hz⟩, h49, hdi⟩ := id hV
  have hF : Fr h h m (m + 5) := Fr.rf
  obtain ⟨hM0, hM1, hM2, hM3, hM4⟩ := id hM
  refine G_aload_n dX6_reach_0 rfl rfl ?_
  refine G_iconst dX6_reach_1 ?_
  refine G_callV (ci := 6) (as := [_]) (c_X6_reachOf _ m s tx mk co sz ks len sn se fi ca sp le on tw 0 (v 0) (v 1) (v 2) (v 3) (v 4) (v 5) (v 6) (v 7) (v 8) (v 9) (v 11 0) (v 10) (v 11 1) (v 11 2) (v 11 3) hM (by omega) (by omega) hR hrh) dX6_reach_2 ml_X6_66 cv_X6_reachOf (by assumption) rfl rfl (Nat.le_of_ble_eq_true rfl) (Nat.le_of_ble_eq_true rfl) rfl (fun r h2 hp => ?_)
  obtain ⟨rfl, rfl⟩ := hp
  refine G_ireturn dX6_reach_5 rfl ?_
  exact ⟨rfl, hF, _, _, _, _, _, _, _, _, _, hM, hR, hX⟩
set_option maxRecDepth 100000 in
set_option maxHeartbeats 4000000 in
theorem c_X6_mark (h : List PO) (m : Nat) (v : SV) (hv : Int → SV) (sz ks : Int) (sw : SV) (tx : Int → Int) (len sn se : Int) (c d : Int) (hA : mdA h m v hv sz ks sw tx len sn se) (hI : INV v hv sz ks sw tx len) (hc : inR c) (hd : inR d) : PM 7 yX6_mark cX6_mark 3 (some .int) h [r_ m, i_ c, i_ d] (fun r0 h2 => r0 = some (i_ (markR v c d)) ∧ Fr h h2 m (m + 5) ∧ mdA h2 m (v) (hv) (sz) (ks) (sw) (tx) (len) (sn) (se)) := by
  refine PM_of_G RX6 [some (r_ m), some (i_ c), some (i_ d)] rfl (by decide +kernel) (Nat.le_of_ble_eq_true rfl) rfl ?_
  obtain ⟨s, mk, co, fi, ca, sp, le, on, tw, hM, hR, hX⟩ := id hA
  obtain ⟨⟨hV, hT⟩, hsz, hhv, hks, hx, hl⟩ := id hI
  obtain ⟨⟨hrd, hrs, hrh⟩, ⟨hs0, hs1, hs2⟩, ⟨hn, hf, hfa⟩, ⟨hc0, hrr, hs, hz⟩, h49, hdi⟩ := id hV
  have hF : Fr h h m (m + 5) := Fr.rf
  obtain ⟨hM0, hM1, hM2, hM3, hM4⟩ := id hM
  have hc1 := hc.1
  have hc2 := hc.2
  have hd1 := hd.1
  have hd2 := hd.2
  refine G_iload_n dX6_mark_0 rfl rfl ?_
  refine G_callS (as := [_]) (c_X6_isCell _ (c) (inR_of (by omega) (by omega))) dX6_mark_1 ml_X6_74 cs_X6_isCell rfl (Nat.le_of_ble_eq_true rfl) (Nat.le_of_ble_eq_true rfl) rfl (fun r h2 hp => ?_)
  obtain ⟨yc, rfl, rfl, hyc⟩ := hp
  refine G_if_ne (tgt := 9) dX6_mark_4 (by decide) (inR_of (by omega) (by omega)) (fun hc4 => ?_) (fun hc4 => ?_)
  · skip
    refine G_iload_n dX6_mark_9 rfl rfl ?_
    refine G_callS (as := [_]) (c_X6_isRise _ (d) (inR_of (by omega) (by omega))) dX6_mark_10 ml_X6_87 cs_X6_isRise rfl (Nat.le_of_ble_eq_true rfl) (Nat.le_of_ble_eq_true rfl) rfl (fun r h2 hp => ?_)
    obtain ⟨yr, rfl, rfl, hyr⟩ := hp
    refine G_if_ne (tgt := 19) dX6_mark_13 (by decide) (inR_of (by omega) (by omega)) (fun hc13 => ?_) (fun hc13 => ?_)
    · skip
      refine G_aload_n dX6_mark_19 rfl rfl ?_
      refine G_iconst dX6_mark_20 ?_
      refine G_iload_n dX6_mark_21 rfl rfl ?_
      refine G_callV (ci := 6) (as := [_, _]) (c_X6_findsMarks _ m s tx mk co sz ks len sn se fi ca sp le on tw 0 d (v 0) (v 1) (v 2) (v 3) (v 4) (v 5) (v 6) (v 7) (v 8) (v 9) (v 11 0) (v 10) (v 11 1) (v 11 2) (v 11 3) hM (by omega) (by omega) hR hrd hrs hrh ⟨hs0, hs1, hs2⟩ hf (by omega)) dX6_mark_22 ml_X6_57 cv_X6_findsMarks (by assumption) rfl rfl (Nat.le_of_ble_eq_true rfl) (Nat.le_of_ble_eq_true rfl) rfl (fun r h2 hp => ?_)
      obtain ⟨rfl, hF, mk2, hM, hmk⟩ := hp
      obtain ⟨hM0, hM1, hM2, hM3, hM4⟩ := id hM
      refine G_aload_n dX6_mark_25 rfl rfl ?_
      refine G_getf fl_X6_23 dX6_mark_26 (by assumption) rfl ?_
      refine G_iload_n dX6_mark_29 rfl rfl ?_
      refine G_iald dX6_mark_30 (by assumption) (by omega) (by omega) (by decide) ?_
      refine G_top (hmk c (by omega) (by omega)) ?_
      refine G_ireturn dX6_mark_31 rfl ?_
      have e9 : markR v c d = mkI (v 10 0 + d - v 11 1) (v 10 1) (v 1) (v 0) c := by unfold markR pushI; rw [if_neg (by omega), if_neg (by omega)]
      rw [e9]
      exact ⟨rfl, hF, _, _, _, _, _, _, _, _, _, hM, hR, hX⟩
    · skip
      refine G_bipush dX6_mark_16 rfl ?_
      refine G_ireturn dX6_mark_18 rfl ?_
      have e9 : markR v c d = -2 := by unfold markR; rw [if_neg (by omega), if_pos (by omega)]
      rw [e9]
      exact ⟨rfl, hF, _, _, _, _, _, _, _, _, _, hM, hR, hX⟩
  · skip
    refine G_iconst dX6_mark_7 ?_
    refine G_ireturn dX6_mark_8 rfl ?_
    have e9 : markR v c d = -1 := by unfold markR; rw [if_pos (by omega)]
    rw [e9]
    exact ⟨rfl, hF, _, _, _, _, _, _, _, _, _, hM, hR, hX⟩
set_option maxRecDepth 100000 in
set_option maxHeartbeats 4000000 in
theorem c_X6_stopCell (h : List PO) (m : Nat) (v : SV) (hv : Int → SV) (sz ks : Int) (sw : SV) (tx : Int → Int) (len sn se : Int) (c : Int) (hA : mdA h m v hv sz ks sw tx len sn se) (hI : INV v hv sz ks sw tx len) (hc : inR c) : PM 7 yX6_stopCell cX6_stopCell 2 (some .int) h [r_ m, i_ c] (fun r0 h2 => r0 = some (i_ (stopR v c)) ∧ Fr h h2 m (m + 5) ∧ mdA h2 m (v) (hv) (sz) (ks) (sw) (tx) (len) (sn) (se)) := by
  refine PM_of_G RX6 [some (r_ m), some (i_ c)] rfl (by decide +kernel) (Nat.le_of_ble_eq_true rfl) rfl ?_
  obtain ⟨s, mk, co, fi, ca, sp, le, on, tw, hM, hR, hX⟩ := id hA
  obtain ⟨⟨hV, hT⟩, hsz, hhv, hks, hx, hl⟩ := id hI
  obtain ⟨⟨hrd, hrs, hrh⟩, ⟨hs0, hs1, hs2⟩, ⟨hn, hf, hfa⟩, ⟨hc0, hrr, hs, hz⟩, h49, hdi⟩ := id hV
  have hF : Fr h h m (m + 5) := Fr.rf
  obtain ⟨hM0, hM1, hM2, hM3, hM4⟩ := id hM
  have hc1 := hc.1
  have hc2 := hc.2
  refine G_iload_n dX6_stopCell_0 rfl rfl ?_
  refine G_callS (as := [_]) (c_X6_isRise _ (c) (inR_of (by omega) (by omega))) dX6_stopCell_1 ml_X6_87 cs_X6_isRise rfl (Nat.le_of_ble_eq_true rfl) (Nat.le_of_ble_eq_true rfl) rfl (fun r h2 hp => ?_)
  obtain ⟨yr, rfl, rfl, hyr⟩ := hp
  refine G_if_ne (tgt := 10) dX6_stopCell_4 (by decide) (inR_of (by omega) (by omega)) (fun hc4 => ?_) (fun hc4 => ?_)
  · skip
    refine G_aload_n dX6_stopCell_10 rfl rfl ?_
    refine G_iconst dX6_stopCell_11 ?_
    refine G_iload_n dX6_stopCell_12 rfl rfl ?_
    refine G_callV (ci := 6) (as := [_, _]) (c_X6_findsMarks _ m s tx mk co sz ks len sn se fi ca sp le on tw 0 c (v 0) (v 1) (v 2) (v 3) (v 4) (v 5) (v 6) (v 7) (v 8) (v 9) (v 11 0) (v 10) (v 11 1) (v 11 2) (v 11 3) hM (by omega) (by omega) hR hrd hrs hrh ⟨hs0, hs1, hs2⟩ hf (by omega)) dX6_stopCell_13 ml_X6_57 cv_X6_findsMarks (by assumption) rfl rfl (Nat.le_of_ble_eq_true rfl) (Nat.le_of_ble_eq_true rfl) rfl (fun r h2 hp => ?_)
    obtain ⟨rfl, hF, mk2, hM, hmk⟩ := hp
    obtain ⟨hM0, hM1, hM2, hM3, hM4⟩ := id hM
    refine G_aload_n dX6_stopCell_16 rfl rfl ?_
    refine G_getf fl_X6_36 dX6_stopCell_17 (by assumption) rfl ?_
    refine G_ireturn dX6_stopCell_20 rfl ?_
    have e9 : stopR v c = fiI (stI (v 10 0 + c - v 11 1) (v 10 1) (v 1) (v 0)) 40 := by unfold stopR pushI fiI; rw [if_neg (by omega)]
    rw [e9]
    exact ⟨rfl, hF, _, _, _, _, _, _, _, _, _, hM, hR, hX⟩
  · skip
    refine G_bipush dX6_stopCell_7 rfl ?_
    refine G_ireturn dX6_stopCell_9 rfl ?_
    have e9 : stopR v c = -2 := by unfold stopR; rw [if_pos (by omega)]
    rw [e9]
    exact ⟨rfl, hF, _, _, _, _, _, _, _, _, _, hM, hR, hX⟩
set_option maxRecDepth 100000 in
set_option maxHeartbeats 4000000 in
theorem c_X6_reason (h : List PO) (m : Nat) (v : SV) (hv : Int → SV) (sz ks : Int) (sw : SV) (tx : Int → Int) (len sn se : Int) (c d : Int) (hA : mdA h m v hv sz ks sw tx len sn se) (hI : INV v hv sz ks sw tx len) (hc : inR c) (hd : inR d) : PM 7 yX6_reason cX6_reason 3 (some .int) h [r_ m, i_ c, i_ d] (fun r0 h2 => r0 = some (i_ (whyR v c d)) ∧ Fr h h2 m (m + 5) ∧ mdA h2 m (v) (hv) (sz) (ks) (sw) (tx) (len) (sn) (se)) := by
  refine PM_of_G RX6 [some (r_ m), some (i_ c), some (i_ d)] rfl (by decide +kernel) (Nat.le_of_ble_eq_true rfl) rfl ?_
  obtain ⟨s, mk, co, fi, ca, sp, le, on, tw, hM, hR, hX⟩ := id hA
  obtain ⟨⟨hV, hT⟩, hsz, hhv, hks, hx, hl⟩ := id hI
  obtain ⟨⟨hrd, hrs, hrh⟩, ⟨hs0, hs1, hs2⟩, ⟨hn, hf, hfa⟩, ⟨hc0, hrr, hs, hz⟩, h49, hdi⟩ := id hV
  have hF : Fr h h m (m + 5) := Fr.rf
  obtain ⟨hM0, hM1, hM2, hM3, hM4⟩ := id hM
  obtain ⟨hRc, ⟨hR0, hR1, hR2, hR3, hR4, hR5, hR6⟩, hRw⟩ := rwF.zero hR
  have hc1 := hc.1
  have hc2 := hc.2
  have hd1 := hd.1
  have hd2 := hd.2
  refine G_iload_n dX6_reason_0 rfl rfl ?_
  refine G_callS (as := [_]) (c_X6_isCell _ (c) (inR_of (by omega) (by omega))) dX6_reason_1 ml_X6_74 cs_X6_isCell rfl (Nat.le_of_ble_eq_true rfl) (Nat.le_of_ble_eq_true rfl) rfl (fun r h2 hp => ?_)
  obtain ⟨yc, rfl, rfl, hyc⟩ := hp
  refine G_if_ne (tgt := 9) dX6_reason_4 (by decide) (inR_of (by omega) (by omega)) (fun hc4 => ?_) (fun hc4 => ?_)
  · skip
    refine G_iload_n dX6_reason_9 rfl rfl ?_
    refine G_callS (as := [_]) (c_X6_isRise _ (d) (inR_of (by omega) (by omega))) dX6_reason_10 ml_X6_87 cs_X6_isRise rfl (Nat.le_of_ble_eq_true rfl) (Nat.le_of_ble_eq_true rfl) rfl (fun r h2 hp => ?_)
    obtain ⟨yr, rfl, rfl, hyr⟩ := hp
    refine G_if_ne (tgt := 19) dX6_reason_13 (by decide) (inR_of (by omega) (by omega)) (fun hc13 => ?_) (fun hc13 => ?_)
    · skip
      refine G_aload_n dX6_reason_19 rfl rfl ?_
      refine G_iconst dX6_reason_20 ?_
      refine G_iload_n dX6_reason_21 rfl rfl ?_
      refine G_callV (ci := 6) (as := [_, _]) (c_X6_findsMarks _ m s tx mk co sz ks len sn se fi ca sp le on tw 0 d (v 0) (v 1) (v 2) (v 3) (v 4) (v 5) (v 6) (v 7) (v 8) (v 9) (v 11 0) (v 10) (v 11 1) (v 11 2) (v 11 3) hM (by omega) (by omega) hR hrd hrs hrh ⟨hs0, hs1, hs2⟩ hf (by omega)) dX6_reason_22 ml_X6_57 cv_X6_findsMarks (by assumption) rfl rfl (Nat.le_of_ble_eq_true rfl) (Nat.le_of_ble_eq_true rfl) rfl (fun r h2 hp => ?_)
      obtain ⟨rfl, hF, mk2, hM, hmk⟩ := hp
      obtain ⟨hM0, hM1, hM2, hM3, hM4⟩ := id hM
      have hIs := stI_is (v 10 0 + d - v 11 1) (v 10 1) (v 1) (v 0)
      have hmi := mk_iff (t := stI (v 10 0 + d - v 11 1) (v 10 1) (v 1) (v 0)) hs1.1 hrs hrd hIs (c := c) (by omega) (by omega)
      have hmr := mkI_rng (push := (v 10 0 + d - v 11 1)) (slope := v 10 1) hrs hrd (c := c) (by omega) (by omega)
      have hor := offI_rng (push := (v 10 0 + d - v 11 1)) (slope := v 10 1) (by omega) hs1 hrs hrd (stI (v 10 0 + d - v 11 1) (v 10 1) (v 1) (v 0)) hIs.1 hIs.2.1
      have hca : stI (v 10 0 + d - v 11 1) (v 10 1) (v 1) (v 0) ≤ c → caI (offI (v 10 0 + d - v 11 1) (v 10 1) (v 1) (v 0)) (stI (v 10 0 + d - v 11 1) (v 10 1) (v 1) (v 0)) 40 = offI (v 10 0 + d - v 11 1) (v 10 1) (v 1) (v 0) (stI (v 10 0 + d - v 11 1) (v 10 1) (v 1) (v 0)) := fun q => if_pos (by omega)
      have hca2 : -200 ≤ caI (offI (v 10 0 + d - v 11 1) (v 10 1) (v 1) (v 0)) (stI (v 10 0 + d - v 11 1) (v 10 1) (v 1) (v 0)) 40 ∧ caI (offI (v 10 0 + d - v 11 1) (v 10 1) (v 1) (v 0)) (stI (v 10 0 + d - v 11 1) (v 10 1) (v 1) (v 0)) 40 ≤ 200 := by
        unfold caI
        split <;> omega
      have hlt : mkI (v 10 0 + d - v 11 1) (v 10 1) (v 1) (v 0) c = 0 ∨ 0 < mkI (v 10 0 + d - v 11 1) (v 10 1) (v 1) (v 0) c := by omega
      have hm1 : mkI (v 10 0 + d - v 11 1) (v 10 1) (v 1) (v 0) c = 0 → stI (v 10 0 + d - v 11 1) (v 10 1) (v 1) (v 0) ≤ c := hmi.mp
      have hm2 : stI (v 10 0 + d - v 11 1) (v 10 1) (v 1) (v 0) ≤ c → mkI (v 10 0 + d - v 11 1) (v 10 1) (v 1) (v 0) c = 0 := hmi.mpr
      refine G_aload_n dX6_reason_25 rfl rfl ?_
      refine G_getf fl_X6_23 dX6_reason_26 (by assumption) rfl ?_
      refine G_iload_n dX6_reason_29 rfl rfl ?_
      refine G_iald dX6_reason_30 (by assumption) (by omega) (by omega) (by decide) ?_
      refine G_top (hmk c (by omega) (by omega)) ?_
      refine G_if_le (tgt := 38) dX6_reason_31 (by decide) (inR_of (by omega) (by omega)) (fun hc31 => ?_) (fun hc31 => ?_)
      · skip
        have hm3 := hm1 (by omega)
        have hm4 := hca hm3
        refine G_aload_n dX6_reason_38 rfl rfl ?_
        refine G_getf fl_X6_7 dX6_reason_39 (by assumption) rfl ?_
        refine G_iconst dX6_reason_42 ?_
        refine G_iald dX6_reason_43 (by assumption) (by omega) (by omega) (by decide) ?_
        refine G_top (hR0) ?_
        refine G_iload_n dX6_reason_44 rfl rfl ?_
        refine G_iadd dX6_reason_45 ?_
        refine G_aload_n dX6_reason_46 rfl rfl ?_
        refine G_getf fl_X6_7 dX6_reason_47 (by assumption) rfl ?_
        refine G_iconst dX6_reason_50 ?_
        refine G_iald dX6_reason_51 (by assumption) (by omega) (by omega) (by decide) ?_
        refine G_top (hR3) ?_
        refine G_isub dX6_reason_52 ?_
        refine G_if_gt (tgt := 60) dX6_reason_53 (by decide) (inR_of (by omega) (by omega)) (fun hc53 => ?_) (fun hc53 => ?_)
        · skip
          refine G_aload_n dX6_reason_60 rfl rfl ?_
          refine G_getf fl_X6_39 dX6_reason_61 (by assumption) rfl ?_
          refine G_if_le (tgt := 71) dX6_reason_64 (by decide) (inR_of (by omega) (by omega)) (fun hc64 => ?_) (fun hc64 => ?_)
          · skip
            refine G_iconst dX6_reason_71 ?_
            refine G_ireturn dX6_reason_72 rfl ?_
            first
              | (have e9 : whyR v c d = 0 := by unfold whyR reasonR pushI; rw [if_neg (by omega), if_neg (by omega), if_pos (by omega)]
                 rw [e9]
                 exact ⟨rfl, hF, _, _, _, _, _, _, _, _, _, hM, hR, hX⟩)
              | (have e9 : whyR v c d = 1 := by unfold whyR reasonR pushI; rw [if_neg (by omega), if_neg (by omega), if_neg (by omega), if_pos (by omega)]
                 rw [e9]
                 exact ⟨rfl, hF, _, _, _, _, _, _, _, _, _, hM, hR, hX⟩)
              | (have e9 : whyR v c d = 2 := by unfold whyR reasonR pushI; rw [if_neg (by omega), if_neg (by omega), if_neg (by omega), if_neg (by omega), if_pos (by omega)]
                 rw [e9]
                 exact ⟨rfl, hF, _, _, _, _, _, _, _, _, _, hM, hR, hX⟩)
              | (have e9 : whyR v c d = 3 := by unfold whyR reasonR pushI; rw [if_neg (by omega), if_neg (by omega), if_neg (by omega), if_neg (by omega), if_neg (by omega)]
                 rw [e9]
                 exact ⟨rfl, hF, _, _, _, _, _, _, _, _, _, hM, hR, hX⟩)
          · skip
            refine G_iconst dX6_reason_67 ?_
            refine G_goto (tgt := 72) dX6_reason_68 (by decide) ?_
            refine G_ireturn dX6_reason_72 rfl ?_
            first
              | (have e9 : whyR v c d = 0 := by unfold whyR reasonR pushI; rw [if_neg (by omega), if_neg (by omega), if_pos (by omega)]
                 rw [e9]
                 exact ⟨rfl, hF, _, _, _, _, _, _, _, _, _, hM, hR, hX⟩)
              | (have e9 : whyR v c d = 1 := by unfold whyR reasonR pushI; rw [if_neg (by omega), if_neg (by omega), if_neg (by omega), if_pos (by omega)]
                 rw [e9]
                 exact ⟨rfl, hF, _, _, _, _, _, _, _, _, _, hM, hR, hX⟩)
              | (have e9 : whyR v c d = 2 := by unfold whyR reasonR pushI; rw [if_neg (by omega), if_neg (by omega), if_neg (by omega), if_neg (by omega), if_pos (by omega)]
                 rw [e9]
                 exact ⟨rfl, hF, _, _, _, _, _, _, _, _, _, hM, hR, hX⟩)
              | (have e9 : whyR v c d = 3 := by unfold whyR reasonR pushI; rw [if_neg (by omega), if_neg (by omega), if_neg (by omega), if_neg (by omega), if_neg (by omega)]
                 rw [e9]
                 exact ⟨rfl, hF, _, _, _, _, _, _, _, _, _, hM, hR, hX⟩)
        · skip
          refine G_iconst dX6_reason_56 ?_
          refine G_goto (tgt := 72) dX6_reason_57 (by decide) ?_
          refine G_ireturn dX6_reason_72 rfl ?_
          first
            | (have e9 : whyR v c d = 0 := by unfold whyR reasonR pushI; rw [if_neg (by omega), if_neg (by omega), if_pos (by omega)]
               rw [e9]
               exact ⟨rfl, hF, _, _, _, _, _, _, _, _, _, hM, hR, hX⟩)
            | (have e9 : whyR v c d = 1 := by unfold whyR reasonR pushI; rw [if_neg (by omega), if_neg (by omega), if_neg (by omega), if_pos (by omega)]
               rw [e9]
               exact ⟨rfl, hF, _, _, _, _, _, _, _, _, _, hM, hR, hX⟩)
            | (have e9 : whyR v c d = 2 := by unfold whyR reasonR pushI; rw [if_neg (by omega), if_neg (by omega), if_neg (by omega), if_neg (by omega), if_pos (by omega)]
               rw [e9]
               exact ⟨rfl, hF, _, _, _, _, _, _, _, _, _, hM, hR, hX⟩)
            | (have e9 : whyR v c d = 3 := by unfold whyR reasonR pushI; rw [if_neg (by omega), if_neg (by omega), if_neg (by omega), if_neg (by omega), if_neg (by omega)]
               rw [e9]
               exact ⟨rfl, hF, _, _, _, _, _, _, _, _, _, hM, hR, hX⟩)
      · skip
        refine G_iconst dX6_reason_34 ?_
        refine G_goto (tgt := 72) dX6_reason_35 (by decide) ?_
        refine G_ireturn dX6_reason_72 rfl ?_
        first
          | (have e9 : whyR v c d = 0 := by unfold whyR reasonR pushI; rw [if_neg (by omega), if_neg (by omega), if_pos (by omega)]
             rw [e9]
             exact ⟨rfl, hF, _, _, _, _, _, _, _, _, _, hM, hR, hX⟩)
          | (have e9 : whyR v c d = 1 := by unfold whyR reasonR pushI; rw [if_neg (by omega), if_neg (by omega), if_neg (by omega), if_pos (by omega)]
             rw [e9]
             exact ⟨rfl, hF, _, _, _, _, _, _, _, _, _, hM, hR, hX⟩)
          | (have e9 : whyR v c d = 2 := by unfold whyR reasonR pushI; rw [if_neg (by omega), if_neg (by omega), if_neg (by omega), if_neg (by omega), if_pos (by omega)]
             rw [e9]
             exact ⟨rfl, hF, _, _, _, _, _, _, _, _, _, hM, hR, hX⟩)
          | (have e9 : whyR v c d = 3 := by unfold whyR reasonR pushI; rw [if_neg (by omega), if_neg (by omega), if_neg (by omega), if_neg (by omega), if_neg (by omega)]
             rw [e9]
             exact ⟨rfl, hF, _, _, _, _, _, _, _, _, _, hM, hR, hX⟩)
    · skip
      refine G_bipush dX6_reason_16 rfl ?_
      refine G_ireturn dX6_reason_18 rfl ?_
      have e9 : whyR v c d = -2 := by unfold whyR; rw [if_neg (by omega), if_pos (by omega)]
      rw [e9]
      exact ⟨rfl, hF, _, _, _, _, _, _, _, _, _, hM, hR, hX⟩
  · skip
    refine G_iconst dX6_reason_7 ?_
    refine G_ireturn dX6_reason_8 rfl ?_
    have e9 : whyR v c d = -1 := by unfold whyR; rw [if_pos (by omega)]
    rw [e9]
    exact ⟨rfl, hF, _, _, _, _, _, _, _, _, _, hM, hR, hX⟩
set_option maxRecDepth 100000 in
set_option maxHeartbeats 4000000 in
theorem c_X6_restsIn (h : List PO) (m : Nat) (v : SV) (hv : Int → SV) (sz ks : Int) (sw : SV) (tx : Int → Int) (len sn se : Int) (c d : Int) (hA : mdA h m v hv sz ks sw tx len sn se) (hI : INV v hv sz ks sw tx len) (hc : inR c) (hd : inR d) : PM 7 yX6_restsIn cX6_restsIn 5 (some .int) h [r_ m, i_ c, i_ d] (fun r0 h2 => r0 = some (i_ (restR v c d)) ∧ Fr h h2 m (m + 5) ∧ mdA h2 m (v) (hv) (sz) (ks) (sw) (tx) (len) (sn) (se)) := by
  refine PM_of_G RX6 [some (r_ m), some (i_ c), some (i_ d), none, none] rfl (by decide +kernel) (Nat.le_of_ble_eq_true rfl) rfl ?_
  obtain ⟨s, mk, co, fi, ca, sp, le, on, tw, hM, hR, hX⟩ := id hA
  obtain ⟨⟨hV, hT⟩, hsz, hhv, hks, hx, hl⟩ := id hI
  obtain ⟨⟨hrd, hrs, hrh⟩, ⟨hs0, hs1, hs2⟩, ⟨hn, hf, hfa⟩, ⟨hc0, hrr, hs, hz⟩, h49, hdi⟩ := id hV
  have hF : Fr h h m (m + 5) := Fr.rf
  obtain ⟨hM0, hM1, hM2, hM3, hM4⟩ := id hM
  obtain ⟨hRc, ⟨hR0, hR1, hR2, hR3, hR4, hR5, hR6⟩, hRw⟩ := rwF.zero hR
  have hc1 := hc.1
  have hc2 := hc.2
  have hd1 := hd.1
  have hd2 := hd.2
  refine G_aload_n dX6_restsIn_0 rfl rfl ?_
  refine G_iload_n dX6_restsIn_1 rfl rfl ?_
  refine G_callV (ci := 6) (as := [_]) (c_X6_isWell _ m s tx mk co sz ks len sn se fi ca sp le on tw (v 11 0) c hM hR6 hn hc) dX6_restsIn_2 ml_X6_84 cv_X6_isWell (by assumption) rfl rfl (Nat.le_of_ble_eq_true rfl) (Nat.le_of_ble_eq_true rfl) rfl (fun r h2 hp => ?_)
  obtain ⟨yw, rfl, rfl, hyw⟩ := hp
  refine G_if_ne (tgt := 10) dX6_restsIn_5 (by decide) (inR_of (by omega) (by omega)) (fun hc5 => ?_) (fun hc5 => ?_)
  · skip
    refine G_iload_n dX6_restsIn_10 rfl rfl ?_
    refine G_callS (as := [_]) (c_X6_isRise _ (d) (inR_of (by omega) (by omega))) dX6_restsIn_11 ml_X6_87 cs_X6_isRise rfl (Nat.le_of_ble_eq_true rfl) (Nat.le_of_ble_eq_true rfl) rfl (fun r h2 hp => ?_)
    obtain ⟨yr, rfl, rfl, hyr⟩ := hp
    refine G_if_ne (tgt := 20) dX6_restsIn_14 (by decide) (inR_of (by omega) (by omega)) (fun hc14 => ?_) (fun hc14 => ?_)
    · skip
      have hz9 := hz c (by omega) (by omega)
      refine G_aload_n dX6_restsIn_20 rfl rfl ?_
      refine G_getf fl_X6_7 dX6_restsIn_21 (by assumption) rfl ?_
      refine G_iconst dX6_restsIn_24 ?_
      refine G_iload_n dX6_restsIn_25 rfl rfl ?_
      refine G_callS (as := [_, _]) (c_X6_wellAt _ 0 c) dX6_restsIn_26 ml_X6_46 cs_X6_wellAt rfl (Nat.le_of_ble_eq_true rfl) (Nat.le_of_ble_eq_true rfl) rfl (fun r h2 hp => ?_)
      obtain ⟨rfl, rfl⟩ := hp
      refine G_iconst dX6_restsIn_29 ?_
      refine G_iadd dX6_restsIn_30 ?_
      refine G_iald dX6_restsIn_31 (by assumption) (by omega) (by omega) (by decide) ?_
      refine G_top ((hRw (c) (by omega) (by omega)).2.2.2.1) ?_
      refine G_iconst dX6_restsIn_32 ?_
      refine G_icmp_ne (tgt := 39) dX6_restsIn_33 (by decide) (inR_of (by omega) (by omega)) (inR_of (by omega) (by omega)) (fun hc33 => ?_) (fun hc33 => ?_)
      · skip
        refine G_aload_n dX6_restsIn_39 rfl rfl ?_
        refine G_iconst dX6_restsIn_40 ?_
        refine G_bipush dX6_restsIn_41 rfl ?_
        refine G_callV (ci := 6) (as := [_, _]) (c_X6_copies h m s tx mk co sz ks len sn se fi ca sp le on tw 0 7 hM (by omega) (by omega) (by omega)) dX6_restsIn_43 ml_X6_32 cv_X6_copies (by assumption) rfl rfl (Nat.le_of_ble_eq_true rfl) (Nat.le_of_ble_eq_true rfl) rfl (fun r h2 hp => ?_)
        obtain ⟨rfl, hF1, hM⟩ := hp
        have hF := hF.tr hF1
        have hR1 : rwR (cpR s 0 7) 0 v := hR.fr cpR_fr (by omega) hV
        have hX1 : roX (cpR s 0 7) hv sz ks sw := hX.fr hI cpR_fr (by omega)
        have hB1 : rwR (cpR s 0 7) 1421 v := cp_to (a := 0) (b := 7) hR hV
        obtain ⟨hM0, hM1, hM2, hM3, hM4⟩ := id hM
        have L : ∀ (fu : Nat) (i : Int) (hh : List PO) (si : Int → Int) (mk2 : Int → Int) (co2 : Int → Int) (fi2 : Int) (ca2 : Int), 1 ≤ i → i ≤ 301 → moAt hh m si tx mk2 co2 sz ks len sn se fi2 ca2 sp le on tw → Fr h hh m (m + 5) → rwR si 0 v → roX si hv sz ks sw → rwR si 1421 (itV d v (i - 1).toNat) → restR v c d = riN v c d (301 - i).toNat → 301 - i < fu → G 7 cX6_restsIn RX6 5 (some .int) hh 53 [some (r_ m), some (i_ c), some (i_ d), some (i_ 1421), some (i_ i)] [] (fun r0 h2 => r0 = some (i_ (restR v c d)) ∧ Fr h h2 m (m + 5) ∧ mdA h2 m (v) (hv) (sz) (ks) (sw) (tx) (len) (sn) (se)) := by
          intro fu
          induction fu with
          | zero => intro i hh si mk2 co2 fi2 ca2 a1 a2 hM hF hR hX hB hst2 hmeas; exfalso; omega
          | succ fu ih =>
            intro i hh si mk2 co2 fi2 ca2 a1 a2 hM hF hR hX hB hst2 hmeas
            obtain ⟨hM0, hM1, hM2, hM3, hM4⟩ := id hM
            refine G_iload dX6_restsIn_53 rfl ?_
            refine G_sipush dX6_restsIn_55 rfl ?_
            refine G_icmp_gt (tgt := 92) dX6_restsIn_58 (by decide) (inR_of (by omega) (by omega)) (inR_of (by omega) (by omega)) (fun hc58 => ?_) (fun hc58 => ?_)
            · skip
              have e : i = 301 := by omega
              subst e
              refine G_bipush dX6_restsIn_92 rfl ?_
              refine G_ireturn dX6_restsIn_94 rfl ?_
              exact ⟨by rw [hst2]; rfl, hF, _, _, _, _, _, _, _, _, _, hM, hR, hX⟩
            · skip
              refine G_aload_n dX6_restsIn_61 rfl rfl ?_
              refine G_iload_n dX6_restsIn_62 rfl rfl ?_
              refine G_iload_n dX6_restsIn_63 rfl rfl ?_
              refine G_callV (ci := 6) (as := [_, _]) (c_X6_comes _ m si tx mk2 co2 sz ks len sn se fi2 ca2 sp le on tw 1421 d (itV d v (i - 1).toNat) hM (by omega) (by omega) hB (hV.it _) (by omega)) dX6_restsIn_64 ml_X6_91 cv_X6_comes (by assumption) rfl rfl (Nat.le_of_ble_eq_true rfl) (Nat.le_of_ble_eq_true rfl) rfl (fun r h2 hp => ?_)
              obtain ⟨rfl, hF1, s2, mk3, co3, fi3, ca3, hM, hK, hB2⟩ := hp
              have hR2 : rwR s2 0 v := hR.fr hK (by omega) hV
              have hX2 : roX s2 hv sz ks sw := hX.fr hI hK (by omega)
              have e : (i - 1).toNat + 1 = i.toNat := by omega
              have hB3 : rwR s2 1421 (itV d v ((i - 1).toNat + 1)) := hB2
              rw [e] at hB3
              have hn9 : itV d v i.toNat 11 0 = v 11 0 := itV_wells _
              have hB4 := hB3.2.2 c (by omega) (by omega)
              have hz9 := (hV.it (rise := d) i.toNat).2.2.2.1.2.2.2 c (by omega) (by omega)
              obtain ⟨hM0, hM1, hM2, hM3, hM4⟩ := id hM
              refine G_aload_n dX6_restsIn_67 rfl rfl ?_
              refine G_getf fl_X6_7 dX6_restsIn_68 (by assumption) rfl ?_
              refine G_iload_n dX6_restsIn_71 rfl rfl ?_
              refine G_iload_n dX6_restsIn_72 rfl rfl ?_
              refine G_callS (as := [_, _]) (c_X6_wellAt _ 1421 c) dX6_restsIn_73 ml_X6_46 cs_X6_wellAt rfl (Nat.le_of_ble_eq_true rfl) (Nat.le_of_ble_eq_true rfl) rfl (fun r h2 hp => ?_)
              obtain ⟨rfl, rfl⟩ := hp
              refine G_iconst dX6_restsIn_76 ?_
              refine G_iadd dX6_restsIn_77 ?_
              refine G_iald dX6_restsIn_78 (by assumption) (by omega) (by omega) (by decide) ?_
              refine G_top (hB4.2.2.2.1) ?_
              refine G_iconst dX6_restsIn_79 ?_
              refine G_icmp_ne (tgt := 86) dX6_restsIn_80 (by decide) (inR_of (by omega) (by omega)) (inR_of (by omega) (by omega)) (fun hc80 => ?_) (fun hc80 => ?_)
              · skip
                refine G_iinc dX6_restsIn_86 (by decide) rfl rfl ?_
                refine G_goto (tgt := 53) dX6_restsIn_89 (by decide) ?_
                refine ih (i + 1) _ _ _ _ _ _ (by omega) (by omega) hM (hF.tr hF1) hR2 hX2 ?_ ?_ (by omega)
                · have e : (i + 1 - 1).toNat = (i - 1).toNat + 1 := by omega
                  rw [e]
                  exact hB2
                · rw [hst2]
                  have e : (i - 1).toNat + 1 = i.toNat := by omega
                  have e4 := riN_s (v := v) (w := c) (r := d) (i := i.toNat) (by omega) (by omega)
                  have e5 : 301 - i.toNat = (301 - i).toNat := by omega
                  have e6 : 300 - i.toNat = (301 - (i + 1)).toNat := by omega
                  rw [e5, e6] at e4
                  rw [e4, if_neg (by omega)]
              · skip
                refine G_iload dX6_restsIn_83 rfl ?_
                refine G_ireturn dX6_restsIn_85 rfl ?_
                refine ⟨?_, hF.tr hF1, _, _, _, _, _, _, _, _, _, hM, hR2, hX2⟩
                rw [hst2]
                have e4 := riN_s (v := v) (w := c) (r := d) (i := i.toNat) (by omega) (by omega)
                have e5 : 301 - i.toNat = (301 - i).toNat := by omega
                rw [e5] at e4
                rw [e4, if_pos (by omega)]
                have e6 : ((i.toNat : Nat) : Int) = i := by omega
                rw [e6]
        refine G_sipush dX6_restsIn_46 rfl ?_
        refine G_istore_n dX6_restsIn_49 rfl (by decide) rfl ?_
        refine G_iconst dX6_restsIn_50 ?_
        refine G_istore dX6_restsIn_51 (by decide) rfl ?_
        refine L 301 1 _ _ _ _ _ _ (by omega) (by omega) hM hF hR1 hX1 hB1 ?_ (by omega)
        have e9 : restR v c d = riN v c d 300 := by unfold restR; rw [if_neg (by omega), if_neg (by omega), if_neg (by omega)]
        exact e9
      · skip
        refine G_bipush dX6_restsIn_36 rfl ?_
        refine G_ireturn dX6_restsIn_38 rfl ?_
        have e9 : restR v c d = -4 := by unfold restR; rw [if_neg (by omega), if_neg (by omega), if_pos (by omega)]
        rw [e9]
        exact ⟨rfl, hF, _, _, _, _, _, _, _, _, _, hM, hR, hX⟩
    · skip
      refine G_bipush dX6_restsIn_17 rfl ?_
      refine G_ireturn dX6_restsIn_19 rfl ?_
      have e9 : restR v c d = -2 := by unfold restR; rw [if_neg (by omega), if_pos (by omega)]
      rw [e9]
      exact ⟨rfl, hF, _, _, _, _, _, _, _, _, _, hM, hR, hX⟩
  · skip
    refine G_iconst dX6_restsIn_8 ?_
    refine G_ireturn dX6_restsIn_9 rfl ?_
    have e9 : restR v c d = -1 := by unfold restR; rw [if_pos (by omega)]
    rw [e9]
    exact ⟨rfl, hF, _, _, _, _, _, _, _, _, _, hM, hR, hX⟩
set_option maxRecDepth 100000 in
set_option maxHeartbeats 4000000 in
theorem c_X6_leastFlow (h : List PO) (m : Nat) (v : SV) (hv : Int → SV) (sz ks : Int) (sw : SV) (tx : Int → Int) (len sn se : Int) (c d : Int) (hA : mdA h m v hv sz ks sw tx len sn se) (hI : INV v hv sz ks sw tx len) (hc : inR c) (hd : inR d) : PM 7 yX6_leastFlow cX6_leastFlow 5 (some .int) h [r_ m, i_ c, i_ d] (fun r0 h2 => r0 = some (i_ (leastR v c d)) ∧ Fr h h2 m (m + 5) ∧ mdA h2 m (v) (hv) (sz) (ks) (sw) (tx) (len) (sn) (se)) := by
  refine PM_of_G RX6 [some (r_ m), some (i_ c), some (i_ d), none, none] rfl (by decide +kernel) (Nat.le_of_ble_eq_true rfl) rfl ?_
  obtain ⟨s, mk, co, fi, ca, sp, le, on, tw, hM, hR, hX⟩ := id hA
  obtain ⟨⟨hV, hT⟩, hsz, hhv, hks, hx, hl⟩ := id hI
  obtain ⟨⟨hrd, hrs, hrh⟩, ⟨hs0, hs1, hs2⟩, ⟨hn, hf, hfa⟩, ⟨hc0, hrr, hs, hz⟩, h49, hdi⟩ := id hV
  have hF : Fr h h m (m + 5) := Fr.rf
  obtain ⟨hM0, hM1, hM2, hM3, hM4⟩ := id hM
  have hc1 := hc.1
  have hc2 := hc.2
  have hd1 := hd.1
  have hd2 := hd.2
  refine G_iload_n dX6_leastFlow_0 rfl rfl ?_
  refine G_callS (as := [_]) (c_X6_isCell _ (c) (inR_of (by omega) (by omega))) dX6_leastFlow_1 ml_X6_74 cs_X6_isCell rfl (Nat.le_of_ble_eq_true rfl) (Nat.le_of_ble_eq_true rfl) rfl (fun r h2 hp => ?_)
  obtain ⟨yc, rfl, rfl, hyc⟩ := hp
  refine G_if_ne (tgt := 9) dX6_leastFlow_4 (by decide) (inR_of (by omega) (by omega)) (fun hc4 => ?_) (fun hc4 => ?_)
  · skip
    refine G_iload_n dX6_leastFlow_9 rfl rfl ?_
    refine G_callS (as := [_]) (c_X6_isRise _ (d) (inR_of (by omega) (by omega))) dX6_leastFlow_10 ml_X6_87 cs_X6_isRise rfl (Nat.le_of_ble_eq_true rfl) (Nat.le_of_ble_eq_true rfl) rfl (fun r h2 hp => ?_)
    obtain ⟨yr, rfl, rfl, hyr⟩ := hp
    refine G_if_ne (tgt := 19) dX6_leastFlow_13 (by decide) (inR_of (by omega) (by omega)) (fun hc13 => ?_) (fun hc13 => ?_)
    · skip
      refine G_aload_n dX6_leastFlow_19 rfl rfl ?_
      refine G_iconst dX6_leastFlow_20 ?_
      refine G_bipush dX6_leastFlow_21 rfl ?_
      refine G_callV (ci := 6) (as := [_, _]) (c_X6_copies h m s tx mk co sz ks len sn se fi ca sp le on tw 0 7 hM (by omega) (by omega) (by omega)) dX6_leastFlow_23 ml_X6_32 cv_X6_copies (by assumption) rfl rfl (Nat.le_of_ble_eq_true rfl) (Nat.le_of_ble_eq_true rfl) rfl (fun r h2 hp => ?_)
      obtain ⟨rfl, hF1, hM⟩ := hp
      have hF := hF.tr hF1
      have hR1 : rwR (cpR s 0 7) 0 v := hR.fr cpR_fr (by omega) hV
      have hX1 : roX (cpR s 0 7) hv sz ks sw := hX.fr hI cpR_fr (by omega)
      have hB1 : rwR (cpR s 0 7) 1421 v := cp_to (a := 0) (b := 7) hR hV
      obtain ⟨hM0, hM1, hM2, hM3, hM4⟩ := id hM
      have L : ∀ (fu : Nat) (i : Int) (hh : List PO) (si : Int → Int) (mk2 : Int → Int) (fi2 : Int) (ca2 : Int) (xx : Int), 0 ≤ i → i ≤ 100 → moAt hh m si tx mk2 co sz ks len sn se fi2 ca2 sp le on tw → Fr h hh m (m + 5) → rwR si 0 v → roX si hv sz ks sw → rwF si 1421 (v 0) (v 1) (v 2) (v 3) (v 4) (v 5) (v 6) (v 7) (v 8) (v 9) (v 11 0) (v 10) xx (v 11 2) (v 11 3) → leastR v c d = lfN v c d (100 - i).toNat → 100 - i < fu → G 7 cX6_leastFlow RX6 5 (some .int) hh 33 [some (r_ m), some (i_ c), some (i_ d), some (i_ 1421), some (i_ i)] [] (fun r0 h2 => r0 = some (i_ (leastR v c d)) ∧ Fr h h2 m (m + 5) ∧ mdA h2 m (v) (hv) (sz) (ks) (sw) (tx) (len) (sn) (se)) := by
        intro fu
        induction fu with
        | zero => intro i hh si mk2 fi2 ca2 xx a1 a2 hM hF hR hX hB hst2 hmeas; exfalso; omega
        | succ fu ih =>
          intro i hh si mk2 fi2 ca2 xx a1 a2 hM hF hR hX hB hst2 hmeas
          obtain ⟨hM0, hM1, hM2, hM3, hM4⟩ := id hM
          refine G_iload dX6_leastFlow_33 rfl ?_
          refine G_bipush dX6_leastFlow_35 rfl ?_
          refine G_icmp_gt (tgt := 74) dX6_leastFlow_37 (by decide) (inR_of (by omega) (by omega)) (inR_of (by omega) (by omega)) (fun hc37 => ?_) (fun hc37 => ?_)
          · skip
            have e : i = 100 := by omega
            subst e
            refine G_bipush dX6_leastFlow_74 rfl ?_
            refine G_ireturn dX6_leastFlow_76 rfl ?_
            exact ⟨by rw [hst2]; rfl, hF, _, _, _, _, _, _, _, _, _, hM, hR, hX⟩
          · skip
            refine G_aload_n dX6_leastFlow_40 rfl rfl ?_
            refine G_getf fl_X6_7 dX6_leastFlow_41 (by assumption) rfl ?_
            refine G_iload_n dX6_leastFlow_44 rfl rfl ?_
            refine G_iconst dX6_leastFlow_45 ?_
            refine G_iadd dX6_leastFlow_46 ?_
            refine G_iload dX6_leastFlow_47 rfl ?_
            refine G_iast dX6_leastFlow_49 (by assumption) (by omega) (by omega) (by decide) rfl ?_
            have hM := hM.set1 (fup si (1421 + 3) i)
            obtain ⟨hM0, hM1, hM2, hM3, hM4⟩ := id hM
            have hF := hF.tr (Fr.set (o := oI 1624 (fup si (1421 + 3) i)) (show m ≤ m + 1 by omega) (show m + 1 < m + 5 by omega))
            have hB2 := hB.flow hn.2 i
            have hK : frR si (fup si (1421 + 3) i) 1421 := frR.rf.put (by omega) (by omega)
            have hR2 : rwR (fup si (1421 + 3) i) 0 v := hR.fr hK (by omega) hV
            have hX2 : roX (fup si (1421 + 3) i) hv sz ks sw := hX.fr hI hK (by omega)
            refine G_aload_n dX6_leastFlow_50 rfl rfl ?_
            refine G_iload_n dX6_leastFlow_51 rfl rfl ?_
            refine G_iload_n dX6_leastFlow_52 rfl rfl ?_
            refine G_callV (ci := 6) (as := [_, _]) (c_X6_findsMarks _ m (fup si (1421 + 3) i) tx mk2 co sz ks len sn se fi2 ca2 sp le on tw 1421 d (v 0) (v 1) (v 2) (v 3) (v 4) (v 5) (v 6) (v 7) (v 8) (v 9) (v 11 0) (v 10) i (v 11 2) (v 11 3) hM (by omega) (by omega) hB2 hrd hrs hrh ⟨hs0, hs1, hs2⟩ (by omega) (by omega)) dX6_leastFlow_53 ml_X6_57 cv_X6_findsMarks (by assumption) rfl rfl (Nat.le_of_ble_eq_true rfl) (Nat.le_of_ble_eq_true rfl) rfl (fun r h2 hp => ?_)
            obtain ⟨rfl, hF1, mk3, hM, hmk⟩ := hp
            have hmr := mkI_rng (push := v 10 0 + d - i) (slope := v 10 1) hrs hrd (c := c) (by omega) (by omega)
            obtain ⟨hM0, hM1, hM2, hM3, hM4⟩ := id hM
            refine G_aload_n dX6_leastFlow_56 rfl rfl ?_
            refine G_getf fl_X6_23 dX6_leastFlow_57 (by assumption) rfl ?_
            refine G_iload_n dX6_leastFlow_60 rfl rfl ?_
            refine G_iald dX6_leastFlow_61 (by assumption) (by omega) (by omega) (by decide) ?_
            refine G_top (hmk c (by omega) (by omega)) ?_
            refine G_if_ne (tgt := 68) dX6_leastFlow_62 (by decide) (inR_of (by omega) (by omega)) (fun hc62 => ?_) (fun hc62 => ?_)
            · skip
              refine G_iinc dX6_leastFlow_68 (by decide) rfl rfl ?_
              refine G_goto (tgt := 33) dX6_leastFlow_71 (by decide) ?_
              exact ih (i + 1) _ _ _ _ _ i (by omega) (by omega) hM (hF.tr hF1) hR2 hX2 hB2 (by rw [hst2, lfN_s a1 (by omega), if_neg (by omega)]) (by omega)
            · skip
              refine G_iload dX6_leastFlow_65 rfl ?_
              refine G_ireturn dX6_leastFlow_67 rfl ?_
              exact ⟨by rw [hst2, lfN_s a1 (by omega), if_pos (by omega)], hF.tr hF1, _, _, _, _, _, _, _, _, _, hM, hR2, hX2⟩
      refine G_sipush dX6_leastFlow_26 rfl ?_
      refine G_istore_n dX6_leastFlow_29 rfl (by decide) rfl ?_
      refine G_iconst dX6_leastFlow_30 ?_
      refine G_istore dX6_leastFlow_31 (by decide) rfl ?_
      refine L 101 0 _ _ _ _ _ _ (by omega) (by omega) hM hF hR1 hX1 hB1 ?_ (by omega)
      have e9 : leastR v c d = lfN v c d 100 := by unfold leastR; rw [if_neg (by omega), if_neg (by omega)]
      exact e9
    · skip
      refine G_bipush dX6_leastFlow_16 rfl ?_
      refine G_ireturn dX6_leastFlow_18 rfl ?_
      have e9 : leastR v c d = -2 := by unfold leastR; rw [if_neg (by omega), if_pos (by omega)]
      rw [e9]
      exact ⟨rfl, hF, _, _, _, _, _, _, _, _, _, hM, hR, hX⟩
  · skip
    refine G_iconst dX6_leastFlow_7 ?_
    refine G_ireturn dX6_leastFlow_8 rfl ?_
    have e9 : leastR v c d = -1 := by unfold leastR; rw [if_pos (by omega)]
    rw [e9]
    exact ⟨rfl, hF, _, _, _, _, _, _, _, _, _, hM, hR, hX⟩
