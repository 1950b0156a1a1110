theorem tideP_k {tx : Int → Int} {len p : Int} (h : (tideP tx len p).1 = 1) : (tideP tx len p).2.2.1 = 0 := by
  unfold tideP at h ⊢
  split
  · rfl
  · split
    · split <;> rfl
    · rfl
set_option maxRecDepth 100000 in
set_option maxHeartbeats 4000000 in
theorem c_X6_readsThing (h : List PO) (m : Nat) (s tx mk co : Int → Int) (st kp ty sn se fi ca sp le on tw : Int) (hM : moAt h m s tx mk co st kp ty sn se fi ca sp le on tw) (hx : RG 0 65535 60 tx) (hl : 0 ≤ ty ∧ ty ≤ 60) (hq : 0 ≤ sp ∧ sp ≤ ty) : PM 4 yX6_readsThing cX6_readsThing 1 (some .boolean) h [r_ m] (fun r0 h2 => r0 = some (i_ (thP tx ty sp).1) ∧ Fr h h2 m (m + 5) ∧ ∃ le2 on2 tw2 : Int, moAt h2 m s tx mk co st kp ty sn se fi ca (thP tx ty sp).2.1 le2 on2 tw2 ∧ ((thP tx ty sp).1 = 1 → on2 = (thP tx ty sp).2.2.2.1 ∧ ((thP tx ty sp).2.2.1 ≠ 1 → tw2 = (thP tx ty sp).2.2.2.2) ∧ (le2 = 116 ∧ (thP tx ty sp).2.2.1 = 0 ∨ le2 = 114 ∧ (thP tx ty sp).2.2.1 = 1 ∨ le2 = 115 ∧ (thP tx ty sp).2.2.1 = 2))) := by
  refine PM_of_G RX6 [some (r_ m)] rfl (by decide +kernel) (Nat.le_of_ble_eq_true rfl) rfl ?_
  obtain ⟨hM0, hM1, hM2, hM3, hM4⟩ := id hM
  have hF : Fr h h m (m + 5) := Fr.rf
  refine G_aload_n dX6_readsThing_0 rfl rfl ?_
  refine G_aload_n dX6_readsThing_1 rfl rfl ?_
  refine G_getf fl_X6_130 dX6_readsThing_2 (by assumption) rfl ?_
  refine G_aload_n dX6_readsThing_5 rfl rfl ?_
  refine G_getf fl_X6_127 dX6_readsThing_6 (by assumption) rfl ?_
  refine G_icmp_ge (tgt := 24) dX6_readsThing_9 (by decide) (inR_of (by omega) (by omega)) (inR_of (by omega) (by omega)) (fun hc9 => ?_) (fun hc9 => ?_)
  · skip
    have hno := nxI_no (tx := tx) (len := ty) (p := sp) (by omega)
    refine G_iconst dX6_readsThing_24 ?_
    refine G_putI (fs2 := [r_ (m + 1), i_ (st), i_ (kp), r_ (m + 2), i_ (ty), i_ (sn), i_ (se), r_ (m + 3), i_ (fi), i_ (ca), r_ (m + 4), i_ (sp), i_ (0), i_ (on), i_ (tw)]) fp_X6_149 dX6_readsThing_25 (by assumption) (Nat.le_of_ble_eq_true rfl) rfl ?_
    have hM := hM.obj (st) (kp) (ty) (sn) (se) (fi) (ca) (sp) (0) (on) (tw)
    obtain ⟨hM0, hM1, hM2, hM3, hM4⟩ := id hM
    have hF := hF.tr (Fr.set (o := oMod m (st) (kp) (ty) (sn) (se) (fi) (ca) (sp) (0) (on) (tw)) (show m ≤ m by omega) (show m < m + 5 by omega))
    refine G_aload_n dX6_readsThing_28 rfl rfl ?_
    refine G_dup dX6_readsThing_29 ?_
    refine G_getf fl_X6_130 dX6_readsThing_30 (by assumption) rfl ?_
    refine G_iconst dX6_readsThing_33 ?_
    refine G_iadd dX6_readsThing_34 ?_
    refine G_putI (fs2 := [r_ (m + 1), i_ (st), i_ (kp), r_ (m + 2), i_ (ty), i_ (sn), i_ (se), r_ (m + 3), i_ (fi), i_ (ca), r_ (m + 4), i_ (sp + 1), i_ (0), i_ (on), i_ (tw)]) fp_X6_130 dX6_readsThing_35 (by assumption) (Nat.le_of_ble_eq_true rfl) rfl ?_
    have hM := hM.obj (st) (kp) (ty) (sn) (se) (fi) (ca) (sp + 1) (0) (on) (tw)
    obtain ⟨hM0, hM1, hM2, hM3, hM4⟩ := id hM
    have hF := hF.tr (Fr.set (o := oMod m (st) (kp) (ty) (sn) (se) (fi) (ca) (sp + 1) (0) (on) (tw)) (show m ≤ m by omega) (show m < m + 5 by omega))
    refine G_aload_n dX6_readsThing_38 rfl rfl ?_
    refine G_getf fl_X6_149 dX6_readsThing_39 (by assumption) rfl ?_
    refine G_tblOut (tgt := 159) dX6_readsThing_42 (inR_of (by omega) (by omega)) (Or.inl (by omega)) (by decide) ?_
    refine G_aload_n dX6_readsThing_159 rfl rfl ?_
    refine G_dup dX6_readsThing_160 ?_
    refine G_getf fl_X6_130 dX6_readsThing_161 (by assumption) rfl ?_
    refine G_iconst dX6_readsThing_164 ?_
    refine G_isub dX6_readsThing_165 ?_
    refine G_top (y := sp) (by omega) ?_
    refine G_putI (fs2 := [r_ (m + 1), i_ (st), i_ (kp), r_ (m + 2), i_ (ty), i_ (sn), i_ (se), r_ (m + 3), i_ (fi), i_ (ca), r_ (m + 4), i_ (sp), i_ (0), i_ (on), i_ (tw)]) fp_X6_130 dX6_readsThing_166 (by assumption) (Nat.le_of_ble_eq_true rfl) rfl ?_
    have hM := hM.obj (st) (kp) (ty) (sn) (se) (fi) (ca) (sp) (0) (on) (tw)
    obtain ⟨hM0, hM1, hM2, hM3, hM4⟩ := id hM
    have hF := hF.tr (Fr.set (o := oMod m (st) (kp) (ty) (sn) (se) (fi) (ca) (sp) (0) (on) (tw)) (show m ≤ m by omega) (show m < m + 5 by omega))
    refine G_iconst dX6_readsThing_169 ?_
    refine G_zreturn dX6_readsThing_170 rfl (by first | exact Or.inl rfl | exact Or.inr rfl) ?_
    rw [thP_n (by omega) (by omega) (by omega)]
    exact ⟨rfl, hF, _, _, _, hM, fun q => absurd (show (0 : Int) = 1 from q) (by decide)⟩
  · skip
    have hat := nxI_at (tx := tx) (len := ty) (p := sp) (by omega) (by omega)
    have hxr := nxI_rng (p := sp) hx hl.2
    refine G_aload_n dX6_readsThing_12 rfl rfl ?_
    refine G_getf fl_X6_13 dX6_readsThing_13 (by assumption) rfl ?_
    refine G_aload_n dX6_readsThing_16 rfl rfl ?_
    refine G_getf fl_X6_130 dX6_readsThing_17 (by assumption) rfl ?_
    refine G_iald dX6_readsThing_20 (by assumption) (by omega) (by omega) (by decide) ?_
    refine G_top (hat.symm) ?_
    refine G_goto (tgt := 25) dX6_readsThing_21 (by decide) ?_
    refine G_putI (fs2 := [r_ (m + 1), i_ (st), i_ (kp), r_ (m + 2), i_ (ty), i_ (sn), i_ (se), r_ (m + 3), i_ (fi), i_ (ca), r_ (m + 4), i_ (sp), i_ (nxI tx ty sp), i_ (on), i_ (tw)]) fp_X6_149 dX6_readsThing_25 (by assumption) (Nat.le_of_ble_eq_true rfl) rfl ?_
    have hM := hM.obj (st) (kp) (ty) (sn) (se) (fi) (ca) (sp) (nxI tx ty sp) (on) (tw)
    obtain ⟨hM0, hM1, hM2, hM3, hM4⟩ := id hM
    have hF := hF.tr (Fr.set (o := oMod m (st) (kp) (ty) (sn) (se) (fi) (ca) (sp) (nxI tx ty sp) (on) (tw)) (show m ≤ m by omega) (show m < m + 5 by omega))
    refine G_aload_n dX6_readsThing_28 rfl rfl ?_
    refine G_dup dX6_readsThing_29 ?_
    refine G_getf fl_X6_130 dX6_readsThing_30 (by assumption) rfl ?_
    refine G_iconst dX6_readsThing_33 ?_
    refine G_iadd dX6_readsThing_34 ?_
    refine G_putI (fs2 := [r_ (m + 1), i_ (st), i_ (kp), r_ (m + 2), i_ (ty), i_ (sn), i_ (se), r_ (m + 3), i_ (fi), i_ (ca), r_ (m + 4), i_ (sp + 1), i_ (nxI tx ty sp), i_ (on), i_ (tw)]) fp_X6_130 dX6_readsThing_35 (by assumption) (Nat.le_of_ble_eq_true rfl) rfl ?_
    have hM := hM.obj (st) (kp) (ty) (sn) (se) (fi) (ca) (sp + 1) (nxI tx ty sp) (on) (tw)
    obtain ⟨hM0, hM1, hM2, hM3, hM4⟩ := id hM
    have hF := hF.tr (Fr.set (o := oMod m (st) (kp) (ty) (sn) (se) (fi) (ca) (sp + 1) (nxI tx ty sp) (on) (tw)) (show m ≤ m by omega) (show m < m + 5 by omega))
    refine G_aload_n dX6_readsThing_38 rfl rfl ?_
    refine G_getf fl_X6_149 dX6_readsThing_39 (by assumption) rfl ?_
    rcases (show nxI tx ty sp = 116 ∨ nxI tx ty sp = 114 ∨ nxI tx ty sp = 115 ∨ (nxI tx ty sp < 114 ∨ 116 < nxI tx ty sp) from by omega) with hnx | hnx | hnx | hnx
    · refine G_top hnx ?_
      refine G_tblIn (tgt := 68) dX6_readsThing_42 (inR_of (by omega) (by omega)) (by omega) (by omega) rfl (by decide) ?_
      refine G_aload_n dX6_readsThing_68 rfl rfl ?_
      refine G_callV (ci := 6) (as := []) (c_X6_readsTide _ m s tx mk co st kp ty sn se fi ca (sp + 1) (nxI tx ty sp) on tw hM hx hl (by omega)) dX6_readsThing_69 ml_X6_152 cv_X6_readsTide (by assumption) rfl rfl (Nat.le_of_ble_eq_true rfl) (Nat.le_of_ble_eq_true rfl) rfl (fun r h2 hp => ?_)
      obtain ⟨rfl, hG, on2, tw2, hM, ht⟩ := hp
      have hF := hF.tr hG
      refine G_zreturn dX6_readsThing_72 rfl (tideP01 _ _ _) ?_
      rw [thP_t hnx]
      exact ⟨rfl, hF, _, _, _, hM, fun z => ⟨(ht z).1, fun _ => (ht z).2, Or.inl ⟨hnx, tideP_k z⟩⟩⟩
    · refine G_top hnx ?_
      refine G_tblIn (tgt := 73) dX6_readsThing_42 (inR_of (by omega) (by omega)) (by omega) (by omega) rfl (by decide) ?_
      have hnm := nm_rng (tx := tx) (len := ty) (lo := 0) (hi := 99) (p := sp + 1) (by omega) (by omega) (by omega) (by omega)
      have h51 := n5_or (nmV tx ty 0 99 (sp + 1))
      refine G_aload_n dX6_readsThing_73 rfl rfl ?_
      refine G_aload_n dX6_readsThing_74 rfl rfl ?_
      refine G_iconst dX6_readsThing_75 ?_
      refine G_bipush dX6_readsThing_76 rfl ?_
      refine G_callV (ci := 6) (as := [_, _]) (c_X6_number _ m s tx mk co st kp ty sn se fi ca (sp + 1) (nxI tx ty sp) (on) (tw) 0 99 hM hx hl (by omega) (by omega) (by omega)) dX6_readsThing_78 ml_X6_140 cv_X6_number (by assumption) rfl rfl (Nat.le_of_ble_eq_true rfl) (Nat.le_of_ble_eq_true rfl) rfl (fun r h2 hp => ?_)
      obtain ⟨rfl, hG, hM⟩ := hp
      have hF := hF.tr hG
      obtain ⟨hM0, hM1, hM2, hM3, hM4⟩ := id hM
      refine G_putI (fs2 := [r_ (m + 1), i_ (st), i_ (kp), r_ (m + 2), i_ (ty), i_ (sn), i_ (se), r_ (m + 3), i_ (fi), i_ (ca), r_ (m + 4), i_ (nmE tx ty 0 99 (sp + 1)), i_ (nxI tx ty sp), i_ (n5 (nmV tx ty 0 99 (sp + 1))), i_ (tw)]) fp_X6_143 dX6_readsThing_81 (by assumption) (Nat.le_of_ble_eq_true rfl) rfl ?_
      have hM := hM.obj (st) (kp) (ty) (sn) (se) (fi) (ca) (nmE tx ty 0 99 (sp + 1)) (nxI tx ty sp) (n5 (nmV tx ty 0 99 (sp + 1))) (tw)
      obtain ⟨hM0, hM1, hM2, hM3, hM4⟩ := id hM
      have hF := hF.tr (Fr.set (o := oMod m (st) (kp) (ty) (sn) (se) (fi) (ca) (nmE tx ty 0 99 (sp + 1)) (nxI tx ty sp) (n5 (nmV tx ty 0 99 (sp + 1))) (tw)) (show m ≤ m by omega) (show m < m + 5 by omega))
      refine G_aload_n dX6_readsThing_84 rfl rfl ?_
      refine G_getf fl_X6_143 dX6_readsThing_85 (by assumption) rfl ?_
      refine G_bipush dX6_readsThing_88 rfl ?_
      refine G_icmp_eq (tgt := 97) dX6_readsThing_90 (by decide) (inR_of (by omega) (by omega)) (inR_of (by omega) (by omega)) (fun hc90 => ?_) (fun hc90 => ?_)
      · skip
        refine G_iconst dX6_readsThing_97 ?_
        refine G_zreturn dX6_readsThing_98 rfl (by first | exact Or.inl rfl | exact Or.inr rfl) ?_
        rw [thP_r hnx]
        first
          | (have e9 : flowP tx ty (sp + 1) = (0, nmE tx ty 0 99 (sp + 1), 0, 0, 0) := by unfold flowP; rw [if_pos (by omega)]
             rw [e9]
             exact ⟨rfl, hF, _, _, _, hM, fun q => absurd (show (0 : Int) = 1 from q) (by decide)⟩)
          | (have e9 : flowP tx ty (sp + 1) = (1, nmE tx ty 0 99 (sp + 1), 1, nmV tx ty 0 99 (sp + 1), 0) := by unfold flowP; rw [if_neg (by omega)]
             rw [e9]
             exact ⟨rfl, hF, _, _, _, hM, fun _ => ⟨by dsimp only; omega, fun q => absurd (show (1 : Int) = 1 from rfl) q, Or.inr (Or.inl ⟨hnx, rfl⟩)⟩⟩)
      · skip
        refine G_iconst dX6_readsThing_93 ?_
        refine G_goto (tgt := 98) dX6_readsThing_94 (by decide) ?_
        refine G_zreturn dX6_readsThing_98 rfl (by first | exact Or.inl rfl | exact Or.inr rfl) ?_
        rw [thP_r hnx]
        first
          | (have e9 : flowP tx ty (sp + 1) = (0, nmE tx ty 0 99 (sp + 1), 0, 0, 0) := by unfold flowP; rw [if_pos (by omega)]
             rw [e9]
             exact ⟨rfl, hF, _, _, _, hM, fun q => absurd (show (0 : Int) = 1 from q) (by decide)⟩)
          | (have e9 : flowP tx ty (sp + 1) = (1, nmE tx ty 0 99 (sp + 1), 1, nmV tx ty 0 99 (sp + 1), 0) := by unfold flowP; rw [if_neg (by omega)]
             rw [e9]
             exact ⟨rfl, hF, _, _, _, hM, fun _ => ⟨by dsimp only; omega, fun q => absurd (show (1 : Int) = 1 from rfl) q, Or.inr (Or.inl ⟨hnx, rfl⟩)⟩⟩)
    · refine G_top hnx ?_
      refine G_tblIn (tgt := 99) dX6_readsThing_42 (inR_of (by omega) (by omega)) (by omega) (by omega) rfl (by decide) ?_
      have hnm := nm_rng (tx := tx) (len := ty) (lo := 0) (hi := 39) (p := sp + 1) (by omega) (by omega) (by omega) (by omega)
      have h51 := n5_or (nmV tx ty 0 39 (sp + 1))
      refine G_aload_n dX6_readsThing_99 rfl rfl ?_
      refine G_aload_n dX6_readsThing_100 rfl rfl ?_
      refine G_iconst dX6_readsThing_101 ?_
      refine G_bipush dX6_readsThing_102 rfl ?_
      refine G_callV (ci := 6) (as := [_, _]) (c_X6_number _ m s tx mk co st kp ty sn se fi ca (sp + 1) (nxI tx ty sp) (on) (tw) 0 39 hM hx hl (by omega) (by omega) (by omega)) dX6_readsThing_104 ml_X6_140 cv_X6_number (by assumption) rfl rfl (Nat.le_of_ble_eq_true rfl) (Nat.le_of_ble_eq_true rfl) rfl (fun r h2 hp => ?_)
      obtain ⟨rfl, hG, hM⟩ := hp
      have hF := hF.tr hG
      obtain ⟨hM0, hM1, hM2, hM3, hM4⟩ := id hM
      refine G_putI (fs2 := [r_ (m + 1), i_ (st), i_ (kp), r_ (m + 2), i_ (ty), i_ (sn), i_ (se), r_ (m + 3), i_ (fi), i_ (ca), r_ (m + 4), i_ (nmE tx ty 0 39 (sp + 1)), i_ (nxI tx ty sp), i_ (n5 (nmV tx ty 0 39 (sp + 1))), i_ (tw)]) fp_X6_143 dX6_readsThing_107 (by assumption) (Nat.le_of_ble_eq_true rfl) rfl ?_
      have hM := hM.obj (st) (kp) (ty) (sn) (se) (fi) (ca) (nmE tx ty 0 39 (sp + 1)) (nxI tx ty sp) (n5 (nmV tx ty 0 39 (sp + 1))) (tw)
      obtain ⟨hM0, hM1, hM2, hM3, hM4⟩ := id hM
      have hF := hF.tr (Fr.set (o := oMod m (st) (kp) (ty) (sn) (se) (fi) (ca) (nmE tx ty 0 39 (sp + 1)) (nxI tx ty sp) (n5 (nmV tx ty 0 39 (sp + 1))) (tw)) (show m ≤ m by omega) (show m < m + 5 by omega))
      refine G_aload_n dX6_readsThing_110 rfl rfl ?_
      refine G_aload_n dX6_readsThing_111 rfl rfl ?_
      refine G_getf fl_X6_143 dX6_readsThing_112 (by assumption) rfl ?_
      refine G_bipush dX6_readsThing_115 rfl ?_
      refine G_icmp_eq (tgt := 139) dX6_readsThing_117 (by decide) (inR_of (by omega) (by omega)) (inR_of (by omega) (by omega)) (fun hc117 => ?_) (fun hc117 => ?_)
      · skip
        refine G_bipush dX6_readsThing_139 rfl ?_
        refine G_putI (fs2 := [r_ (m + 1), i_ (st), i_ (kp), r_ (m + 2), i_ (ty), i_ (sn), i_ (se), r_ (m + 3), i_ (fi), i_ (ca), r_ (m + 4), i_ (nmE tx ty 0 39 (sp + 1)), i_ (nxI tx ty sp), i_ (n5 (nmV tx ty 0 39 (sp + 1))), i_ (-5)]) fp_X6_146 dX6_readsThing_141 (by assumption) (Nat.le_of_ble_eq_true rfl) rfl ?_
        have hM := hM.obj (st) (kp) (ty) (sn) (se) (fi) (ca) (nmE tx ty 0 39 (sp + 1)) (nxI tx ty sp) (n5 (nmV tx ty 0 39 (sp + 1))) (-5)
        obtain ⟨hM0, hM1, hM2, hM3, hM4⟩ := id hM
        have hF := hF.tr (Fr.set (o := oMod m (st) (kp) (ty) (sn) (se) (fi) (ca) (nmE tx ty 0 39 (sp + 1)) (nxI tx ty sp) (n5 (nmV tx ty 0 39 (sp + 1))) (-5)) (show m ≤ m by omega) (show m < m + 5 by omega))
        refine G_aload_n dX6_readsThing_144 rfl rfl ?_
        refine G_getf fl_X6_146 dX6_readsThing_145 (by assumption) rfl ?_
        refine G_bipush dX6_readsThing_148 rfl ?_
        refine G_icmp_eq (tgt := 157) dX6_readsThing_150 (by decide) (inR_of (by omega) (by omega)) (inR_of (by omega) (by omega)) (fun hc150 => ?_) (fun hc150 => ?_)
        · skip
          refine G_iconst dX6_readsThing_157 ?_
          refine G_zreturn dX6_readsThing_158 rfl (by first | exact Or.inl rfl | exact Or.inr rfl) ?_
          rw [thP_s hnx]
          have e9 : sillP tx ty (sp + 1) = (0, nmE tx ty 0 39 (sp + 1), 0, 0, 0) := by unfold sillP; rw [if_pos (by omega)]
          rw [e9]
          exact ⟨rfl, hF, _, _, _, hM, fun q => absurd (show (0 : Int) = 1 from q) (by decide)⟩
        · skip
          exfalso; omega
      · skip
        refine G_aload_n dX6_readsThing_120 rfl rfl ?_
        refine G_bipush dX6_readsThing_121 rfl ?_
        refine G_callV (ci := 6) (as := [_]) (c_X6_takes _ m s tx mk co st kp ty sn se fi ca (nmE tx ty 0 39 (sp + 1)) (nxI tx ty sp) ((n5 (nmV tx ty 0 39 (sp + 1)))) (tw) 61 hM hx hl (by omega) (by omega)) dX6_readsThing_123 ml_X6_137 cv_X6_takes (by assumption) rfl rfl (Nat.le_of_ble_eq_true rfl) (Nat.le_of_ble_eq_true rfl) rfl (fun r h2 hp => ?_)
        obtain ⟨y2, rfl, hG, hM, hy2⟩ := hp
        have hF := hF.tr hG
        obtain ⟨hM0, hM1, hM2, hM3, hM4⟩ := id hM
        refine G_if_eq (tgt := 139) dX6_readsThing_126 (by decide) (inR_of (by omega) (by omega)) (fun hc126 => ?_) (fun hc126 => ?_)
        · skip
          have hy20 : y2 = 0 := by omega
          subst hy20
          rw [Int.add_zero] at hM
          obtain ⟨hM0, hM1, hM2, hM3, hM4⟩ := id hM
          refine G_bipush dX6_readsThing_139 rfl ?_
          refine G_putI (fs2 := [r_ (m + 1), i_ (st), i_ (kp), r_ (m + 2), i_ (ty), i_ (sn), i_ (se), r_ (m + 3), i_ (fi), i_ (ca), r_ (m + 4), i_ (nmE tx ty 0 39 (sp + 1)), i_ (nxI tx ty sp), i_ (n5 (nmV tx ty 0 39 (sp + 1))), i_ (-5)]) fp_X6_146 dX6_readsThing_141 (by assumption) (Nat.le_of_ble_eq_true rfl) rfl ?_
          have hM := hM.obj (st) (kp) (ty) (sn) (se) (fi) (ca) (nmE tx ty 0 39 (sp + 1)) (nxI tx ty sp) (n5 (nmV tx ty 0 39 (sp + 1))) (-5)
          obtain ⟨hM0, hM1, hM2, hM3, hM4⟩ := id hM
          have hF := hF.tr (Fr.set (o := oMod m (st) (kp) (ty) (sn) (se) (fi) (ca) (nmE tx ty 0 39 (sp + 1)) (nxI tx ty sp) (n5 (nmV tx ty 0 39 (sp + 1))) (-5)) (show m ≤ m by omega) (show m < m + 5 by omega))
          refine G_aload_n dX6_readsThing_144 rfl rfl ?_
          refine G_getf fl_X6_146 dX6_readsThing_145 (by assumption) rfl ?_
          refine G_bipush dX6_readsThing_148 rfl ?_
          refine G_icmp_eq (tgt := 157) dX6_readsThing_150 (by decide) (inR_of (by omega) (by omega)) (inR_of (by omega) (by omega)) (fun hc150 => ?_) (fun hc150 => ?_)
          · skip
            refine G_iconst dX6_readsThing_157 ?_
            refine G_zreturn dX6_readsThing_158 rfl (by first | exact Or.inl rfl | exact Or.inr rfl) ?_
            rw [thP_s hnx]
            have e9 : sillP tx ty (sp + 1) = (0, nmE tx ty 0 39 (sp + 1), 0, 0, 0) := by unfold sillP; rw [if_neg (by omega), if_neg (by omega)]
            rw [e9]
            exact ⟨rfl, hF, _, _, _, hM, fun q => absurd (show (0 : Int) = 1 from q) (by decide)⟩
          · skip
            exfalso; omega
        · skip
          have hy21 : y2 = 1 := by omega
          subst hy21
          have hin4 := nxI_in (tx := tx) (len := ty) (p := nmE tx ty 0 39 (sp + 1)) (by omega)
          have hnm2 := nm_rng (tx := tx) (len := ty) (lo := 0) (hi := 60) (p := nmE tx ty 0 39 (sp + 1) + 1) (by omega) (by omega) (by omega) (by omega)
          have h52 := n5_or (nmV tx ty 0 60 (nmE tx ty 0 39 (sp + 1) + 1))
          refine G_aload_n dX6_readsThing_129 rfl rfl ?_
          refine G_iconst dX6_readsThing_130 ?_
          refine G_bipush dX6_readsThing_131 rfl ?_
          refine G_callV (ci := 6) (as := [_, _]) (c_X6_number _ m s tx mk co st kp ty sn se fi ca (nmE tx ty 0 39 (sp + 1) + 1) (nxI tx ty sp) ((n5 (nmV tx ty 0 39 (sp + 1)))) (tw) 0 60 hM hx hl (by omega) (by omega) (by omega)) dX6_readsThing_133 ml_X6_140 cv_X6_number (by assumption) rfl rfl (Nat.le_of_ble_eq_true rfl) (Nat.le_of_ble_eq_true rfl) rfl (fun r h2 hp => ?_)
          obtain ⟨rfl, hG, hM⟩ := hp
          have hF := hF.tr hG
          obtain ⟨hM0, hM1, hM2, hM3, hM4⟩ := id hM
          refine G_goto (tgt := 141) dX6_readsThing_136 (by decide) ?_
          refine G_putI (fs2 := [r_ (m + 1), i_ (st), i_ (kp), r_ (m + 2), i_ (ty), i_ (sn), i_ (se), r_ (m + 3), i_ (fi), i_ (ca), r_ (m + 4), i_ (nmE tx ty 0 60 (nmE tx ty 0 39 (sp + 1) + 1)), i_ (nxI tx ty sp), i_ (n5 (nmV tx ty 0 39 (sp + 1))), i_ (n5 (nmV tx ty 0 60 (nmE tx ty 0 39 (sp + 1) + 1)))]) fp_X6_146 dX6_readsThing_141 (by assumption) (Nat.le_of_ble_eq_true rfl) rfl ?_
          have hM := hM.obj (st) (kp) (ty) (sn) (se) (fi) (ca) (nmE tx ty 0 60 (nmE tx ty 0 39 (sp + 1) + 1)) (nxI tx ty sp) (n5 (nmV tx ty 0 39 (sp + 1))) (n5 (nmV tx ty 0 60 (nmE tx ty 0 39 (sp + 1) + 1)))
          obtain ⟨hM0, hM1, hM2, hM3, hM4⟩ := id hM
          have hF := hF.tr (Fr.set (o := oMod m (st) (kp) (ty) (sn) (se) (fi) (ca) (nmE tx ty 0 60 (nmE tx ty 0 39 (sp + 1) + 1)) (nxI tx ty sp) (n5 (nmV tx ty 0 39 (sp + 1))) (n5 (nmV tx ty 0 60 (nmE tx ty 0 39 (sp + 1) + 1)))) (show m ≤ m by omega) (show m < m + 5 by omega))
          refine G_aload_n dX6_readsThing_144 rfl rfl ?_
          refine G_getf fl_X6_146 dX6_readsThing_145 (by assumption) rfl ?_
          refine G_bipush dX6_readsThing_148 rfl ?_
          refine G_icmp_eq (tgt := 157) dX6_readsThing_150 (by decide) (inR_of (by omega) (by omega)) (inR_of (by omega) (by omega)) (fun hc150 => ?_) (fun hc150 => ?_)
          · skip
            refine G_iconst dX6_readsThing_157 ?_
            refine G_zreturn dX6_readsThing_158 rfl (by first | exact Or.inl rfl | exact Or.inr rfl) ?_
            rw [thP_s hnx]
            first
              | (have e9 : sillP tx ty (sp + 1) = (0, nmE tx ty 0 60 (nmE tx ty 0 39 (sp + 1) + 1), 0, 0, 0) := by unfold sillP; rw [if_neg (by omega), if_pos (by omega), if_pos (by omega)]
                 rw [e9]
                 exact ⟨rfl, hF, _, _, _, hM, fun q => absurd (show (0 : Int) = 1 from q) (by decide)⟩)
              | (have e9 : sillP tx ty (sp + 1) = (1, nmE tx ty 0 60 (nmE tx ty 0 39 (sp + 1) + 1), 2, nmV tx ty 0 39 (sp + 1), nmV tx ty 0 60 (nmE tx ty 0 39 (sp + 1) + 1)) := by unfold sillP; rw [if_neg (by omega), if_pos (by omega), if_neg (by omega)]
                 rw [e9]
                 exact ⟨rfl, hF, _, _, _, hM, fun _ => ⟨by dsimp only; omega, fun _ => by dsimp only; omega, Or.inr (Or.inr ⟨hnx, rfl⟩)⟩⟩)
          · skip
            refine G_iconst dX6_readsThing_153 ?_
            refine G_goto (tgt := 158) dX6_readsThing_154 (by decide) ?_
            refine G_zreturn dX6_readsThing_158 rfl (by first | exact Or.inl rfl | exact Or.inr rfl) ?_
            rw [thP_s hnx]
            first
              | (have e9 : sillP tx ty (sp + 1) = (0, nmE tx ty 0 60 (nmE tx ty 0 39 (sp + 1) + 1), 0, 0, 0) := by unfold sillP; rw [if_neg (by omega), if_pos (by omega), if_pos (by omega)]
                 rw [e9]
                 exact ⟨rfl, hF, _, _, _, hM, fun q => absurd (show (0 : Int) = 1 from q) (by decide)⟩)
              | (have e9 : sillP tx ty (sp + 1) = (1, nmE tx ty 0 60 (nmE tx ty 0 39 (sp + 1) + 1), 2, nmV tx ty 0 39 (sp + 1), nmV tx ty 0 60 (nmE tx ty 0 39 (sp + 1) + 1)) := by unfold sillP; rw [if_neg (by omega), if_pos (by omega), if_neg (by omega)]
                 rw [e9]
                 exact ⟨rfl, hF, _, _, _, hM, fun _ => ⟨by dsimp only; omega, fun _ => by dsimp only; omega, Or.inr (Or.inr ⟨hnx, rfl⟩)⟩⟩)
    · refine G_tblOut (tgt := 159) dX6_readsThing_42 (inR_of (by omega) (by omega)) hnx (by decide) ?_
      refine G_aload_n dX6_readsThing_159 rfl rfl ?_
      refine G_dup dX6_readsThing_160 ?_
      refine G_getf fl_X6_130 dX6_readsThing_161 (by assumption) rfl ?_
      refine G_iconst dX6_readsThing_164 ?_
      refine G_isub dX6_readsThing_165 ?_
      refine G_top (y := sp) (by omega) ?_
      refine G_putI (fs2 := [r_ (m + 1), i_ (st), i_ (kp), r_ (m + 2), i_ (ty), i_ (sn), i_ (se), r_ (m + 3), i_ (fi), i_ (ca), r_ (m + 4), i_ (sp), i_ (nxI tx ty sp), i_ (on), i_ (tw)]) fp_X6_130 dX6_readsThing_166 (by assumption) (Nat.le_of_ble_eq_true rfl) rfl ?_
      have hM := hM.obj (st) (kp) (ty) (sn) (se) (fi) (ca) (sp) (nxI tx ty sp) (on) (tw)
      obtain ⟨hM0, hM1, hM2, hM3, hM4⟩ := id hM
      have hF := hF.tr (Fr.set (o := oMod m (st) (kp) (ty) (sn) (se) (fi) (ca) (sp) (nxI tx ty sp) (on) (tw)) (show m ≤ m by omega) (show m < m + 5 by omega))
      refine G_iconst dX6_readsThing_169 ?_
      refine G_zreturn dX6_readsThing_170 rfl (by first | exact Or.inl rfl | exact Or.inr rfl) ?_
      rw [thP_n (by omega) (by omega) (by omega)]
      exact ⟨rfl, hF, _, _, _, hM, fun q => absurd (show (0 : Int) = 1 from q) (by decide)⟩
set_option maxRecDepth 100000 in
set_option maxHeartbeats 4000000 in
theorem c_X6_fault (h : List PO) (m : Nat) (s tx mk co : Int → Int) (st kp ty sn se fi ca sp le on tw : Int) (hM : moAt h m s tx mk co st kp ty sn se fi ca sp le on tw) (hx : RG 0 65535 60 tx) (hl : 0 ≤ ty ∧ ty ≤ 60) : PM 6 yX6_fault cX6_fault 2 (some .int) h [r_ m] (fun r0 h2 => Fr h h2 m (m + 5) ∧ (∃ sp2 le2 on2 tw2 : Int, moAt h2 m s tx mk co st kp ty sn se fi ca sp2 le2 on2 tw2) ∧ ∃ n : Nat, lastP tx ty n ∧ (endP tx ty n ∧ r0 = some (i_ (-5)) ∨ ¬ endP tx ty n ∧ r0 = some (i_ (thP tx ty (stP tx ty n)).2.1))) := by
  refine PM_of_G RX6 [some (r_ m), none] rfl (by decide +kernel) (Nat.le_of_ble_eq_true rfl) rfl ?_
  obtain ⟨hM0, hM1, hM2, hM3, hM4⟩ := id hM
  have hF : Fr h h m (m + 5) := Fr.rf
  have Z : ∀ (n : Nat) (hh : List PO) (le2 on2 tw2 : Int), moAt hh m s tx mk co st kp ty sn se fi ca (thP tx ty (stP tx ty n)).2.1 le2 on2 tw2 → Fr h hh m (m + 5) → lastP tx ty n → (thP tx ty (stP tx ty n)).1 = 1 → (0 ≤ (thP tx ty (stP tx ty n)).2.1 ∧ (thP tx ty (stP tx ty n)).2.1 ≤ 60) → G 6 cX6_fault RX6 2 (some .int) hh 7 [some (r_ m), some (i_ 0)] [] (fun r0 h2 => Fr h h2 m (m + 5) ∧ (∃ sp2 le2 on2 tw2 : Int, moAt h2 m s tx mk co st kp ty sn se fi ca sp2 le2 on2 tw2) ∧ ∃ n : Nat, lastP tx ty n ∧ (endP tx ty n ∧ r0 = some (i_ (-5)) ∨ ¬ endP tx ty n ∧ r0 = some (i_ (thP tx ty (stP tx ty n)).2.1))) := by
    intro n hh le2 on2 tw2 hM hF hla h1 hr
    obtain ⟨hM0, hM1, hM2, hM3, hM4⟩ := id hM
    refine G_iload_n dX6_fault_7 rfl rfl ?_
    refine G_if_eq (tgt := 33) dX6_fault_8 (by decide) (inR_of (by omega) (by omega)) (fun hc8 => ?_) (fun hc8 => ?_)
    · skip
      refine G_aload_n dX6_fault_33 rfl rfl ?_
      refine G_getf fl_X6_130 dX6_fault_34 (by assumption) rfl ?_
      refine G_aload_n dX6_fault_37 rfl rfl ?_
      refine G_getf fl_X6_127 dX6_fault_38 (by assumption) rfl ?_
      refine G_icmp_ne (tgt := 49) dX6_fault_41 (by decide) (inR_of (by omega) (by omega)) (inR_of (by omega) (by omega)) (fun hc41 => ?_) (fun hc41 => ?_)
      · skip
        refine G_aload_n dX6_fault_49 rfl rfl ?_
        refine G_getf fl_X6_130 dX6_fault_50 (by assumption) rfl ?_
        refine G_ireturn dX6_fault_53 rfl ?_
        first
          | exact ⟨hF, ⟨_, _, _, _, hM⟩, n, hla, Or.inl ⟨⟨h1, by omega⟩, rfl⟩⟩
          | exact ⟨hF, ⟨_, _, _, _, hM⟩, n, hla, Or.inr ⟨fun q => by have := q.2; omega, rfl⟩⟩
      · skip
        refine G_bipush dX6_fault_44 rfl ?_
        refine G_goto (tgt := 53) dX6_fault_46 (by decide) ?_
        refine G_ireturn dX6_fault_53 rfl ?_
        first
          | exact ⟨hF, ⟨_, _, _, _, hM⟩, n, hla, Or.inl ⟨⟨h1, by omega⟩, rfl⟩⟩
          | exact ⟨hF, ⟨_, _, _, _, hM⟩, n, hla, Or.inr ⟨fun q => by have := q.2; omega, rfl⟩⟩
    · skip
      exfalso; omega
  have L : ∀ (fu : Nat) (n : Nat) (hh : List PO) (le2 : Int) (on2 : Int) (tw2 : Int), moAt hh m s tx mk co st kp ty sn se fi ca (stP tx ty n) le2 on2 tw2 → Fr h hh m (m + 5) → (∀ j : Nat, j < n → goP tx ty j) → 21 - (n : Int) < fu → G 6 cX6_fault RX6 2 (some .int) hh 7 [some (r_ m), some (i_ 1)] [] (fun r0 h2 => Fr h h2 m (m + 5) ∧ (∃ sp2 le2 on2 tw2 : Int, moAt h2 m s tx mk co st kp ty sn se fi ca sp2 le2 on2 tw2) ∧ ∃ n : Nat, lastP tx ty n ∧ (endP tx ty n ∧ r0 = some (i_ (-5)) ∨ ¬ endP tx ty n ∧ r0 = some (i_ (thP tx ty (stP tx ty n)).2.1))) := by
    intro fu
    induction fu with
    | zero => intro n hh le2 on2 tw2 hM hF hgo hmeas; exfalso; have hsr := stP_rng (tx := tx) (len := ty) hl.1 n hgo; omega
    | succ fu ih =>
      intro n hh le2 on2 tw2 hM hF hgo hmeas
      obtain ⟨hM0, hM1, hM2, hM3, hM4⟩ := id hM
      have hsr := stP_rng (tx := tx) (len := ty) hl.1 n hgo
      have htk := thP_ok (tx := tx) (len := ty) (p := stP tx ty n) (by omega) hsr.2
      unfold thOK2 at htk
      have h01 := thP01 tx ty (stP tx ty n)
      refine G_iload_n dX6_fault_7 rfl rfl ?_
      refine G_if_eq (tgt := 33) dX6_fault_8 (by decide) (inR_of (by omega) (by omega)) (fun hc8 => ?_) (fun hc8 => ?_)
      · skip
        exfalso; omega
      · skip
        refine G_aload_n dX6_fault_11 rfl rfl ?_
        refine G_callV (ci := 6) (as := []) (c_X6_readsThing _ m s tx mk co st kp ty sn se fi ca (stP tx ty n) le2 on2 tw2 hM hx hl (by omega)) dX6_fault_12 ml_X6_156 cv_X6_readsThing (by assumption) rfl rfl (Nat.le_of_ble_eq_true rfl) (Nat.le_of_ble_eq_true rfl) rfl (fun r h2 hp => ?_)
        obtain ⟨rfl, hG, le3, on3, tw3, hM, ht⟩ := hp
        have hF := hF.tr hG
        obtain ⟨hM0, hM1, hM2, hM3, hM4⟩ := id hM
        refine G_if_ne (tgt := 23) dX6_fault_15 (by decide) (inR_of (by omega) (by omega)) (fun hc15 => ?_) (fun hc15 => ?_)
        · skip
          refine G_aload_n dX6_fault_23 rfl rfl ?_
          refine G_bipush dX6_fault_24 rfl ?_
          refine G_callV (ci := 6) (as := [_]) (c_X6_takes _ m s tx mk co st kp ty sn se fi ca (thP tx ty (stP tx ty n)).2.1 le3 on3 tw3 59 hM hx hl (by omega) (by omega)) dX6_fault_26 ml_X6_137 cv_X6_takes (by assumption) rfl rfl (Nat.le_of_ble_eq_true rfl) (Nat.le_of_ble_eq_true rfl) rfl (fun r h2 hp => ?_)
          obtain ⟨y2, rfl, hG, hM, hy2⟩ := hp
          have hF := hF.tr hG
          rcases hy2 with ⟨rfl, hnx⟩ | ⟨rfl, hnx⟩
          · refine G_istore_n dX6_fault_29 rfl (by decide) rfl ?_
            refine G_goto (tgt := 7) dX6_fault_30 (by decide) ?_
            have hg : goP tx ty n := ⟨by omega, hnx⟩
            have hgo2 : ∀ j : Nat, j < n + 1 → goP tx ty j := fun j hj => by
              by_cases e : j = n
              · rw [e]; exact hg
              · exact hgo j (by omega)
            have hs2 := stP_rng (tx := tx) (len := ty) hl.1 (n + 1) hgo2
            exact ih (n + 1) _ _ _ _ hM hF hgo2 (by omega)
          · refine G_istore_n dX6_fault_29 rfl (by decide) rfl ?_
            refine G_goto (tgt := 7) dX6_fault_30 (by decide) ?_
            rw [Int.add_zero] at hM
            exact Z n _ _ _ _ hM hF ⟨hgo, fun q => hnx q.2⟩ (by omega) (by omega)
        · skip
          refine G_aload_n dX6_fault_18 rfl rfl ?_
          refine G_getf fl_X6_130 dX6_fault_19 (by assumption) rfl ?_
          refine G_ireturn dX6_fault_22 rfl ?_
          exact ⟨hF, ⟨_, _, _, _, hM⟩, n, ⟨hgo, fun q => by have := q.1; omega⟩, Or.inr ⟨fun q => by have := q.1; omega, rfl⟩⟩
  refine G_aload_n dX6_fault_0 rfl rfl ?_
  refine G_iconst dX6_fault_1 ?_
  refine G_putI (fs2 := [r_ (m + 1), i_ (st), i_ (kp), r_ (m + 2), i_ (ty), i_ (sn), i_ (se), r_ (m + 3), i_ (fi), i_ (ca), r_ (m + 4), i_ (0), i_ (le), i_ (on), i_ (tw)]) fp_X6_130 dX6_fault_2 (by assumption) (Nat.le_of_ble_eq_true rfl) rfl ?_
  have hM := hM.obj (st) (kp) (ty) (sn) (se) (fi) (ca) (0) (le) (on) (tw)
  obtain ⟨hM0, hM1, hM2, hM3, hM4⟩ := id hM
  have hF := hF.tr (Fr.set (o := oMod m (st) (kp) (ty) (sn) (se) (fi) (ca) (0) (le) (on) (tw)) (show m ≤ m by omega) (show m < m + 5 by omega))
  refine G_iconst dX6_fault_5 ?_
  refine G_istore_n dX6_fault_6 rfl (by decide) rfl ?_
  exact L 22 0 _ _ _ _ hM hF (fun j hj => absurd hj (Nat.not_lt_zero j)) (by omega)
