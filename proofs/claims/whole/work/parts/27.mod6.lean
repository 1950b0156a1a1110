theorem puts_case {s : Int → Int} {pl d old : Int} {v V : SV} {R : Int} (e8 : s pl = old) (eR : R = if old = d then -5 else old) (h0 : 0 ≤ old) (hR : rwR s 0 v) (p0 : 0 ≤ pl) (p1 : pl < 203) (eV0 : R < 0 → V = v) (eV1 : 0 ≤ R → rwR (fup s pl d) 0 V) : (if s pl = d then -5 else s pl) = R ∧ frR s (fup s pl d) 0 ∧ rwR (fup s pl d) 0 V := by
  refine ⟨by rw [eR, e8], frR.rf.put p0 (by omega), ?_⟩
  by_cases q : old = d
  · rw [if_pos q] at eR
    rw [eV0 (by omega), fup_same (by rw [e8]; exact q)]
    exact hR
  · rw [if_neg q] at eR
    exact eV1 (by omega)
set_option maxRecDepth 100000 in
set_option maxHeartbeats 4000000 in
theorem c_X6_digs (h : List PO) (m : Nat) (s tx mk co : Int → Int) (st kp ty sn se fi ca sp le on tw : Int) (c d : Int) (v : SV) (hM : moAt h m s tx mk co st kp ty sn se fi ca sp le on tw) (hR : rwR s 0 v) (hV : OK v) (hc : inR c) (hd : inR d) : PM 2 yX6_digs cX6_digs 3 (some .int) h [r_ m, i_ c, i_ d] (fun r0 h2 => r0 = some (i_ (digR v c d)) ∧ Fr h h2 m (m + 5) ∧ ∃ (s2 mk2 co2 : Int → Int) (fi2 ca2 : Int), moAt h2 m s2 tx mk2 co2 st kp ty sn se fi2 ca2 sp le on tw ∧ frR s s2 0 ∧ rwR s2 0 (digV v c d)) := by
  refine PM_of_G RX6 [some (r_ m), some (i_ c), some (i_ d)] rfl (by decide +kernel) (Nat.le_of_ble_eq_true rfl) rfl ?_
  obtain ⟨hM0, hM1, hM2, hM3, hM4⟩ := id hM
  obtain ⟨⟨hrd, hrs, hrh⟩, ⟨hs0, hs1, hs2⟩, ⟨hn, hf, hfa⟩, ⟨hc0, hrr, hs, hz⟩, h49, hdi⟩ := id hV
  obtain ⟨hRc, ⟨hR0, hR1, hR2, hR3, hR4, hR5, hR6⟩, hRw⟩ := rwF.zero hR
  have hc1 := hc.1
  have hc2 := hc.2
  have hd1 := hd.1
  have hd2 := hd.2
  refine G_iload_n dX6_digs_0 rfl rfl ?_
  refine G_callS (as := [_]) (c_X6_isCell _ (c) (inR_of (by omega) (by omega))) dX6_digs_1 ml_X6_74 cs_X6_isCell rfl (Nat.le_of_ble_eq_true rfl) (Nat.le_of_ble_eq_true rfl) rfl (fun r h2 hp => ?_)
  obtain ⟨yc, rfl, rfl, hyc⟩ := hp
  refine G_if_ne (tgt := 9) dX6_digs_4 (by decide) (inR_of (by omega) (by omega)) (fun hc4 => ?_) (fun hc4 => ?_)
  · skip
    refine G_iload_n dX6_digs_9 rfl rfl ?_
    refine G_iconst dX6_digs_10 ?_
    refine G_bipush dX6_digs_11 rfl ?_
    refine G_callS (as := [_, _, _]) (c_X6_in _ (d) (1) (60) (inR_of (by omega) (by omega)) (inR_of (by omega) (by omega)) (inR_of (by omega) (by omega))) dX6_digs_13 ml_X6_70 cs_X6_in rfl (Nat.le_of_ble_eq_true rfl) (Nat.le_of_ble_eq_true rfl) rfl (fun r h2 hp => ?_)
    obtain ⟨yd, rfl, rfl, hyd⟩ := hp
    refine G_if_ne (tgt := 22) dX6_digs_16 (by decide) (inR_of (by omega) (by omega)) (fun hc16 => ?_) (fun hc16 => ?_)
    · skip
      have hh9 := hrh c (by omega) (by omega)
      have ss9 := hrs c (by omega) (by omega)
      have dd9 := hrd c (by omega) (by omega)
      have e8 : s (7 + c) = v 0 c := (hRc (c) (by omega) (by omega)).1
      refine G_aload_n dX6_digs_22 rfl rfl ?_
      refine G_getf fl_X6_7 dX6_digs_23 (by assumption) rfl ?_
      refine G_bipush dX6_digs_26 rfl ?_
      refine G_iload_n dX6_digs_28 rfl rfl ?_
      refine G_iadd dX6_digs_29 ?_
      refine G_iald dX6_digs_30 (by assumption) (by omega) (by omega) (by decide) ?_
      refine G_top ((hRc (c) (by omega) (by omega)).2.2.1) ?_
      refine G_iload_n dX6_digs_31 rfl rfl ?_
      refine G_icmp_gt (tgt := 48) dX6_digs_32 (by decide) (inR_of (by omega) (by omega)) (inR_of (by omega) (by omega)) (fun hc32 => ?_) (fun hc32 => ?_)
      · skip
        refine G_bipush dX6_digs_48 rfl ?_
        refine G_goto (tgt := 62) dX6_digs_50 (by decide) ?_
        refine G_ireturn dX6_digs_62 rfl ?_
        first
          | (have e : digR v c d = -4 := by unfold digR; rw [if_neg (by omega), if_neg (by omega), if_pos (by omega)]
             have e2 : digV v c d = v := by unfold digV; rw [if_neg (by omega)]
             rw [e, e2]
             exact ⟨rfl, Fr.rf, s, mk, co, fi, ca, hM, frR.rf, hR⟩)
          | (have eR : digR v c d = if v 0 c = d then -5 else v 0 c := by unfold digR; rw [if_neg (by omega), if_neg (by omega), if_neg (by omega)]
             have k := puts_case (s := s) (pl := 7 + c) (d := d) (V := digV v c d) e8 eR (by omega) hR (by omega) (by omega) (fun q => by unfold digV; rw [if_neg (by omega)]) (fun q => by unfold digV; rw [if_pos q]; exact rwF.dep hR hn.2 d (by omega) (by omega))
             rw [k.1]
             exact ⟨rfl, hF1, _, mk, co, fi, ca, hM1, k.2.1, k.2.2⟩)
      · skip
        refine G_aload_n dX6_digs_35 rfl rfl ?_
        refine G_getf fl_X6_7 dX6_digs_36 (by assumption) rfl ?_
        refine G_bipush dX6_digs_39 rfl ?_
        refine G_iload_n dX6_digs_41 rfl rfl ?_
        refine G_iadd dX6_digs_42 ?_
        refine G_iald dX6_digs_43 (by assumption) (by omega) (by omega) (by decide) ?_
        refine G_top ((hRc (c) (by omega) (by omega)).2.1) ?_
        refine G_iload_n dX6_digs_44 rfl rfl ?_
        refine G_icmp_le (tgt := 53) dX6_digs_45 (by decide) (inR_of (by omega) (by omega)) (inR_of (by omega) (by omega)) (fun hc45 => ?_) (fun hc45 => ?_)
        · skip
          refine G_aload_n dX6_digs_53 rfl rfl ?_
          refine G_bipush dX6_digs_54 rfl ?_
          refine G_iload_n dX6_digs_56 rfl rfl ?_
          refine G_iadd dX6_digs_57 ?_
          refine G_iload_n dX6_digs_58 rfl rfl ?_
          refine G_callV (ci := 6) (as := [_, _]) (c_X6_puts _ m s tx mk co st kp ty sn se fi ca sp le on tw (7 + c) (d) hM (by omega) (by omega) (inR_of (by omega) (by omega)) (inR_of (by omega) (by omega))) dX6_digs_59 ml_X6_78 cv_X6_puts (by assumption) rfl rfl (Nat.le_of_ble_eq_true rfl) (Nat.le_of_ble_eq_true rfl) rfl (fun r h2 hp => ?_)
          obtain ⟨rfl, hF1, hM1⟩ := hp
          refine G_ireturn dX6_digs_62 rfl ?_
          first
            | (have e : digR v c d = -4 := by unfold digR; rw [if_neg (by omega), if_neg (by omega), if_pos (by omega)]
               have e2 : digV v c d = v := by unfold digV; rw [if_neg (by omega)]
               rw [e, e2]
               exact ⟨rfl, Fr.rf, s, mk, co, fi, ca, hM, frR.rf, hR⟩)
            | (have eR : digR v c d = if v 0 c = d then -5 else v 0 c := by unfold digR; rw [if_neg (by omega), if_neg (by omega), if_neg (by omega)]
               have k := puts_case (s := s) (pl := 7 + c) (d := d) (V := digV v c d) e8 eR (by omega) hR (by omega) (by omega) (fun q => by unfold digV; rw [if_neg (by omega)]) (fun q => by unfold digV; rw [if_pos q]; exact rwF.dep hR hn.2 d (by omega) (by omega))
               rw [k.1]
               exact ⟨rfl, hF1, _, mk, co, fi, ca, hM1, k.2.1, k.2.2⟩)
        · skip
          refine G_bipush dX6_digs_48 rfl ?_
          refine G_goto (tgt := 62) dX6_digs_50 (by decide) ?_
          refine G_ireturn dX6_digs_62 rfl ?_
          first
            | (have e : digR v c d = -4 := by unfold digR; rw [if_neg (by omega), if_neg (by omega), if_pos (by omega)]
               have e2 : digV v c d = v := by unfold digV; rw [if_neg (by omega)]
               rw [e, e2]
               exact ⟨rfl, Fr.rf, s, mk, co, fi, ca, hM, frR.rf, hR⟩)
            | (have eR : digR v c d = if v 0 c = d then -5 else v 0 c := by unfold digR; rw [if_neg (by omega), if_neg (by omega), if_neg (by omega)]
               have k := puts_case (s := s) (pl := 7 + c) (d := d) (V := digV v c d) e8 eR (by omega) hR (by omega) (by omega) (fun q => by unfold digV; rw [if_neg (by omega)]) (fun q => by unfold digV; rw [if_pos q]; exact rwF.dep hR hn.2 d (by omega) (by omega))
               rw [k.1]
               exact ⟨rfl, hF1, _, mk, co, fi, ca, hM1, k.2.1, k.2.2⟩)
    · skip
      refine G_bipush dX6_digs_19 rfl ?_
      refine G_ireturn dX6_digs_21 rfl ?_
      have e : digR v c d = -2 := by unfold digR; rw [if_neg (by omega), if_pos (by omega)]
      have e2 : digV v c d = v := by unfold digV; rw [if_neg (by omega)]
      rw [e, e2]
      exact ⟨rfl, Fr.rf, s, mk, co, fi, ca, hM, frR.rf, hR⟩
  · skip
    refine G_iconst dX6_digs_7 ?_
    refine G_ireturn dX6_digs_8 rfl ?_
    have e : digR v c d = -1 := by unfold digR; rw [if_pos (by omega)]
    have e2 : digV v c d = v := by unfold digV; rw [if_neg (by omega)]
    rw [e, e2]
    exact ⟨rfl, Fr.rf, s, mk, co, fi, ca, hM, frR.rf, hR⟩
set_option maxRecDepth 100000 in
set_option maxHeartbeats 4000000 in
theorem c_X6_builds (h : List PO) (m : Nat) (s tx mk co : Int → Int) (st kp ty sn se fi ca sp le on tw : Int) (c d : Int) (v : SV) (hM : moAt h m s tx mk co st kp ty sn se fi ca sp le on tw) (hR : rwR s 0 v) (hV : OK v) (hc : inR c) (hd : inR d) : PM 2 yX6_builds cX6_builds 3 (some .int) h [r_ m, i_ c, i_ d] (fun r0 h2 => r0 = some (i_ (buildR v c d)) ∧ Fr h h2 m (m + 5) ∧ ∃ (s2 mk2 co2 : Int → Int) (fi2 ca2 : Int), moAt h2 m s2 tx mk2 co2 st kp ty sn se fi2 ca2 sp le on tw ∧ frR s s2 0 ∧ rwR s2 0 (buildV v c d)) := by
  refine PM_of_G RX6 [some (r_ m), some (i_ c), some (i_ d)] rfl (by decide +kernel) (Nat.le_of_ble_eq_true rfl) rfl ?_
  obtain ⟨hM0, hM1, hM2, hM3, hM4⟩ := id hM
  obtain ⟨⟨hrd, hrs, hrh⟩, ⟨hs0, hs1, hs2⟩, ⟨hn, hf, hfa⟩, ⟨hc0, hrr, hs, hz⟩, h49, hdi⟩ := id hV
  obtain ⟨hRc, ⟨hR0, hR1, hR2, hR3, hR4, hR5, hR6⟩, hRw⟩ := rwF.zero hR
  have hc1 := hc.1
  have hc2 := hc.2
  have hd1 := hd.1
  have hd2 := hd.2
  refine G_iload_n dX6_builds_0 rfl rfl ?_
  refine G_callS (as := [_]) (c_X6_isCell _ (c) (inR_of (by omega) (by omega))) dX6_builds_1 ml_X6_74 cs_X6_isCell rfl (Nat.le_of_ble_eq_true rfl) (Nat.le_of_ble_eq_true rfl) rfl (fun r h2 hp => ?_)
  obtain ⟨yc, rfl, rfl, hyc⟩ := hp
  refine G_if_ne (tgt := 9) dX6_builds_4 (by decide) (inR_of (by omega) (by omega)) (fun hc4 => ?_) (fun hc4 => ?_)
  · skip
    refine G_iload_n dX6_builds_9 rfl rfl ?_
    refine G_iconst dX6_builds_10 ?_
    refine G_bipush dX6_builds_11 rfl ?_
    refine G_callS (as := [_, _, _]) (c_X6_in _ (d) (0) (60) (inR_of (by omega) (by omega)) (inR_of (by omega) (by omega)) (inR_of (by omega) (by omega))) dX6_builds_13 ml_X6_70 cs_X6_in rfl (Nat.le_of_ble_eq_true rfl) (Nat.le_of_ble_eq_true rfl) rfl (fun r h2 hp => ?_)
    obtain ⟨yd, rfl, rfl, hyd⟩ := hp
    refine G_if_ne (tgt := 22) dX6_builds_16 (by decide) (inR_of (by omega) (by omega)) (fun hc16 => ?_) (fun hc16 => ?_)
    · skip
      have hh9 := hrh c (by omega) (by omega)
      have ss9 := hrs c (by omega) (by omega)
      have dd9 := hrd c (by omega) (by omega)
      have e8 : s (47 + c) = v 1 c := (hRc (c) (by omega) (by omega)).2.1
      refine G_iload_n dX6_builds_22 rfl rfl ?_
      refine G_aload_n dX6_builds_23 rfl rfl ?_
      refine G_getf fl_X6_7 dX6_builds_24 (by assumption) rfl ?_
      refine G_bipush dX6_builds_27 rfl ?_
      refine G_iload_n dX6_builds_29 rfl rfl ?_
      refine G_iadd dX6_builds_30 ?_
      refine G_iald dX6_builds_31 (by assumption) (by omega) (by omega) (by decide) ?_
      refine G_top ((hRc (c) (by omega) (by omega)).1) ?_
      refine G_icmp_le (tgt := 40) dX6_builds_32 (by decide) (inR_of (by omega) (by omega)) (inR_of (by omega) (by omega)) (fun hc32 => ?_) (fun hc32 => ?_)
      · skip
        refine G_aload_n dX6_builds_40 rfl rfl ?_
        refine G_bipush dX6_builds_41 rfl ?_
        refine G_iload_n dX6_builds_43 rfl rfl ?_
        refine G_iadd dX6_builds_44 ?_
        refine G_iload_n dX6_builds_45 rfl rfl ?_
        refine G_callV (ci := 6) (as := [_, _]) (c_X6_puts _ m s tx mk co st kp ty sn se fi ca sp le on tw (47 + c) (d) hM (by omega) (by omega) (inR_of (by omega) (by omega)) (inR_of (by omega) (by omega))) dX6_builds_46 ml_X6_78 cv_X6_puts (by assumption) rfl rfl (Nat.le_of_ble_eq_true rfl) (Nat.le_of_ble_eq_true rfl) rfl (fun r h2 hp => ?_)
        obtain ⟨rfl, hF1, hM1⟩ := hp
        refine G_ireturn dX6_builds_49 rfl ?_
        first
          | (have e : buildR v c d = -4 := by unfold buildR; rw [if_neg (by omega), if_neg (by omega), if_pos (by omega)]
             have e2 : buildV v c d = v := by unfold buildV; rw [if_neg (by omega)]
             rw [e, e2]
             exact ⟨rfl, Fr.rf, s, mk, co, fi, ca, hM, frR.rf, hR⟩)
          | (have eR : buildR v c d = if v 1 c = d then -5 else v 1 c := by unfold buildR; rw [if_neg (by omega), if_neg (by omega), if_neg (by omega)]
             have k := puts_case (s := s) (pl := 47 + c) (d := d) (V := buildV v c d) e8 eR (by omega) hR (by omega) (by omega) (fun q => by unfold buildV; rw [if_neg (by omega)]) (fun q => by unfold buildV; rw [if_pos q]; exact rwF.sil hR hn.2 d (by omega) (by omega))
             rw [k.1]
             exact ⟨rfl, hF1, _, mk, co, fi, ca, hM1, k.2.1, k.2.2⟩)
      · skip
        refine G_bipush dX6_builds_35 rfl ?_
        refine G_goto (tgt := 49) dX6_builds_37 (by decide) ?_
        refine G_ireturn dX6_builds_49 rfl ?_
        first
          | (have e : buildR v c d = -4 := by unfold buildR; rw [if_neg (by omega), if_neg (by omega), if_pos (by omega)]
             have e2 : buildV v c d = v := by unfold buildV; rw [if_neg (by omega)]
             rw [e, e2]
             exact ⟨rfl, Fr.rf, s, mk, co, fi, ca, hM, frR.rf, hR⟩)
          | (have eR : buildR v c d = if v 1 c = d then -5 else v 1 c := by unfold buildR; rw [if_neg (by omega), if_neg (by omega), if_neg (by omega)]
             have k := puts_case (s := s) (pl := 47 + c) (d := d) (V := buildV v c d) e8 eR (by omega) hR (by omega) (by omega) (fun q => by unfold buildV; rw [if_neg (by omega)]) (fun q => by unfold buildV; rw [if_pos q]; exact rwF.sil hR hn.2 d (by omega) (by omega))
             rw [k.1]
             exact ⟨rfl, hF1, _, mk, co, fi, ca, hM1, k.2.1, k.2.2⟩)
    · skip
      refine G_bipush dX6_builds_19 rfl ?_
      refine G_ireturn dX6_builds_21 rfl ?_
      have e : buildR v c d = -2 := by unfold buildR; rw [if_neg (by omega), if_pos (by omega)]
      have e2 : buildV v c d = v := by unfold buildV; rw [if_neg (by omega)]
      rw [e, e2]
      exact ⟨rfl, Fr.rf, s, mk, co, fi, ca, hM, frR.rf, hR⟩
  · skip
    refine G_iconst dX6_builds_7 ?_
    refine G_ireturn dX6_builds_8 rfl ?_
    have e : buildR v c d = -1 := by unfold buildR; rw [if_pos (by omega)]
    have e2 : buildV v c d = v := by unfold buildV; rw [if_neg (by omega)]
    rw [e, e2]
    exact ⟨rfl, Fr.rf, s, mk, co, fi, ca, hM, frR.rf, hR⟩
set_option maxRecDepth 100000 in
set_option maxHeartbeats 4000000 in
theorem c_X6_flows (h : List PO) (m : Nat) (s tx mk co : Int → Int) (st kp ty sn se fi ca sp le on tw : Int) (c : Int) (v : SV) (hM : moAt h m s tx mk co st kp ty sn se fi ca sp le on tw) (hR : rwR s 0 v) (hV : OK v) (hc : inR c) : PM 1 yX6_flows cX6_flows 2 (some .int) h [r_ m, i_ c] (fun r0 h2 => r0 = some (i_ (flowR v c)) ∧ Fr h h2 m (m + 5) ∧ ∃ (s2 mk2 co2 : Int → Int) (fi2 ca2 : Int), moAt h2 m s2 tx mk2 co2 st kp ty sn se fi2 ca2 sp le on tw ∧ frR s s2 0 ∧ rwR s2 0 (flowV v c)) := by
  refine PM_of_G RX6 [some (r_ m), some (i_ c)] rfl (by decide +kernel) (Nat.le_of_ble_eq_true rfl) rfl ?_
  obtain ⟨hM0, hM1, hM2, hM3, hM4⟩ := id hM
  obtain ⟨⟨hrd, hrs, hrh⟩, ⟨hs0, hs1, hs2⟩, ⟨hn, hf, hfa⟩, ⟨hc0, hrr, hs, hz⟩, h49, hdi⟩ := id hV
  obtain ⟨hRc, ⟨hR0, hR1, hR2, hR3, hR4, hR5, hR6⟩, hRw⟩ := rwF.zero hR
  have hc1 := hc.1
  have hc2 := hc.2
  have e8 : s 3 = v 11 1 := hR3
  refine G_iload_n dX6_flows_0 rfl rfl ?_
  refine G_iconst dX6_flows_1 ?_
  refine G_bipush dX6_flows_2 rfl ?_
  refine G_callS (as := [_, _, _]) (c_X6_in _ (c) (0) (99) (inR_of (by omega) (by omega)) (inR_of (by omega) (by omega)) (inR_of (by omega) (by omega))) dX6_flows_4 ml_X6_70 cs_X6_in rfl (Nat.le_of_ble_eq_true rfl) (Nat.le_of_ble_eq_true rfl) rfl (fun r h2 hp => ?_)
  obtain ⟨y, rfl, rfl, hy⟩ := hp
  refine G_if_eq (tgt := 19) dX6_flows_7 (by decide) (inR_of (by omega) (by omega)) (fun hc7 => ?_) (fun hc7 => ?_)
  · skip
    refine G_bipush dX6_flows_19 rfl ?_
    refine G_ireturn dX6_flows_21 rfl ?_
    first
      | (have e : flowR v c = -2 := by unfold flowR; rw [if_pos (by omega)]
         have e2 : flowV v c = v := by unfold flowV; rw [if_neg (by omega)]
         rw [e, e2]
         exact ⟨rfl, Fr.rf, s, mk, co, fi, ca, hM, frR.rf, hR⟩)
      | (have eR : flowR v c = if v 11 1 = c then -5 else v 11 1 := by unfold flowR; rw [if_neg (by omega)]
         have k := puts_case (s := s) (pl := 3) (d := c) (V := flowV v c) e8 eR (by omega) hR (by omega) (by omega) (fun q => by unfold flowV; rw [if_neg (by omega)]) (fun q => by unfold flowV; rw [if_pos q]; exact rwF.flow hR hn.2 c)
         rw [k.1]
         exact ⟨rfl, hF1, _, mk, co, fi, ca, hM1, k.2.1, k.2.2⟩)
  · skip
    refine G_aload_n dX6_flows_10 rfl rfl ?_
    refine G_iconst dX6_flows_11 ?_
    refine G_iload_n dX6_flows_12 rfl rfl ?_
    refine G_callV (ci := 6) (as := [_, _]) (c_X6_puts _ m s tx mk co st kp ty sn se fi ca sp le on tw (3) (c) hM (by omega) (by omega) (inR_of (by omega) (by omega)) (inR_of (by omega) (by omega))) dX6_flows_13 ml_X6_78 cv_X6_puts (by assumption) rfl rfl (Nat.le_of_ble_eq_true rfl) (Nat.le_of_ble_eq_true rfl) rfl (fun r h2 hp => ?_)
    obtain ⟨rfl, hF1, hM1⟩ := hp
    refine G_goto (tgt := 21) dX6_flows_16 (by decide) ?_
    refine G_ireturn dX6_flows_21 rfl ?_
    first
      | (have e : flowR v c = -2 := by unfold flowR; rw [if_pos (by omega)]
         have e2 : flowV v c = v := by unfold flowV; rw [if_neg (by omega)]
         rw [e, e2]
         exact ⟨rfl, Fr.rf, s, mk, co, fi, ca, hM, frR.rf, hR⟩)
      | (have eR : flowR v c = if v 11 1 = c then -5 else v 11 1 := by unfold flowR; rw [if_neg (by omega)]
         have k := puts_case (s := s) (pl := 3) (d := c) (V := flowV v c) e8 eR (by omega) hR (by omega) (by omega) (fun q => by unfold flowV; rw [if_neg (by omega)]) (fun q => by unfold flowV; rw [if_pos q]; exact rwF.flow hR hn.2 c)
         rw [k.1]
         exact ⟨rfl, hF1, _, mk, co, fi, ca, hM1, k.2.1, k.2.2⟩)
set_option maxRecDepth 100000 in
set_option maxHeartbeats 4000000 in
theorem c_X6_sets (h : List PO) (m : Nat) (s tx mk co : Int → Int) (st kp ty sn se fi ca sp le on tw : Int) (c d : Int) (v : SV) (hM : moAt h m s tx mk co st kp ty sn se fi ca sp le on tw) (hR : rwR s 0 v) (hV : OK v) (hc : inR c) (hd : inR d) : PM 1 yX6_sets cX6_sets 3 (some .int) h [r_ m, i_ c, i_ d] (fun r0 h2 => r0 = some (i_ (setR v c d)) ∧ Fr h h2 m (m + 5) ∧ ∃ (s2 mk2 co2 : Int → Int) (fi2 ca2 : Int), moAt h2 m s2 tx mk2 co2 st kp ty sn se fi2 ca2 sp le on tw ∧ frR s s2 0 ∧ rwR s2 0 (setV v c d)) := by
  refine PM_of_G RX6 [some (r_ m), some (i_ c), some (i_ d)] rfl (by decide +kernel) (Nat.le_of_ble_eq_true rfl) rfl ?_
  obtain ⟨hM0, hM1, hM2, hM3, hM4⟩ := id hM
  obtain ⟨⟨hrd, hrs, hrh⟩, ⟨hs0, hs1, hs2⟩, ⟨hn, hf, hfa⟩, ⟨hc0, hrr, hs, hz⟩, h49, hdi⟩ := id hV
  obtain ⟨hRc, ⟨hR0, hR1, hR2, hR3, hR4, hR5, hR6⟩, hRw⟩ := rwF.zero hR
  have hc1 := hc.1
  have hc2 := hc.2
  have hd1 := hd.1
  have hd2 := hd.2
  refine G_iload_n dX6_sets_0 rfl rfl ?_
  refine G_iconst dX6_sets_1 ?_
  refine G_iconst dX6_sets_2 ?_
  refine G_callS (as := [_, _, _]) (c_X6_in _ (c) (0) (2) (inR_of (by omega) (by omega)) (inR_of (by omega) (by omega)) (inR_of (by omega) (by omega))) dX6_sets_3 ml_X6_70 cs_X6_in rfl (Nat.le_of_ble_eq_true rfl) (Nat.le_of_ble_eq_true rfl) rfl (fun r h2 hp => ?_)
  obtain ⟨y, rfl, rfl, hy⟩ := hp
  refine G_if_ne (tgt := 11) dX6_sets_6 (by decide) (inR_of (by omega) (by omega)) (fun hc6 => ?_) (fun hc6 => ?_)
  · skip
    have e8 : s c = v 10 c := by
      rcases (show c = 0 ∨ c = 1 ∨ c = 2 from by omega) with e | e | e
      · rw [e]; exact hR0
      · rw [e]; exact hR1
      · rw [e]; exact hR2
    have hv9 := set_rng hV (w := c) (by omega) (by omega)
    have hlm : (c = 2 ∧ leastF c = 1 ∨ c ≠ 2 ∧ leastF c = 0) ∧ (c = 1 ∧ mostF c = 9 ∨ c ≠ 1 ∧ mostF c = 60) := by
      unfold leastF mostF
      refine ⟨?_, ?_⟩
      · split <;> omega
      · split <;> omega
    refine G_iload_n dX6_sets_11 rfl rfl ?_
    refine G_iload_n dX6_sets_12 rfl rfl ?_
    refine G_iconst dX6_sets_13 ?_
    refine G_icmp_ne (tgt := 21) dX6_sets_14 (by decide) (inR_of (by omega) (by omega)) (inR_of (by omega) (by omega)) (fun hc14 => ?_) (fun hc14 => ?_)
    · skip
      refine G_iconst dX6_sets_21 ?_
      refine G_iload_n dX6_sets_22 rfl rfl ?_
      refine G_iconst dX6_sets_23 ?_
      refine G_icmp_ne (tgt := 32) dX6_sets_24 (by decide) (inR_of (by omega) (by omega)) (inR_of (by omega) (by omega)) (fun hc24 => ?_) (fun hc24 => ?_)
      · skip
        refine G_bipush dX6_sets_32 rfl ?_
        refine G_callS (as := [_, _, _]) (c_X6_in _ d _ _ (inR_of (by omega) (by omega)) (inR_of (by omega) (by omega)) (inR_of (by omega) (by omega))) dX6_sets_34 ml_X6_70 cs_X6_in rfl (Nat.le_of_ble_eq_true rfl) (Nat.le_of_ble_eq_true rfl) rfl (fun r h2 hp => ?_)
        obtain ⟨yd, rfl, rfl, hyd⟩ := hp
        refine G_if_eq (tgt := 49) dX6_sets_37 (by decide) (inR_of (by omega) (by omega)) (fun hc37 => ?_) (fun hc37 => ?_)
        · skip
          refine G_bipush dX6_sets_49 rfl ?_
          refine G_ireturn dX6_sets_51 rfl ?_
          first
            | (have e : setR v c d = -2 := by unfold setR; rw [if_neg (by omega), if_pos (by omega)]
               have e2 : setV v c d = v := by unfold setV; rw [if_neg (by omega)]
               rw [e, e2]
               exact ⟨rfl, Fr.rf, s, mk, co, fi, ca, hM, frR.rf, hR⟩)
            | (have eR : setR v c d = if v 10 c = d then -5 else v 10 c := by unfold setR; rw [if_neg (by omega), if_neg (by omega)]
               have k := puts_case (s := s) (pl := c) (d := d) (V := setV v c d) e8 eR (by omega) hR (by omega) (by omega) (fun q => by unfold setV; rw [if_neg (by omega)]) (fun q => by unfold setV; rw [if_pos q]; have k9 := rwF.sett hR hn.2 d (i := c) (by omega) (by omega); rw [Int.zero_add] at k9; exact k9)
               rw [k.1]
               exact ⟨rfl, hF1, _, mk, co, fi, ca, hM1, k.2.1, k.2.2⟩)
        · skip
          refine G_aload_n dX6_sets_40 rfl rfl ?_
          refine G_iload_n dX6_sets_41 rfl rfl ?_
          refine G_iload_n dX6_sets_42 rfl rfl ?_
          refine G_callV (ci := 6) (as := [_, _]) (c_X6_puts _ m s tx mk co st kp ty sn se fi ca sp le on tw (c) (d) hM (by omega) (by omega) (inR_of (by omega) (by omega)) (inR_of (by omega) (by omega))) dX6_sets_43 ml_X6_78 cv_X6_puts (by assumption) rfl rfl (Nat.le_of_ble_eq_true rfl) (Nat.le_of_ble_eq_true rfl) rfl (fun r h2 hp => ?_)
          obtain ⟨rfl, hF1, hM1⟩ := hp
          refine G_goto (tgt := 51) dX6_sets_46 (by decide) ?_
          refine G_ireturn dX6_sets_51 rfl ?_
          first
            | (have e : setR v c d = -2 := by unfold setR; rw [if_neg (by omega), if_pos (by omega)]
               have e2 : setV v c d = v := by unfold setV; rw [if_neg (by omega)]
               rw [e, e2]
               exact ⟨rfl, Fr.rf, s, mk, co, fi, ca, hM, frR.rf, hR⟩)
            | (have eR : setR v c d = if v 10 c = d then -5 else v 10 c := by unfold setR; rw [if_neg (by omega), if_neg (by omega)]
               have k := puts_case (s := s) (pl := c) (d := d) (V := setV v c d) e8 eR (by omega) hR (by omega) (by omega) (fun q => by unfold setV; rw [if_neg (by omega)]) (fun q => by unfold setV; rw [if_pos q]; have k9 := rwF.sett hR hn.2 d (i := c) (by omega) (by omega); rw [Int.zero_add] at k9; exact k9)
               rw [k.1]
               exact ⟨rfl, hF1, _, mk, co, fi, ca, hM1, k.2.1, k.2.2⟩)
      · skip
        refine G_bipush dX6_sets_27 rfl ?_
        refine G_goto (tgt := 34) dX6_sets_29 (by decide) ?_
        refine G_callS (as := [_, _, _]) (c_X6_in _ d _ _ (inR_of (by omega) (by omega)) (inR_of (by omega) (by omega)) (inR_of (by omega) (by omega))) dX6_sets_34 ml_X6_70 cs_X6_in rfl (Nat.le_of_ble_eq_true rfl) (Nat.le_of_ble_eq_true rfl) rfl (fun r h2 hp => ?_)
        obtain ⟨yd, rfl, rfl, hyd⟩ := hp
        refine G_if_eq (tgt := 49) dX6_sets_37 (by decide) (inR_of (by omega) (by omega)) (fun hc37 => ?_) (fun hc37 => ?_)
        · skip
          refine G_bipush dX6_sets_49 rfl ?_
          refine G_ireturn dX6_sets_51 rfl ?_
          first
            | (have e : setR v c d = -2 := by unfold setR; rw [if_neg (by omega), if_pos (by omega)]
               have e2 : setV v c d = v := by unfold setV; rw [if_neg (by omega)]
               rw [e, e2]
               exact ⟨rfl, Fr.rf, s, mk, co, fi, ca, hM, frR.rf, hR⟩)
            | (have eR : setR v c d = if v 10 c = d then -5 else v 10 c := by unfold setR; rw [if_neg (by omega), if_neg (by omega)]
               have k := puts_case (s := s) (pl := c) (d := d) (V := setV v c d) e8 eR (by omega) hR (by omega) (by omega) (fun q => by unfold setV; rw [if_neg (by omega)]) (fun q => by unfold setV; rw [if_pos q]; have k9 := rwF.sett hR hn.2 d (i := c) (by omega) (by omega); rw [Int.zero_add] at k9; exact k9)
               rw [k.1]
               exact ⟨rfl, hF1, _, mk, co, fi, ca, hM1, k.2.1, k.2.2⟩)
        · skip
          refine G_aload_n dX6_sets_40 rfl rfl ?_
          refine G_iload_n dX6_sets_41 rfl rfl ?_
          refine G_iload_n dX6_sets_42 rfl rfl ?_
          refine G_callV (ci := 6) (as := [_, _]) (c_X6_puts _ m s tx mk co st kp ty sn se fi ca sp le on tw (c) (d) hM (by omega) (by omega) (inR_of (by omega) (by omega)) (inR_of (by omega) (by omega))) dX6_sets_43 ml_X6_78 cv_X6_puts (by assumption) rfl rfl (Nat.le_of_ble_eq_true rfl) (Nat.le_of_ble_eq_true rfl) rfl (fun r h2 hp => ?_)
          obtain ⟨rfl, hF1, hM1⟩ := hp
          refine G_goto (tgt := 51) dX6_sets_46 (by decide) ?_
          refine G_ireturn dX6_sets_51 rfl ?_
          first
            | (have e : setR v c d = -2 := by unfold setR; rw [if_neg (by omega), if_pos (by omega)]
               have e2 : setV v c d = v := by unfold setV; rw [if_neg (by omega)]
               rw [e, e2]
               exact ⟨rfl, Fr.rf, s, mk, co, fi, ca, hM, frR.rf, hR⟩)
            | (have eR : setR v c d = if v 10 c = d then -5 else v 10 c := by unfold setR; rw [if_neg (by omega), if_neg (by omega)]
               have k := puts_case (s := s) (pl := c) (d := d) (V := setV v c d) e8 eR (by omega) hR (by omega) (by omega) (fun q => by unfold setV; rw [if_neg (by omega)]) (fun q => by unfold setV; rw [if_pos q]; have k9 := rwF.sett hR hn.2 d (i := c) (by omega) (by omega); rw [Int.zero_add] at k9; exact k9)
               rw [k.1]
               exact ⟨rfl, hF1, _, mk, co, fi, ca, hM1, k.2.1, k.2.2⟩)
    · skip
      refine G_iconst dX6_sets_17 ?_
      refine G_goto (tgt := 22) dX6_sets_18 (by decide) ?_
      refine G_iload_n dX6_sets_22 rfl rfl ?_
      refine G_iconst dX6_sets_23 ?_
      refine G_icmp_ne (tgt := 32) dX6_sets_24 (by decide) (inR_of (by omega) (by omega)) (inR_of (by omega) (by omega)) (fun hc24 => ?_) (fun hc24 => ?_)
      · skip
        refine G_bipush dX6_sets_32 rfl ?_
        refine G_callS (as := [_, _, _]) (c_X6_in _ d _ _ (inR_of (by omega) (by omega)) (inR_of (by omega) (by omega)) (inR_of (by omega) (by omega))) dX6_sets_34 ml_X6_70 cs_X6_in rfl (Nat.le_of_ble_eq_true rfl) (Nat.le_of_ble_eq_true rfl) rfl (fun r h2 hp => ?_)
        obtain ⟨yd, rfl, rfl, hyd⟩ := hp
        refine G_if_eq (tgt := 49) dX6_sets_37 (by decide) (inR_of (by omega) (by omega)) (fun hc37 => ?_) (fun hc37 => ?_)
        · skip
          refine G_bipush dX6_sets_49 rfl ?_
          refine G_ireturn dX6_sets_51 rfl ?_
          first
            | (have e : setR v c d = -2 := by unfold setR; rw [if_neg (by omega), if_pos (by omega)]
               have e2 : setV v c d = v := by unfold setV; rw [if_neg (by omega)]
               rw [e, e2]
               exact ⟨rfl, Fr.rf, s, mk, co, fi, ca, hM, frR.rf, hR⟩)
            | (have eR : setR v c d = if v 10 c = d then -5 else v 10 c := by unfold setR; rw [if_neg (by omega), if_neg (by omega)]
               have k := puts_case (s := s) (pl := c) (d := d) (V := setV v c d) e8 eR (by omega) hR (by omega) (by omega) (fun q => by unfold setV; rw [if_neg (by omega)]) (fun q => by unfold setV; rw [if_pos q]; have k9 := rwF.sett hR hn.2 d (i := c) (by omega) (by omega); rw [Int.zero_add] at k9; exact k9)
               rw [k.1]
               exact ⟨rfl, hF1, _, mk, co, fi, ca, hM1, k.2.1, k.2.2⟩)
        · skip
          refine G_aload_n dX6_sets_40 rfl rfl ?_
          refine G_iload_n dX6_sets_41 rfl rfl ?_
          refine G_iload_n dX6_sets_42 rfl rfl ?_
          refine G_callV (ci := 6) (as := [_, _]) (c_X6_puts _ m s tx mk co st kp ty sn se fi ca sp le on tw (c) (d) hM (by omega) (by omega) (inR_of (by omega) (by omega)) (inR_of (by omega) (by omega))) dX6_sets_43 ml_X6_78 cv_X6_puts (by assumption) rfl rfl (Nat.le_of_ble_eq_true rfl) (Nat.le_of_ble_eq_true rfl) rfl (fun r h2 hp => ?_)
          obtain ⟨rfl, hF1, hM1⟩ := hp
          refine G_goto (tgt := 51) dX6_sets_46 (by decide) ?_
          refine G_ireturn dX6_sets_51 rfl ?_
          first
            | (have e : setR v c d = -2 := by unfold setR; rw [if_neg (by omega), if_pos (by omega)]
               have e2 : setV v c d = v := by unfold setV; rw [if_neg (by omega)]
               rw [e, e2]
               exact ⟨rfl, Fr.rf, s, mk, co, fi, ca, hM, frR.rf, hR⟩)
            | (have eR : setR v c d = if v 10 c = d then -5 else v 10 c := by unfold setR; rw [if_neg (by omega), if_neg (by omega)]
               have k := puts_case (s := s) (pl := c) (d := d) (V := setV v c d) e8 eR (by omega) hR (by omega) (by omega) (fun q => by unfold setV; rw [if_neg (by omega)]) (fun q => by unfold setV; rw [if_pos q]; have k9 := rwF.sett hR hn.2 d (i := c) (by omega) (by omega); rw [Int.zero_add] at k9; exact k9)
               rw [k.1]
               exact ⟨rfl, hF1, _, mk, co, fi, ca, hM1, k.2.1, k.2.2⟩)
      · skip
        refine G_bipush dX6_sets_27 rfl ?_
        refine G_goto (tgt := 34) dX6_sets_29 (by decide) ?_
        refine G_callS (as := [_, _, _]) (c_X6_in _ d _ _ (inR_of (by omega) (by omega)) (inR_of (by omega) (by omega)) (inR_of (by omega) (by omega))) dX6_sets_34 ml_X6_70 cs_X6_in rfl (Nat.le_of_ble_eq_true rfl) (Nat.le_of_ble_eq_true rfl) rfl (fun r h2 hp => ?_)
        obtain ⟨yd, rfl, rfl, hyd⟩ := hp
        refine G_if_eq (tgt := 49) dX6_sets_37 (by decide) (inR_of (by omega) (by omega)) (fun hc37 => ?_) (fun hc37 => ?_)
        · skip
          refine G_bipush dX6_sets_49 rfl ?_
          refine G_ireturn dX6_sets_51 rfl ?_
          first
            | (have e : setR v c d = -2 := by unfold setR; rw [if_neg (by omega), if_pos (by omega)]
               have e2 : setV v c d = v := by unfold setV; rw [if_neg (by omega)]
               rw [e, e2]
               exact ⟨rfl, Fr.rf, s, mk, co, fi, ca, hM, frR.rf, hR⟩)
            | (have eR : setR v c d = if v 10 c = d then -5 else v 10 c := by unfold setR; rw [if_neg (by omega), if_neg (by omega)]
               have k := puts_case (s := s) (pl := c) (d := d) (V := setV v c d) e8 eR (by omega) hR (by omega) (by omega) (fun q => by unfold setV; rw [if_neg (by omega)]) (fun q => by unfold setV; rw [if_pos q]; have k9 := rwF.sett hR hn.2 d (i := c) (by omega) (by omega); rw [Int.zero_add] at k9; exact k9)
               rw [k.1]
               exact ⟨rfl, hF1, _, mk, co, fi, ca, hM1, k.2.1, k.2.2⟩)
        · skip
          refine G_aload_n dX6_sets_40 rfl rfl ?_
          refine G_iload_n dX6_sets_41 rfl rfl ?_
          refine G_iload_n dX6_sets_42 rfl rfl ?_
          refine G_callV (ci := 6) (as := [_, _]) (c_X6_puts _ m s tx mk co st kp ty sn se fi ca sp le on tw (c) (d) hM (by omega) (by omega) (inR_of (by omega) (by omega)) (inR_of (by omega) (by omega))) dX6_sets_43 ml_X6_78 cv_X6_puts (by assumption) rfl rfl (Nat.le_of_ble_eq_true rfl) (Nat.le_of_ble_eq_true rfl) rfl (fun r h2 hp => ?_)
          obtain ⟨rfl, hF1, hM1⟩ := hp
          refine G_goto (tgt := 51) dX6_sets_46 (by decide) ?_
          refine G_ireturn dX6_sets_51 rfl ?_
          first
            | (have e : setR v c d = -2 := by unfold setR; rw [if_neg (by omega), if_pos (by omega)]
               have e2 : setV v c d = v := by unfold setV; rw [if_neg (by omega)]
               rw [e, e2]
               exact ⟨rfl, Fr.rf, s, mk, co, fi, ca, hM, frR.rf, hR⟩)
            | (have eR : setR v c d = if v 10 c = d then -5 else v 10 c := by unfold setR; rw [if_neg (by omega), if_neg (by omega)]
               have k := puts_case (s := s) (pl := c) (d := d) (V := setV v c d) e8 eR (by omega) hR (by omega) (by omega) (fun q => by unfold setV; rw [if_neg (by omega)]) (fun q => by unfold setV; rw [if_pos q]; have k9 := rwF.sett hR hn.2 d (i := c) (by omega) (by omega); rw [Int.zero_add] at k9; exact k9)
               rw [k.1]
               exact ⟨rfl, hF1, _, mk, co, fi, ca, hM1, k.2.1, k.2.2⟩)
  · skip
    refine G_iconst dX6_sets_9 ?_
    refine G_ireturn dX6_sets_10 rfl ?_
    have e : setR v c d = -1 := by unfold setR; rw [if_pos (by omega)]
    have e2 : setV v c d = v := by unfold setV; rw [if_neg (by omega)]
    rw [e, e2]
    exact ⟨rfl, Fr.rf, s, mk, co, fi, ca, hM, frR.rf, hR⟩
set_option maxRecDepth 100000 in
set_option maxHeartbeats 4000000 in
theorem c_X6_rates (h : List PO) (m : Nat) (s tx mk co : Int → Int) (st kp ty sn se fi ca sp le on tw : Int) (c d : Int) (v : SV) (hM : moAt h m s tx mk co st kp ty sn se fi ca sp le on tw) (hR : rwR s 0 v) (hV : OK v) (hc : inR c) (hd : inR d) : PM 2 yX6_rates cX6_rates 3 (some .int) h [r_ m, i_ c, i_ d] (fun r0 h2 => r0 = some (i_ (rateR (v 5) (v 11 0) c d)) ∧ Fr h h2 m (m + 5) ∧ ∃ (s2 mk2 co2 : Int → Int) (fi2 ca2 : Int), moAt h2 m s2 tx mk2 co2 st kp ty sn se fi2 ca2 sp le on tw ∧ frR s s2 0 ∧ rwR s2 0 (rateV v c d)) := by
  refine PM_of_G RX6 [some (r_ m), some (i_ c), some (i_ d)] rfl (by decide +kernel) (Nat.le_of_ble_eq_true rfl) rfl ?_
  obtain ⟨hM0, hM1, hM2, hM3, hM4⟩ := id hM
  obtain ⟨⟨hrd, hrs, hrh⟩, ⟨hs0, hs1, hs2⟩, ⟨hn, hf, hfa⟩, ⟨hc0, hrr, hs, hz⟩, h49, hdi⟩ := id hV
  obtain ⟨hRc, ⟨hR0, hR1, hR2, hR3, hR4, hR5, hR6⟩, hRw⟩ := rwF.zero hR
  have hc1 := hc.1
  have hc2 := hc.2
  have hd1 := hd.1
  have hd2 := hd.2
  refine G_aload_n dX6_rates_0 rfl rfl ?_
  refine G_iload_n dX6_rates_1 rfl rfl ?_
  refine G_callV (ci := 6) (as := [_]) (c_X6_isWell _ m s tx mk co st kp ty sn se fi ca sp le on tw (v 11 0) c hM hR6 hn hc) dX6_rates_2 ml_X6_84 cv_X6_isWell (by assumption) rfl rfl (Nat.le_of_ble_eq_true rfl) (Nat.le_of_ble_eq_true rfl) rfl (fun r h2 hp => ?_)
  obtain ⟨yw, rfl, rfl, hyw⟩ := hp
  refine G_if_ne (tgt := 12) dX6_rates_5 (by decide) (inR_of (by omega) (by omega)) (fun hc5 => ?_) (fun hc5 => ?_)
  · skip
    have hr9 := hrr c (by omega) (by omega)
    have e8 : s (0 + 167 + 6 * c + 1) = v 5 c := (hRw (c) (by omega) (by omega)).2.1
    refine G_iload_n dX6_rates_12 rfl rfl ?_
    refine G_iconst dX6_rates_13 ?_
    refine G_bipush dX6_rates_14 rfl ?_
    refine G_callS (as := [_, _, _]) (c_X6_in _ (d) (1) (30) (inR_of (by omega) (by omega)) (inR_of (by omega) (by omega)) (inR_of (by omega) (by omega))) dX6_rates_16 ml_X6_70 cs_X6_in rfl (Nat.le_of_ble_eq_true rfl) (Nat.le_of_ble_eq_true rfl) rfl (fun r h2 hp => ?_)
    obtain ⟨yd, rfl, rfl, hyd⟩ := hp
    refine G_if_eq (tgt := 37) dX6_rates_19 (by decide) (inR_of (by omega) (by omega)) (fun hc19 => ?_) (fun hc19 => ?_)
    · skip
      refine G_bipush dX6_rates_37 rfl ?_
      refine G_ireturn dX6_rates_39 rfl ?_
      first
        | (have e : rateR (v 5) (v 11 0) c d = -1 := by unfold rateR; rw [if_pos (by omega)]
           have e2 : rateV v c d = v := by unfold rateV; rw [if_neg (by omega)]
           rw [e, e2]
           exact ⟨rfl, Fr.rf, s, mk, co, fi, ca, hM, frR.rf, hR⟩)
        | (have e : rateR (v 5) (v 11 0) c d = -2 := by unfold rateR; rw [if_neg (by omega), if_pos (by omega)]
           have e2 : rateV v c d = v := by unfold rateV; rw [if_neg (by omega)]
           rw [e, e2]
           exact ⟨rfl, Fr.rf, s, mk, co, fi, ca, hM, frR.rf, hR⟩)
        | (have eR : rateR (v 5) (v 11 0) c d = if v 5 c = d then -5 else v 5 c := by unfold rateR; rw [if_neg (by omega), if_neg (by omega)]
           have k := puts_case (s := s) (pl := 0 + 167 + 6 * c + 1) (d := d) (V := rateV v c d) e8 eR (by omega) hR (by omega) (by omega) (fun q => by unfold rateV; rw [if_neg (by omega)]) (fun q => by unfold rateV; rw [if_pos q]; exact rwF.wra hR d (i := c) (by omega))
           rw [k.1]
           exact ⟨rfl, hF1, _, mk, co, fi, ca, hM1, k.2.1, k.2.2⟩)
    · skip
      refine G_aload_n dX6_rates_22 rfl rfl ?_
      refine G_iconst dX6_rates_23 ?_
      refine G_iload_n dX6_rates_24 rfl rfl ?_
      refine G_callS (as := [_, _]) (c_X6_wellAt _ 0 c) dX6_rates_25 ml_X6_46 cs_X6_wellAt rfl (Nat.le_of_ble_eq_true rfl) (Nat.le_of_ble_eq_true rfl) rfl (fun r h2 hp => ?_)
      obtain ⟨rfl, rfl⟩ := hp
      refine G_iconst dX6_rates_28 ?_
      refine G_iadd dX6_rates_29 ?_
      refine G_iload_n dX6_rates_30 rfl rfl ?_
      refine G_callV (ci := 6) (as := [_, _]) (c_X6_puts _ m s tx mk co st kp ty sn se fi ca sp le on tw (0 + 167 + 6 * c + 1) (d) hM (by omega) (by omega) (inR_of (by omega) (by omega)) (inR_of (by omega) (by omega))) dX6_rates_31 ml_X6_78 cv_X6_puts (by assumption) rfl rfl (Nat.le_of_ble_eq_true rfl) (Nat.le_of_ble_eq_true rfl) rfl (fun r h2 hp => ?_)
      obtain ⟨rfl, hF1, hM1⟩ := hp
      refine G_goto (tgt := 39) dX6_rates_34 (by decide) ?_
      refine G_ireturn dX6_rates_39 rfl ?_
      first
        | (have e : rateR (v 5) (v 11 0) c d = -1 := by unfold rateR; rw [if_pos (by omega)]
           have e2 : rateV v c d = v := by unfold rateV; rw [if_neg (by omega)]
           rw [e, e2]
           exact ⟨rfl, Fr.rf, s, mk, co, fi, ca, hM, frR.rf, hR⟩)
        | (have e : rateR (v 5) (v 11 0) c d = -2 := by unfold rateR; rw [if_neg (by omega), if_pos (by omega)]
           have e2 : rateV v c d = v := by unfold rateV; rw [if_neg (by omega)]
           rw [e, e2]
           exact ⟨rfl, Fr.rf, s, mk, co, fi, ca, hM, frR.rf, hR⟩)
        | (have eR : rateR (v 5) (v 11 0) c d = if v 5 c = d then -5 else v 5 c := by unfold rateR; rw [if_neg (by omega), if_neg (by omega)]
           have k := puts_case (s := s) (pl := 0 + 167 + 6 * c + 1) (d := d) (V := rateV v c d) e8 eR (by omega) hR (by omega) (by omega) (fun q => by unfold rateV; rw [if_neg (by omega)]) (fun q => by unfold rateV; rw [if_pos q]; exact rwF.wra hR d (i := c) (by omega))
           rw [k.1]
           exact ⟨rfl, hF1, _, mk, co, fi, ca, hM1, k.2.1, k.2.2⟩)
  · skip
    refine G_iconst dX6_rates_8 ?_
    refine G_goto (tgt := 39) dX6_rates_9 (by decide) ?_
    refine G_ireturn dX6_rates_39 rfl ?_
    first
      | (have e : rateR (v 5) (v 11 0) c d = -1 := by unfold rateR; rw [if_pos (by omega)]
         have e2 : rateV v c d = v := by unfold rateV; rw [if_neg (by omega)]
         rw [e, e2]
         exact ⟨rfl, Fr.rf, s, mk, co, fi, ca, hM, frR.rf, hR⟩)
      | (have e : rateR (v 5) (v 11 0) c d = -2 := by unfold rateR; rw [if_neg (by omega), if_pos (by omega)]
         have e2 : rateV v c d = v := by unfold rateV; rw [if_neg (by omega)]
         rw [e, e2]
         exact ⟨rfl, Fr.rf, s, mk, co, fi, ca, hM, frR.rf, hR⟩)
      | (have eR : rateR (v 5) (v 11 0) c d = if v 5 c = d then -5 else v 5 c := by unfold rateR; rw [if_neg (by omega), if_neg (by omega)]
         have k := puts_case (s := s) (pl := 0 + 167 + 6 * c + 1) (d := d) (V := rateV v c d) e8 eR (by omega) hR (by omega) (by omega) (fun q => by unfold rateV; rw [if_neg (by omega)]) (fun q => by unfold rateV; rw [if_pos q]; exact rwF.wra hR d (i := c) (by omega))
         rw [k.1]
         exact ⟨rfl, hF1, _, mk, co, fi, ca, hM1, k.2.1, k.2.2⟩)
def skN (s : Int → Int) (p c q : Int) : Nat → Int → Int
  | 0 => s
  | k + 1 => fup (skN s p c q k) (p + k) (if (k : Int) = 0 then c else if (k : Int) = 1 then q else 0)
theorem skN_off {s : Int → Int} {p c q j : Int} : ∀ k : Nat, (j < p ∨ p + k ≤ j) → skN s p c q k j = s j := by
  intro k
  induction k with
  | zero => intro _; rfl
  | succ k ih =>
    intro h
    show fup (skN s p c q k) (p + k) _ j = s j
    rw [fup_ne (by omega)]
    exact ih (by omega)
theorem skN_in {s : Int → Int} {p c q : Int} {i : Nat} : ∀ k : Nat, i < k → skN s p c q k (p + i) = if (i : Int) = 0 then c else if (i : Int) = 1 then q else 0 := by
  intro k
  induction k with
  | zero => intro h; exact absurd h (Nat.not_lt_zero i)
  | succ k ih =>
    intro h
    show fup (skN s p c q k) (p + k) _ (p + i) = _
    by_cases e : i = k
    · rw [e, fup_eq]
    · rw [fup_ne (by omega)]
      exact ih (by omega)
theorem sink_rw {s : Int → Int} {v : SV} {c q : Int} (hR : rwR s 0 v) (hn : 0 ≤ v 11 0 ∧ v 11 0 < 6) : rwR (fup (skN s (0 + 167 + 6 * v 11 0) c q 6) 6 (v 11 0 + 1)) 0 (sinkW v c q) := by
  obtain ⟨a, e, g⟩ := hR
  have off : ∀ j : Int, j ≠ 6 → (j < 0 + 167 + 6 * v 11 0 ∨ 0 + 167 + 6 * v 11 0 + 6 ≤ j) → fup (skN s (0 + 167 + 6 * v 11 0) c q 6) 6 (v 11 0 + 1) j = s j := fun j h1 h2 => by
    rw [fup_ne h1]
    exact skN_off 6 h2
  refine ⟨fun j j0 j1 => ?_, ?_, fun w w0 w1 => ?_⟩
  · obtain ⟨a0, a1, a2, a3⟩ := a j j0 j1
    exact ⟨(off _ (by omega) (by omega)).trans a0, (off _ (by omega) (by omega)).trans a1, (off _ (by omega) (by omega)).trans a2, (off _ (by omega) (by omega)).trans a3⟩
  · obtain ⟨e0, e1, e2, e3, e4, e5, e6⟩ := e
    exact ⟨(off _ (by omega) (by omega)).trans e0, (off _ (by omega) (by omega)).trans e1, (off _ (by omega) (by omega)).trans e2, (off _ (by omega) (by omega)).trans e3, (off _ (by omega) (by omega)).trans e4, (off _ (by omega) (by omega)).trans e5, fup_eq⟩
  · have w1' : w < v 11 0 + 1 := w1
    by_cases y : w = v 11 0
    · subst y
      have at' : ∀ i : Nat, i < 6 → fup (skN s (0 + 167 + 6 * v 11 0) c q 6) 6 (v 11 0 + 1) (0 + 167 + 6 * v 11 0 + i) = if (i : Int) = 0 then c else if (i : Int) = 1 then q else 0 := fun i hi => by
        rw [fup_ne (by omega)]
        exact skN_in 6 hi
      have k0 := at' 0 (by decide)
      rw [show ((0 : Nat) : Int) = 0 from rfl, Int.add_zero] at k0
      exact ⟨k0.trans fup_eq.symm, (at' 1 (by decide)).trans fup_eq.symm, (at' 2 (by decide)).trans fup_eq.symm, (at' 3 (by decide)).trans fup_eq.symm, (at' 4 (by decide)).trans fup_eq.symm, (at' 5 (by decide)).trans fup_eq.symm⟩
    · obtain ⟨g0, g1, g2, g3, g4, g5⟩ := g w w0 (by omega)
      exact ⟨((off _ (by omega) (by omega)).trans g0).trans (fup_ne y).symm, ((off _ (by omega) (by omega)).trans g1).trans (fup_ne y).symm, ((off _ (by omega) (by omega)).trans g2).trans (fup_ne y).symm, ((off _ (by omega) (by omega)).trans g3).trans (fup_ne y).symm, ((off _ (by omega) (by omega)).trans g4).trans (fup_ne y).symm, ((off _ (by omega) (by omega)).trans g5).trans (fup_ne y).symm⟩
theorem sink_fr {s : Int → Int} {v : SV} {c q : Int} (hn : 0 ≤ v 11 0 ∧ v 11 0 < 6) : frR s (fup (skN s (0 + 167 + 6 * v 11 0) c q 6) 6 (v 11 0 + 1)) 0 := fun j h => by
  rw [fup_ne (by omega)]
  exact skN_off 6 (by omega)
/-- a row closed up behind a well that goes -/
def gpN (s : Int → Int) (p k : Int) : Int → Int := fun j => if p ≤ j ∧ j < k then s (j + 6) else s j
theorem gpN_0 (s : Int → Int) (p : Int) : gpN s p p = s := by
  funext j
  unfold gpN
  rw [if_neg (by omega)]
theorem gpN_s {s : Int → Int} {p k : Int} (h : p ≤ k) : fup (gpN s p k) k (gpN s p k (k + 6)) = gpN s p (k + 1) := by
  funext j
  unfold fup gpN
  by_cases e : j = k
  · rw [if_pos e, if_neg (by omega), if_pos (by omega), e]
  · rw [if_neg e]
    by_cases z : p ≤ j ∧ j < k
    · rw [if_pos z, if_pos (by omega)]
    · rw [if_neg z, if_neg (by omega)]
theorem fill_rw {s : Int → Int} {v : SV} {w : Int} (hR : rwR s 0 v) (hn : v 11 0 ≤ 6) (w0 : 0 ≤ w) (w1 : w < v 11 0) : rwR (gpN (fup s 6 (v 11 0 - 1)) (0 + 167 + 6 * w) (0 + 167 + 6 * (v 11 0 - 1))) 0 (fillW v w) := by
  obtain ⟨a, e, g⟩ := hR
  have off : ∀ j : Int, j ≠ 6 → (j < 0 + 167 + 6 * w) → gpN (fup s 6 (v 11 0 - 1)) (0 + 167 + 6 * w) (0 + 167 + 6 * (v 11 0 - 1)) j = s j := fun j h1 h2 => by
    unfold gpN
    rw [if_neg (by omega), fup_ne h1]
  refine ⟨fun j j0 j1 => ?_, ?_, fun u u0 u1 => ?_⟩
  · obtain ⟨a0, a1, a2, a3⟩ := a j j0 j1
    exact ⟨(off _ (by omega) (by omega)).trans a0, (off _ (by omega) (by omega)).trans a1, (off _ (by omega) (by omega)).trans a2, (off _ (by omega) (by omega)).trans a3⟩
  · obtain ⟨e0, e1, e2, e3, e4, e5, e6⟩ := e
    refine ⟨(off _ (by omega) (by omega)).trans e0, (off _ (by omega) (by omega)).trans e1, (off _ (by omega) (by omega)).trans e2, (off _ (by omega) (by omega)).trans e3, (off _ (by omega) (by omega)).trans e4, (off _ (by omega) (by omega)).trans e5, ?_⟩
    unfold gpN
    rw [if_neg (by omega)]
    exact fup_eq
  · have u1' : u < v 11 0 - 1 := u1
    have key : ∀ k : Int, 0 ≤ k → k < 6 → gpN (fup s 6 (v 11 0 - 1)) (0 + 167 + 6 * w) (0 + 167 + 6 * (v 11 0 - 1)) (0 + 167 + 6 * u + k) = s (0 + 167 + 6 * giI w u + k) := fun k k0 k1 => by
      unfold gpN giI
      by_cases q : w ≤ u
      · rw [if_pos (by omega), if_pos (by omega), fup_ne (by omega)]
        congr 1; omega
      · rw [if_neg (by omega), if_neg (by omega), fup_ne (by omega)]
    have r := giI_rng (w := w) w0 u0 u1'
    obtain ⟨g0, g1, g2, g3, g4, g5⟩ := g (giI w u) r.1 r.2
    have k0 := key 0 (by omega) (by omega)
    rw [Int.add_zero, Int.add_zero] at k0
    exact ⟨(k0.trans g0).trans (gapF_gi _ _ _).symm, ((key 1 (by omega) (by omega)).trans g1).trans (gapF_gi _ _ _).symm, ((key 2 (by omega) (by omega)).trans g2).trans (gapF_gi _ _ _).symm, ((key 3 (by omega) (by omega)).trans g3).trans (gapF_gi _ _ _).symm, ((key 4 (by omega) (by omega)).trans g4).trans (gapF_gi _ _ _).symm, ((key 5 (by omega) (by omega)).trans g5).trans (gapF_gi _ _ _).symm⟩
theorem fill_fr {s : Int → Int} {v : SV} {w : Int} (hn : v 11 0 ≤ 6) (w0 : 0 ≤ w) (w1 : w < v 11 0) : frR s (gpN (fup s 6 (v 11 0 - 1)) (0 + 167 + 6 * w) (0 + 167 + 6 * (v 11 0 - 1))) 0 := fun j h => by
  unfold gpN
  rw [if_neg (by omega), fup_ne (by omega)]
set_option maxRecDepth 100000 in
set_option maxHeartbeats 4000000 in
theorem c_X6_sinks (h : List PO) (m : Nat) (s tx mk co : Int → Int) (st kp ty sn se fi ca sp le on tw : Int) (c d : Int) (v : SV) (hM : moAt h m s tx mk co st kp ty sn se fi ca sp le on tw) (hR : rwR s 0 v) (hV : OK v) (hc : inR c) (hd : inR d) : PM 2 yX6_sinks cX6_sinks 5 (some .int) h [r_ m, i_ c, i_ d] (fun r0 h2 => r0 = some (i_ (sinkR (v 4) (v 11 0) c d)) ∧ Fr h h2 m (m + 5) ∧ ∃ (s2 mk2 co2 : Int → Int) (fi2 ca2 : Int), moAt h2 m s2 tx mk2 co2 st kp ty sn se fi2 ca2 sp le on tw ∧ frR s s2 0 ∧ rwR s2 0 (sinkV v c d)) := by
  refine PM_of_G RX6 [some (r_ m), some (i_ c), some (i_ d), none, none] rfl (by decide +kernel) (Nat.le_of_ble_eq_true rfl) rfl ?_
  obtain ⟨hM0, hM1, hM2, hM3, hM4⟩ := id hM
  obtain ⟨⟨hrd, hrs, hrh⟩, ⟨hs0, hs1, hs2⟩, ⟨hn, hf, hfa⟩, ⟨hc0, hrr, hs, hz⟩, h49, hdi⟩ := id hV
  obtain ⟨hRc, ⟨hR0, hR1, hR2, hR3, hR4, hR5, hR6⟩, hRw⟩ := rwF.zero hR
  have hc1 := hc.1
  have hc2 := hc.2
  have hd1 := hd.1
  have hd2 := hd.2
  refine G_iload_n dX6_sinks_0 rfl rfl ?_
  refine G_callS (as := [_]) (c_X6_isCell _ (c) (inR_of (by omega) (by omega))) dX6_sinks_1 ml_X6_74 cs_X6_isCell rfl (Nat.le_of_ble_eq_true rfl) (Nat.le_of_ble_eq_true rfl) rfl (fun r h2 hp => ?_)
  obtain ⟨yc, rfl, rfl, hyc⟩ := hp
  refine G_if_ne (tgt := 9) dX6_sinks_4 (by decide) (inR_of (by omega) (by omega)) (fun hc4 => ?_) (fun hc4 => ?_)
  · skip
    refine G_iload_n dX6_sinks_9 rfl rfl ?_
    refine G_iconst dX6_sinks_10 ?_
    refine G_bipush dX6_sinks_11 rfl ?_
    refine G_callS (as := [_, _, _]) (c_X6_in _ (d) (1) (30) (inR_of (by omega) (by omega)) (inR_of (by omega) (by omega)) (inR_of (by omega) (by omega))) dX6_sinks_13 ml_X6_70 cs_X6_in rfl (Nat.le_of_ble_eq_true rfl) (Nat.le_of_ble_eq_true rfl) rfl (fun r h2 hp => ?_)
    obtain ⟨yd, rfl, rfl, hyd⟩ := hp
    refine G_if_ne (tgt := 22) dX6_sinks_16 (by decide) (inR_of (by omega) (by omega)) (fun hc16 => ?_) (fun hc16 => ?_)
    · skip
      have hbr := besN_rng (q := v 4) (c := c) (v 11 0).toNat
      refine G_aload_n dX6_sinks_22 rfl rfl ?_
      refine G_iload_n dX6_sinks_23 rfl rfl ?_
      refine G_callV (ci := 6) (as := [_]) (c_X6_wellBeside _ m s tx mk co st kp ty sn se fi ca sp le on tw c _ _ _ _ _ _ _ _ _ _ _ _ _ _ _ hM hR hn hc0 (inR_of (by omega) (by omega))) dX6_sinks_24 ml_X6_81 cv_X6_wellBeside (by assumption) rfl rfl (Nat.le_of_ble_eq_true rfl) (Nat.le_of_ble_eq_true rfl) rfl (fun r h2 hp => ?_)
      obtain ⟨rfl, rfl⟩ := hp
      refine G_bipush dX6_sinks_27 rfl ?_
      refine G_icmp_eq (tgt := 35) dX6_sinks_29 (by decide) (inR_of (by omega) (by omega)) (inR_of (by omega) (by omega)) (fun hc29 => ?_) (fun hc29 => ?_)
      · skip
        refine G_aload_n dX6_sinks_35 rfl rfl ?_
        refine G_getf fl_X6_7 dX6_sinks_36 (by assumption) rfl ?_
        refine G_bipush dX6_sinks_39 rfl ?_
        refine G_iald dX6_sinks_41 (by assumption) (by omega) (by omega) (by decide) ?_
        refine G_top (hR6) ?_
        refine G_bipush dX6_sinks_42 rfl ?_
        refine G_icmp_ne (tgt := 50) dX6_sinks_44 (by decide) (inR_of (by omega) (by omega)) (inR_of (by omega) (by omega)) (fun hc44 => ?_) (fun hc44 => ?_)
        · skip
          refine G_iconst dX6_sinks_50 ?_
          refine G_aload_n dX6_sinks_51 rfl rfl ?_
          refine G_getf fl_X6_7 dX6_sinks_52 (by assumption) rfl ?_
          refine G_bipush dX6_sinks_55 rfl ?_
          refine G_iald dX6_sinks_57 (by assumption) (by omega) (by omega) (by decide) ?_
          refine G_top (hR6) ?_
          refine G_callS (as := [_, _]) (c_X6_wellAt _ 0 (v 11 0)) dX6_sinks_58 ml_X6_46 cs_X6_wellAt rfl (Nat.le_of_ble_eq_true rfl) (Nat.le_of_ble_eq_true rfl) rfl (fun r h2 hp => ?_)
          obtain ⟨rfl, rfl⟩ := hp
          refine G_istore_n dX6_sinks_61 rfl (by decide) rfl ?_
          have L : ∀ (fu : Nat) (k : Nat) (hh : List PO) (i : Int), i = k → k ≤ 6 → moAt hh m (skN s (0 + 167 + 6 * v 11 0) c d k) tx mk co st kp ty sn se fi ca sp le on tw → Fr h hh m (m + 5) → 7 - i < fu → G 2 cX6_sinks RX6 5 (some .int) hh 65 [some (r_ m), some (i_ c), some (i_ d), some (i_ (0 + 167 + 6 * v 11 0)), some (i_ i)] [] (fun r0 h2 => r0 = some (i_ (sinkR (v 4) (v 11 0) c d)) ∧ Fr h h2 m (m + 5) ∧ ∃ (s2 mk2 co2 : Int → Int) (fi2 ca2 : Int), moAt h2 m s2 tx mk2 co2 st kp ty sn se fi2 ca2 sp le on tw ∧ frR s s2 0 ∧ rwR s2 0 (sinkV v c d)) := by
            intro fu
            induction fu with
            | zero => intro k hh i hik a2 hM hF hmeas; exfalso; omega
            | succ fu ih =>
              intro k hh i hik a2 hM hF hmeas
              obtain ⟨hM0, hM1, hM2, hM3, hM4⟩ := id hM
              refine G_iload dX6_sinks_65 rfl ?_
              refine G_bipush dX6_sinks_67 rfl ?_
              refine G_icmp_ge (tgt := 107) dX6_sinks_69 (by decide) (inR_of (by omega) (by omega)) (inR_of (by omega) (by omega)) (fun hc69 => ?_) (fun hc69 => ?_)
              · skip
                have e : k = 6 := by omega
                subst e
                refine G_aload_n dX6_sinks_107 rfl rfl ?_
                refine G_getf fl_X6_7 dX6_sinks_108 (by assumption) rfl ?_
                refine G_bipush dX6_sinks_111 rfl ?_
                refine G_dup2 dX6_sinks_113 ?_
                refine G_iald dX6_sinks_114 (by assumption) (by omega) (by omega) (by decide) ?_
                refine G_top ((skN_off 6 (by omega)).trans hR6) ?_
                refine G_iconst dX6_sinks_115 ?_
                refine G_iadd dX6_sinks_116 ?_
                refine G_iast dX6_sinks_117 (by assumption) (by omega) (by omega) (by decide) rfl ?_
                have hM := hM.set1 (fup (skN s (0 + 167 + 6 * v 11 0) c d 6) 6 (v 11 0 + 1))
                obtain ⟨hM0, hM1, hM2, hM3, hM4⟩ := id hM
                have hF := hF.tr (Fr.set (o := oI 1624 (fup (skN s (0 + 167 + 6 * v 11 0) c d 6) 6 (v 11 0 + 1))) (show m ≤ m + 1 by omega) (show m + 1 < m + 5 by omega))
                refine G_aload_n dX6_sinks_118 rfl rfl ?_
                refine G_getf fl_X6_7 dX6_sinks_119 (by assumption) rfl ?_
                refine G_bipush dX6_sinks_122 rfl ?_
                refine G_iald dX6_sinks_124 (by assumption) (by omega) (by omega) (by decide) ?_
                refine G_top (fup_eq) ?_
                refine G_iconst dX6_sinks_125 ?_
                refine G_isub dX6_sinks_126 ?_
                refine G_ireturn dX6_sinks_127 rfl ?_
                have e : sinkR (v 4) (v 11 0) c d = v 11 0 := by unfold sinkR; rw [if_neg (by omega), if_neg (by omega), if_neg (by omega), if_neg (by omega)]
                have e2 : sinkV v c d = sinkW v c d := by unfold sinkV; rw [if_pos (by omega)]
                rw [e, e2, show v 11 0 + 1 - 1 = v 11 0 from by omega]
                exact ⟨rfl, hF, _, mk, co, fi, ca, hM, sink_fr (v := v) (by omega), sink_rw hR (by omega)⟩
              · skip
                refine G_aload_n dX6_sinks_72 rfl rfl ?_
                refine G_getf fl_X6_7 dX6_sinks_73 (by assumption) rfl ?_
                refine G_iload_n dX6_sinks_76 rfl rfl ?_
                refine G_iload dX6_sinks_77 rfl ?_
                refine G_iadd dX6_sinks_79 ?_
                refine G_iload dX6_sinks_80 rfl ?_
                refine G_if_ne (tgt := 89) dX6_sinks_82 (by decide) (inR_of (by omega) (by omega)) (fun hc82 => ?_) (fun hc82 => ?_)
                · skip
                  refine G_iload dX6_sinks_89 rfl ?_
                  refine G_iconst dX6_sinks_91 ?_
                  refine G_icmp_ne (tgt := 99) dX6_sinks_92 (by decide) (inR_of (by omega) (by omega)) (inR_of (by omega) (by omega)) (fun hc92 => ?_) (fun hc92 => ?_)
                  · skip
                    refine G_iconst dX6_sinks_99 ?_
                    refine G_top (y := if (k : Int) = 0 then c else if (k : Int) = 1 then d else 0) (by first | (rw [if_pos (by omega)]; done) | (rw [if_neg (by omega), if_pos (by omega)]; done) | (rw [if_neg (by omega), if_neg (by omega)]; done)) ?_
                    refine G_iast dX6_sinks_100 (by assumption) (by omega) (by omega) (by decide) (show fup (skN s (0 + 167 + 6 * v 11 0) c d k) (0 + 167 + 6 * v 11 0 + i) _ = (skN s (0 + 167 + 6 * v 11 0) c d (k + 1)) from by rw [hik]; rfl) ?_
                    have hM := hM.set1 (skN s (0 + 167 + 6 * v 11 0) c d (k + 1))
                    obtain ⟨hM0, hM1, hM2, hM3, hM4⟩ := id hM
                    have hF := hF.tr (Fr.set (o := oI 1624 (skN s (0 + 167 + 6 * v 11 0) c d (k + 1))) (show m ≤ m + 1 by omega) (show m + 1 < m + 5 by omega))
                    refine G_iinc dX6_sinks_101 (by decide) rfl rfl ?_
                    refine G_goto (tgt := 65) dX6_sinks_104 (by decide) ?_
                    exact ih (k + 1) _ (i + 1) (by omega) (by omega) hM hF (by omega)
                  · skip
                    refine G_iload_n dX6_sinks_95 rfl rfl ?_
                    refine G_goto (tgt := 100) dX6_sinks_96 (by decide) ?_
                    refine G_top (y := if (k : Int) = 0 then c else if (k : Int) = 1 then d else 0) (by first | (rw [if_pos (by omega)]; done) | (rw [if_neg (by omega), if_pos (by omega)]; done) | (rw [if_neg (by omega), if_neg (by omega)]; done)) ?_
                    refine G_iast dX6_sinks_100 (by assumption) (by omega) (by omega) (by decide) (show fup (skN s (0 + 167 + 6 * v 11 0) c d k) (0 + 167 + 6 * v 11 0 + i) _ = (skN s (0 + 167 + 6 * v 11 0) c d (k + 1)) from by rw [hik]; rfl) ?_
                    have hM := hM.set1 (skN s (0 + 167 + 6 * v 11 0) c d (k + 1))
                    obtain ⟨hM0, hM1, hM2, hM3, hM4⟩ := id hM
                    have hF := hF.tr (Fr.set (o := oI 1624 (skN s (0 + 167 + 6 * v 11 0) c d (k + 1))) (show m ≤ m + 1 by omega) (show m + 1 < m + 5 by omega))
                    refine G_iinc dX6_sinks_101 (by decide) rfl rfl ?_
                    refine G_goto (tgt := 65) dX6_sinks_104 (by decide) ?_
                    exact ih (k + 1) _ (i + 1) (by omega) (by omega) hM hF (by omega)
                · skip
                  refine G_iload_n dX6_sinks_85 rfl rfl ?_
                  refine G_goto (tgt := 100) dX6_sinks_86 (by decide) ?_
                  refine G_top (y := if (k : Int) = 0 then c else if (k : Int) = 1 then d else 0) (by first | (rw [if_pos (by omega)]; done) | (rw [if_neg (by omega), if_pos (by omega)]; done) | (rw [if_neg (by omega), if_neg (by omega)]; done)) ?_
                  refine G_iast dX6_sinks_100 (by assumption) (by omega) (by omega) (by decide) (show fup (skN s (0 + 167 + 6 * v 11 0) c d k) (0 + 167 + 6 * v 11 0 + i) _ = (skN s (0 + 167 + 6 * v 11 0) c d (k + 1)) from by rw [hik]; rfl) ?_
                  have hM := hM.set1 (skN s (0 + 167 + 6 * v 11 0) c d (k + 1))
                  obtain ⟨hM0, hM1, hM2, hM3, hM4⟩ := id hM
                  have hF := hF.tr (Fr.set (o := oI 1624 (skN s (0 + 167 + 6 * v 11 0) c d (k + 1))) (show m ≤ m + 1 by omega) (show m + 1 < m + 5 by omega))
                  refine G_iinc dX6_sinks_101 (by decide) rfl rfl ?_
                  refine G_goto (tgt := 65) dX6_sinks_104 (by decide) ?_
                  exact ih (k + 1) _ (i + 1) (by omega) (by omega) hM hF (by omega)
          refine G_iconst dX6_sinks_62 ?_
          refine G_istore dX6_sinks_63 (by decide) rfl ?_
          exact L 8 0 _ 0 rfl (by omega) hM Fr.rf (by omega)
        · skip
          refine G_bipush dX6_sinks_47 rfl ?_
          refine G_ireturn dX6_sinks_49 rfl ?_
          have e : sinkR (v 4) (v 11 0) c d = -3 := by unfold sinkR; rw [if_neg (by omega), if_neg (by omega), if_neg (by omega), if_pos (by omega)]
          have e2 : sinkV v c d = v := by unfold sinkV; rw [if_neg (by omega)]
          rw [e, e2]
          exact ⟨rfl, Fr.rf, s, mk, co, fi, ca, hM, frR.rf, hR⟩
      · skip
        refine G_bipush dX6_sinks_32 rfl ?_
        refine G_ireturn dX6_sinks_34 rfl ?_
        have e : sinkR (v 4) (v 11 0) c d = -4 := by unfold sinkR; rw [if_neg (by omega), if_neg (by omega), if_pos (by omega)]
        have e2 : sinkV v c d = v := by unfold sinkV; rw [if_neg (by omega)]
        rw [e, e2]
        exact ⟨rfl, Fr.rf, s, mk, co, fi, ca, hM, frR.rf, hR⟩
    · skip
      refine G_bipush dX6_sinks_19 rfl ?_
      refine G_ireturn dX6_sinks_21 rfl ?_
      have e : sinkR (v 4) (v 11 0) c d = -2 := by unfold sinkR; rw [if_neg (by omega), if_pos (by omega)]
      have e2 : sinkV v c d = v := by unfold sinkV; rw [if_neg (by omega)]
      rw [e, e2]
      exact ⟨rfl, Fr.rf, s, mk, co, fi, ca, hM, frR.rf, hR⟩
  · skip
    refine G_iconst dX6_sinks_7 ?_
    refine G_ireturn dX6_sinks_8 rfl ?_
    have e : sinkR (v 4) (v 11 0) c d = -1 := by unfold sinkR; rw [if_pos (by omega)]
    have e2 : sinkV v c d = v := by unfold sinkV; rw [if_neg (by omega)]
    rw [e, e2]
    exact ⟨rfl, Fr.rf, s, mk, co, fi, ca, hM, frR.rf, hR⟩
set_option maxRecDepth 100000 in
set_option maxHeartbeats 4000000 in
theorem c_X6_fills (h : List PO) (m : Nat) (s tx mk co : Int → Int) (st kp ty sn se fi ca sp le on tw : Int) (c : Int) (v : SV) (hM : moAt h m s tx mk co st kp ty sn se fi ca sp le on tw) (hR : rwR s 0 v) (hV : OK v) (hc : inR c) : PM 2 yX6_fills cX6_fills 4 (some .int) h [r_ m, i_ c] (fun r0 h2 => r0 = some (i_ (fillR (v 6) (v 11 0) c)) ∧ Fr h h2 m (m + 5) ∧ ∃ (s2 mk2 co2 : Int → Int) (fi2 ca2 : Int), moAt h2 m s2 tx mk2 co2 st kp ty sn se fi2 ca2 sp le on tw ∧ frR s s2 0 ∧ rwR s2 0 (fillV v c)) := by
  refine PM_of_G RX6 [some (r_ m), some (i_ c), none, none] rfl (by decide +kernel) (Nat.le_of_ble_eq_true rfl) rfl ?_
  obtain ⟨hM0, hM1, hM2, hM3, hM4⟩ := id hM
  obtain ⟨⟨hrd, hrs, hrh⟩, ⟨hs0, hs1, hs2⟩, ⟨hn, hf, hfa⟩, ⟨hc0, hrr, hs, hz⟩, h49, hdi⟩ := id hV
  obtain ⟨hRc, ⟨hR0, hR1, hR2, hR3, hR4, hR5, hR6⟩, hRw⟩ := rwF.zero hR
  have hF : Fr h h m (m + 5) := Fr.rf
  have hc1 := hc.1
  have hc2 := hc.2
  refine G_aload_n dX6_fills_0 rfl rfl ?_
  refine G_iload_n dX6_fills_1 rfl rfl ?_
  refine G_callV (ci := 6) (as := [_]) (c_X6_isWell _ m s tx mk co st kp ty sn se fi ca sp le on tw (v 11 0) c hM hR6 hn hc) dX6_fills_2 ml_X6_84 cv_X6_isWell (by assumption) rfl rfl (Nat.le_of_ble_eq_true rfl) (Nat.le_of_ble_eq_true rfl) rfl (fun r h2 hp => ?_)
  obtain ⟨yw, rfl, rfl, hyw⟩ := hp
  refine G_if_ne (tgt := 10) dX6_fills_5 (by decide) (inR_of (by omega) (by omega)) (fun hc5 => ?_) (fun hc5 => ?_)
  · skip
    refine G_aload_n dX6_fills_10 rfl rfl ?_
    refine G_getf fl_X6_7 dX6_fills_11 (by assumption) rfl ?_
    refine G_iconst dX6_fills_14 ?_
    refine G_iload_n dX6_fills_15 rfl rfl ?_
    refine G_callS (as := [_, _]) (c_X6_wellAt _ 0 c) dX6_fills_16 ml_X6_46 cs_X6_wellAt rfl (Nat.le_of_ble_eq_true rfl) (Nat.le_of_ble_eq_true rfl) rfl (fun r h2 hp => ?_)
    obtain ⟨rfl, rfl⟩ := hp
    refine G_iconst dX6_fills_19 ?_
    refine G_iadd dX6_fills_20 ?_
    refine G_iald dX6_fills_21 (by assumption) (by omega) (by omega) (by decide) ?_
    refine G_top ((hRw (c) (by omega) (by omega)).2.2.1) ?_
    refine G_istore_n dX6_fills_22 rfl (by decide) rfl ?_
    refine G_aload_n dX6_fills_23 rfl rfl ?_
    refine G_getf fl_X6_7 dX6_fills_24 (by assumption) rfl ?_
    refine G_bipush dX6_fills_27 rfl ?_
    refine G_dup2 dX6_fills_29 ?_
    refine G_iald dX6_fills_30 (by assumption) (by omega) (by omega) (by decide) ?_
    refine G_top (hR6) ?_
    refine G_iconst dX6_fills_31 ?_
    refine G_isub dX6_fills_32 ?_
    refine G_iast dX6_fills_33 (by assumption) (by omega) (by omega) (by decide) rfl ?_
    have hM := hM.set1 (fup s 6 (v 11 0 - 1))
    obtain ⟨hM0, hM1, hM2, hM3, hM4⟩ := id hM
    have hF := hF.tr (Fr.set (o := oI 1624 (fup s 6 (v 11 0 - 1))) (show m ≤ m + 1 by omega) (show m + 1 < m + 5 by omega))
    refine G_iconst dX6_fills_34 ?_
    refine G_iload_n dX6_fills_35 rfl rfl ?_
    refine G_callS (as := [_, _]) (c_X6_wellAt _ 0 c) dX6_fills_36 ml_X6_46 cs_X6_wellAt rfl (Nat.le_of_ble_eq_true rfl) (Nat.le_of_ble_eq_true rfl) rfl (fun r h2 hp => ?_)
    obtain ⟨rfl, rfl⟩ := hp
    refine G_istore_n dX6_fills_39 rfl (by decide) rfl ?_
    have L : ∀ (fu : Nat) (i : Int) (hh : List PO), 0 + 167 + 6 * c ≤ i → i ≤ 0 + 167 + 6 * (v 11 0 - 1) → moAt hh m (gpN (fup s 6 (v 11 0 - 1)) (0 + 167 + 6 * c) i) tx mk co st kp ty sn se fi ca sp le on tw → Fr h hh m (m + 5) → 0 + 167 + 6 * (v 11 0 - 1) - i < fu → G 2 cX6_fills RX6 4 (some .int) hh 40 [some (r_ m), some (i_ c), some (i_ (v 6 c)), some (i_ i)] [] (fun r0 h2 => r0 = some (i_ (fillR (v 6) (v 11 0) c)) ∧ Fr h h2 m (m + 5) ∧ ∃ (s2 mk2 co2 : Int → Int) (fi2 ca2 : Int), moAt h2 m s2 tx mk2 co2 st kp ty sn se fi2 ca2 sp le on tw ∧ frR s s2 0 ∧ rwR s2 0 (fillV v c)) := by
      intro fu
      induction fu with
      | zero => intro i hh a1 a2 hM hF hmeas; exfalso; omega
      | succ fu ih =>
        intro i hh a1 a2 hM hF hmeas
        obtain ⟨hM0, hM1, hM2, hM3, hM4⟩ := id hM
        refine G_iload_n dX6_fills_40 rfl rfl ?_
        refine G_iconst dX6_fills_41 ?_
        refine G_aload_n dX6_fills_42 rfl rfl ?_
        refine G_getf fl_X6_7 dX6_fills_43 (by assumption) rfl ?_
        refine G_bipush dX6_fills_46 rfl ?_
        refine G_iald dX6_fills_48 (by assumption) (by omega) (by omega) (by decide) ?_
        refine G_top ((show gpN (fup s 6 (v 11 0 - 1)) (0 + 167 + 6 * c) i 6 = v 11 0 - 1 from by unfold gpN; rw [if_neg (by omega)]; exact fup_eq)) ?_
        refine G_callS (as := [_, _]) (c_X6_wellAt _ 0 (v 11 0 - 1)) dX6_fills_49 ml_X6_46 cs_X6_wellAt rfl (Nat.le_of_ble_eq_true rfl) (Nat.le_of_ble_eq_true rfl) rfl (fun r h2 hp => ?_)
        obtain ⟨rfl, rfl⟩ := hp
        refine G_icmp_ge (tgt := 76) dX6_fills_52 (by decide) (inR_of (by omega) (by omega)) (inR_of (by omega) (by omega)) (fun hc52 => ?_) (fun hc52 => ?_)
        · skip
          have e : i = 0 + 167 + 6 * (v 11 0 - 1) := by omega
          subst e
          refine G_iload_n dX6_fills_76 rfl rfl ?_
          refine G_ireturn dX6_fills_77 rfl ?_
          have e : fillR (v 6) (v 11 0) c = v 6 c := by unfold fillR; rw [if_pos (by omega)]
          have e2 : fillV v c = fillW v c := by unfold fillV; rw [if_pos (by omega)]
          rw [e, e2]
          exact ⟨rfl, hF, _, mk, co, fi, ca, hM, fill_fr hn.2 (by omega) (by omega), fill_rw hR hn.2 (by omega) (by omega)⟩
        · skip
          refine G_aload_n dX6_fills_55 rfl rfl ?_
          refine G_getf fl_X6_7 dX6_fills_56 (by assumption) rfl ?_
          refine G_iload_n dX6_fills_59 rfl rfl ?_
          refine G_aload_n dX6_fills_60 rfl rfl ?_
          refine G_getf fl_X6_7 dX6_fills_61 (by assumption) rfl ?_
          refine G_iload_n dX6_fills_64 rfl rfl ?_
          refine G_bipush dX6_fills_65 rfl ?_
          refine G_iadd dX6_fills_67 ?_
          refine G_iald dX6_fills_68 (by assumption) (by omega) (by omega) (by decide) ?_
          refine G_iast dX6_fills_69 (by assumption) (by omega) (by omega) (by decide) (gpN_s a1) ?_
          have hM := hM.set1 (gpN (fup s 6 (v 11 0 - 1)) (0 + 167 + 6 * c) (i + 1))
          obtain ⟨hM0, hM1, hM2, hM3, hM4⟩ := id hM
          have hF := hF.tr (Fr.set (o := oI 1624 (gpN (fup s 6 (v 11 0 - 1)) (0 + 167 + 6 * c) (i + 1))) (show m ≤ m + 1 by omega) (show m + 1 < m + 5 by omega))
          refine G_iinc dX6_fills_70 (by decide) rfl rfl ?_
          refine G_goto (tgt := 40) dX6_fills_73 (by decide) ?_
          exact ih (i + 1) _ (by omega) (by omega) hM hF (by omega)
    exact L 40 (0 + 167 + 6 * c) _ (by omega) (by omega) (by rw [gpN_0]; exact hM) hF (by omega)
  · skip
    refine G_iconst dX6_fills_8 ?_
    refine G_ireturn dX6_fills_9 rfl ?_
    have e : fillR (v 6) (v 11 0) c = -1 := by unfold fillR; rw [if_neg (by omega)]
    have e2 : fillV v c = v := by unfold fillV; rw [if_neg (by omega)]
    rw [e, e2]
    exact ⟨rfl, Fr.rf, s, mk, co, fi, ca, hM, frR.rf, hR⟩
set_option maxRecDepth 100000 in
set_option maxHeartbeats 4000000 in
theorem c_X6_does (h : List PO) (m : Nat) (s tx mk co : Int → Int) (st kp ty sn se fi ca sp le on tw : Int) (v : SV) (t : TH) (hM : moAt h m s tx mk co st kp ty sn se fi ca sp le on tw) (hR : rwR s 0 v) (hVT : OKt v) (ht : (t.2.2.1 = 0 ∧ (-30 ≤ t.2.2.2.1 ∧ t.2.2.2.1 ≤ 30) ∧ (1 ≤ t.2.2.2.2 ∧ t.2.2.2.2 ≤ 99) ∨ t.2.2.1 = 1 ∧ (0 ≤ t.2.2.2.1 ∧ t.2.2.2.1 ≤ 99) ∧ t.2.2.2.2 = 0 ∨ t.2.2.1 = 2 ∧ (0 ≤ t.2.2.2.1 ∧ t.2.2.2.1 ≤ 39) ∧ (0 ≤ t.2.2.2.2 ∧ t.2.2.2.2 ≤ 60))) (e1 : on = t.2.2.2.1) (e2 : t.2.2.1 ≠ 1 → tw = t.2.2.2.2) (e3 : le = 116 ∧ t.2.2.1 = 0 ∨ le = 114 ∧ t.2.2.1 = 1 ∨ le = 115 ∧ t.2.2.1 = 2) : PM 4 yX6_does cX6_does 1 (some .int) h [r_ m] (fun r0 h2 => r0 = some (i_ (doR v t)) ∧ Fr h h2 m (m + 5) ∧ ∃ (s2 mk2 co2 : Int → Int) (fi2 ca2 : Int), moAt h2 m s2 tx mk2 co2 st kp ty sn se fi2 ca2 sp le on tw ∧ frR s s2 0 ∧ rwR s2 0 (doV v t)) := by
  refine PM_of_G RX6 [some (r_ m)] rfl (by decide +kernel) (Nat.le_of_ble_eq_true rfl) rfl ?_
  obtain ⟨hM0, hM1, hM2, hM3, hM4⟩ := id hM
  obtain ⟨hV, hT⟩ := id hVT
  refine G_aload_n dX6_does_0 rfl rfl ?_
  refine G_getf fl_X6_149 dX6_does_1 (by assumption) rfl ?_
  refine G_bipush dX6_does_4 rfl ?_
  refine G_icmp_ne (tgt := 24) dX6_does_6 (by decide) (inR_of (by omega) (by omega)) (inR_of (by omega) (by omega)) (fun hc6 => ?_) (fun hc6 => ?_)
  · skip
    refine G_aload_n dX6_does_24 rfl rfl ?_
    refine G_getf fl_X6_149 dX6_does_25 (by assumption) rfl ?_
    refine G_bipush dX6_does_28 rfl ?_
    refine G_icmp_ne (tgt := 44) dX6_does_30 (by decide) (inR_of (by omega) (by omega)) (inR_of (by omega) (by omega)) (fun hc30 => ?_) (fun hc30 => ?_)
    · skip
      have hk := e2 (by omega)
      refine G_aload_n dX6_does_44 rfl rfl ?_
      refine G_aload_n dX6_does_45 rfl rfl ?_
      refine G_getf fl_X6_143 dX6_does_46 (by assumption) rfl ?_
      refine G_aload_n dX6_does_49 rfl rfl ?_
      refine G_getf fl_X6_146 dX6_does_50 (by assumption) rfl ?_
      refine G_callV (ci := 6) (as := [_, _]) (c_X6_builds _ m s tx mk co st kp ty sn se fi ca sp le on tw on tw v hM hR hV (inR_of (by omega) (by omega)) (inR_of (by omega) (by omega))) dX6_does_53 ml_X6_106 cv_X6_builds (by assumption) rfl rfl (Nat.le_of_ble_eq_true rfl) (Nat.le_of_ble_eq_true rfl) rfl (fun r h2 hp => ?_)
      obtain ⟨rfl, hF, s2, mk2, co2, fi2, ca2, hM2, hK, hR2⟩ := hp
      refine G_ireturn dX6_does_56 rfl ?_
      first
        | (have e8 : doR v t = tidesR v on tw := by unfold doR; rw [if_pos (by omega), e1, hk]
           have e9 : doV v t = tidesV v on tw := by unfold doV; rw [if_pos (by omega), e1, hk]
           rw [e8, e9]
           exact ⟨rfl, hF, s2, mk2, co2, fi2, ca2, hM2, hK, hR2⟩)
        | (have e8 : doR v t = flowR v on := by unfold doR; rw [if_neg (by omega), if_pos (by omega), e1]
           have e9 : doV v t = flowV v on := by unfold doV; rw [if_neg (by omega), if_pos (by omega), e1]
           rw [e8, e9]
           exact ⟨rfl, hF, s2, mk2, co2, fi2, ca2, hM2, hK, hR2⟩)
        | (have e8 : doR v t = buildR v on tw := by unfold doR; rw [if_neg (by omega), if_neg (by omega), e1, hk]
           have e9 : doV v t = buildV v on tw := by unfold doV; rw [if_neg (by omega), if_neg (by omega), e1, hk]
           rw [e8, e9]
           exact ⟨rfl, hF, s2, mk2, co2, fi2, ca2, hM2, hK, hR2⟩)
    · skip
      refine G_aload_n dX6_does_33 rfl rfl ?_
      refine G_aload_n dX6_does_34 rfl rfl ?_
      refine G_getf fl_X6_143 dX6_does_35 (by assumption) rfl ?_
      refine G_callV (ci := 6) (as := [_]) (c_X6_flows _ m s tx mk co st kp ty sn se fi ca sp le on tw on v hM hR hV (inR_of (by omega) (by omega))) dX6_does_38 ml_X6_109 cv_X6_flows (by assumption) rfl rfl (Nat.le_of_ble_eq_true rfl) (Nat.le_of_ble_eq_true rfl) rfl (fun r h2 hp => ?_)
      obtain ⟨rfl, hF, s2, mk2, co2, fi2, ca2, hM2, hK, hR2⟩ := hp
      refine G_goto (tgt := 56) dX6_does_41 (by decide) ?_
      refine G_ireturn dX6_does_56 rfl ?_
      first
        | (have e8 : doR v t = tidesR v on tw := by unfold doR; rw [if_pos (by omega), e1, hk]
           have e9 : doV v t = tidesV v on tw := by unfold doV; rw [if_pos (by omega), e1, hk]
           rw [e8, e9]
           exact ⟨rfl, hF, s2, mk2, co2, fi2, ca2, hM2, hK, hR2⟩)
        | (have e8 : doR v t = flowR v on := by unfold doR; rw [if_neg (by omega), if_pos (by omega), e1]
           have e9 : doV v t = flowV v on := by unfold doV; rw [if_neg (by omega), if_pos (by omega), e1]
           rw [e8, e9]
           exact ⟨rfl, hF, s2, mk2, co2, fi2, ca2, hM2, hK, hR2⟩)
        | (have e8 : doR v t = buildR v on tw := by unfold doR; rw [if_neg (by omega), if_neg (by omega), e1, hk]
           have e9 : doV v t = buildV v on tw := by unfold doV; rw [if_neg (by omega), if_neg (by omega), e1, hk]
           rw [e8, e9]
           exact ⟨rfl, hF, s2, mk2, co2, fi2, ca2, hM2, hK, hR2⟩)
  · skip
    have hk := e2 (by omega)
    refine G_aload_n dX6_does_9 rfl rfl ?_
    refine G_aload_n dX6_does_10 rfl rfl ?_
    refine G_getf fl_X6_143 dX6_does_11 (by assumption) rfl ?_
    refine G_aload_n dX6_does_14 rfl rfl ?_
    refine G_getf fl_X6_146 dX6_does_15 (by assumption) rfl ?_
    refine G_callV (ci := 6) (as := [_, _]) (c_X6_tides _ m s tx mk co st kp ty sn se fi ca sp le on tw on tw v hM hR hV hT (inR_of (by omega) (by omega)) (inR_of (by omega) (by omega))) dX6_does_18 ml_X6_124 cv_X6_tides (by assumption) rfl rfl (Nat.le_of_ble_eq_true rfl) (Nat.le_of_ble_eq_true rfl) rfl (fun r h2 hp => ?_)
    obtain ⟨rfl, hF, s2, mk2, co2, fi2, ca2, hM2, hK, hR2⟩ := hp
    refine G_goto (tgt := 56) dX6_does_21 (by decide) ?_
    refine G_ireturn dX6_does_56 rfl ?_
    first
      | (have e8 : doR v t = tidesR v on tw := by unfold doR; rw [if_pos (by omega), e1, hk]
         have e9 : doV v t = tidesV v on tw := by unfold doV; rw [if_pos (by omega), e1, hk]
         rw [e8, e9]
         exact ⟨rfl, hF, s2, mk2, co2, fi2, ca2, hM2, hK, hR2⟩)
      | (have e8 : doR v t = flowR v on := by unfold doR; rw [if_neg (by omega), if_pos (by omega), e1]
         have e9 : doV v t = flowV v on := by unfold doV; rw [if_neg (by omega), if_pos (by omega), e1]
         rw [e8, e9]
         exact ⟨rfl, hF, s2, mk2, co2, fi2, ca2, hM2, hK, hR2⟩)
      | (have e8 : doR v t = buildR v on tw := by unfold doR; rw [if_neg (by omega), if_neg (by omega), e1, hk]
         have e9 : doV v t = buildV v on tw := by unfold doV; rw [if_neg (by omega), if_neg (by omega), e1, hk]
         rw [e8, e9]
         exact ⟨rfl, hF, s2, mk2, co2, fi2, ca2, hM2, hK, hR2⟩)
def rcA (s : Int → Int) (st R : Int) : Int → Int := if 0 ≤ R then recS s st 6 else s
set_option maxRecDepth 100000 in
set_option maxHeartbeats 4000000 in
theorem c_X6_done (h : List PO) (m : Nat) (s tx mk co : Int → Int) (st kp ty sn se fi ca sp le on tw : Int) (R : Int) (hM : moAt h m s tx mk co st kp ty sn se fi ca sp le on tw) (hst : 0 ≤ st ∧ st ≤ 4) (hR : inR R) : PM 2 yX6_done cX6_done 2 (some .int) h [r_ m, i_ R] (fun r0 h2 => r0 = some (i_ R) ∧ Fr h h2 m (m + 5) ∧ moAt h2 m (rcA s st R) tx mk co (szA st R) kp ty sn se fi ca sp le on tw) := by
  refine PM_of_G RX6 [some (r_ m), some (i_ R)] rfl (by decide +kernel) (Nat.le_of_ble_eq_true rfl) rfl ?_
  obtain ⟨hM0, hM1, hM2, hM3, hM4⟩ := id hM
  have hR1 := hR.1
  have hR2 := hR.2
  refine G_iload_n dX6_done_0 rfl rfl ?_
  refine G_if_lt (tgt := 10) dX6_done_1 (by decide) (inR_of (by omega) (by omega)) (fun hc1 => ?_) (fun hc1 => ?_)
  · skip
    refine G_iload_n dX6_done_10 rfl rfl ?_
    refine G_ireturn dX6_done_11 rfl ?_
    first
      | (have e1 : rcA s st R = s := by unfold rcA; rw [if_neg (by omega)]
         have e2 : szA st R = st := by unfold szA; rw [if_neg (by omega)]
         rw [e1, e2]
         exact ⟨rfl, Fr.rf, hM⟩)
      | (have e1 : rcA s st R = recS s st 6 := by unfold rcA; rw [if_pos (by omega)]
         have e2 : szA st R = addZ st := by unfold szA; rw [if_pos (by omega)]
         rw [e1, e2]
         exact ⟨rfl, hF, hM⟩)
  · skip
    refine G_aload_n dX6_done_4 rfl rfl ?_
    refine G_bipush dX6_done_5 rfl ?_
    refine G_callV (ci := 6) (as := [_]) (c_X6_records _ m s tx mk co st kp ty sn se fi ca sp le on tw 6 hM hst (by omega) (Or.inr rfl)) dX6_done_7 ml_X6_97 cv_X6_records (by assumption) rfl rfl (Nat.le_of_ble_eq_true rfl) (Nat.le_of_ble_eq_true rfl) rfl (fun r h2 hp => ?_)
    obtain ⟨rfl, hF, hM⟩ := hp
    refine G_iload_n dX6_done_10 rfl rfl ?_
    refine G_ireturn dX6_done_11 rfl ?_
    first
      | (have e1 : rcA s st R = s := by unfold rcA; rw [if_neg (by omega)]
         have e2 : szA st R = st := by unfold szA; rw [if_neg (by omega)]
         rw [e1, e2]
         exact ⟨rfl, Fr.rf, hM⟩)
      | (have e1 : rcA s st R = recS s st 6 := by unfold rcA; rw [if_pos (by omega)]
         have e2 : szA st R = addZ st := by unfold szA; rw [if_pos (by omega)]
         rw [e1, e2]
         exact ⟨rfl, hF, hM⟩)
