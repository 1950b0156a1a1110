set_option maxRecDepth 100000 in
set_option maxHeartbeats 4000000 in
theorem c_X5_recorded (h : List PO) (x : Nat) (v u sw : SV) (ks : Int) (ρ : Int → Nat) (hv : Int → SV) (sz : Int) (tx : Int → Int) (len : Int) (ki fi s2 : Int → Int) (th p hst n e : Int) (R : Int) (hX : clF h x v u sw ks ρ hv sz tx len ki fi s2 th p hst n e) (hsz : 0 ≤ sz ∧ sz ≤ 4) (hR : inR R) : PM 5 yX5_recorded cX5_recorded 2 (some .int) h [r_ x, i_ R] (fun r0 h2 => r0 = some (i_ R) ∧ Fr h h2 x (x + 106) ∧ ∃ ρ2, clF h2 x v u sw ks ρ2 (hvA hv sz u R) (szA sz R) tx len ki fi s2 th p hst n e) := by
  refine PM_of_G RX5 [some (r_ x), some (i_ R)] rfl (by decide +kernel) (Nat.le_of_ble_eq_true rfl) rfl ?_
  have hR1 := hR.1
  have hR2 := hR.2
  have hF : Fr h h x (x + 106) := Fr.rf
  have hX9 : R < 0 → clF h x v u sw ks ρ (hvA hv sz u R) (szA sz R) tx len ki fi s2 th p hst n e := fun q => by
    unfold hvA szA
    rw [if_neg (by omega), if_neg (by omega)]
    exact hX
  obtain ⟨hX0, hXn, hXu, hXw, hXh, hXs⟩ := id hX
  obtain ⟨hN0, hNb, hNw, hNs⟩ := id hXn
  obtain ⟨hNb0, hNb1, hNb2, hNb3, hNb4⟩ := id hNb
  obtain ⟨hNw0, hNw1, hNw2, hNw3, hNw4, hNw5, hNw6⟩ := id hNw
  have hU0 := hXu.1
  have hUw0 := hXu.2.2.1.1
  have hW0 := hXw.1
  have hH0 := hXh.1
  obtain ⟨hS0, hS1, hS2, hS3, hS4⟩ := id hXs
  refine G_iload_n dX5_recorded_0 rfl rfl ?_
  refine G_if_lt (tgt := 15) dX5_recorded_1 (by decide) (inR_of (by omega) (by omega)) (fun hc1 => ?_) (fun hc1 => ?_)
  · skip
    refine G_iload_n dX5_recorded_15 rfl rfl ?_
    refine G_ireturn dX5_recorded_16 rfl ?_
    first
      | exact ⟨rfl, hF, ρ, hX9 (by omega)⟩
      | (refine ⟨rfl, hF, ρ2, ?_⟩
         unfold hvA szA
         rw [if_pos (by omega), if_pos (by omega)]
         exact hX)
  · skip
    refine G_aload_n dX5_recorded_4 rfl rfl ?_
    refine G_getf fl_X5_25 dX5_recorded_5 (by assumption) rfl ?_
    refine G_aload_n dX5_recorded_8 rfl rfl ?_
    refine G_getf fl_X5_16 dX5_recorded_9 (by assumption) rfl ?_
    refine G_callV (ci := 1) (as := [_]) (c_X1_add h (x + 43) ρ hv sz (x + 15) u hXh hsz hXu (by omega)) dX5_recorded_12 ml_X5_228 cv_X1_add (by assumption) rfl rfl (Nat.le_of_ble_eq_true rfl) (Nat.le_of_ble_eq_true rfl) rfl (fun r h2 hp => ?_)
    obtain ⟨rfl, hF1, ρ2, hh⟩ := hp
    have hX := hX.hist hF1 hh
    have hF := hF.tr (hF1.wide (show x ≤ x + 43 by omega) (show x + 43 + 58 ≤ x + 106 by omega))
    refine G_iload_n dX5_recorded_15 rfl rfl ?_
    refine G_ireturn dX5_recorded_16 rfl ?_
    first
      | exact ⟨rfl, hF, ρ, hX9 (by omega)⟩
      | (refine ⟨rfl, hF, ρ2, ?_⟩
         unfold hvA szA
         rw [if_pos (by omega), if_pos (by omega)]
         exact hX)
set_option maxRecDepth 100000 in
set_option maxHeartbeats 4000000 in
theorem c_X5_dig (h : List PO) (x : Nat) (v : SV) (hv : Int → SV) (sz ks : Int) (sw : SV) (tx : Int → Int) (len sn se : Int) (c d : Int) (hA : clA h x v hv sz ks sw tx len sn se) (hI : INV v hv sz ks sw tx len) (hc : inR c) (hd : inR d) : PM 7 yX5_dig cX5_dig 3 (some .int) h [r_ x, i_ c, i_ d] (fun r0 h2 => r0 = some (i_ (digR v c d)) ∧ Fr h h2 x (x + 106) ∧ clA h2 x (digV v c d) (hvA hv sz v (digR v c d)) (szA sz (digR v c d)) (ks) (sw) (tx) (len) (sn) (se)) := by
  refine PM_of_G RX5 [some (r_ x), some (i_ c), some (i_ d)] rfl (by decide +kernel) (Nat.le_of_ble_eq_true rfl) rfl ?_
  obtain ⟨u, ρ, ki, fi, s2, th, p, hst, n, e, hX, hq⟩ := id hA
  obtain ⟨⟨hV, hT⟩, hsz, hhv, hks, hx, hl⟩ := id hI
  obtain ⟨⟨hrd, hrs, hrh⟩, ⟨hs0, hs1, hs2⟩, ⟨hn, hf, hfa⟩, ⟨hc0, hr, hs, hz⟩, h49, hdi⟩ := id hV
  have hF : Fr h h x (x + 106) := Fr.rf
  obtain ⟨hX0, hXn, hXu, hXw, hXh, hXs⟩ := id hX
  obtain ⟨hN0, hNb, hNw, hNs⟩ := id hXn
  obtain ⟨hNb0, hNb1, hNb2, hNb3, hNb4⟩ := id hNb
  obtain ⟨hNw0, hNw1, hNw2, hNw3, hNw4, hNw5, hNw6⟩ := id hNw
  have hU0 := hXu.1
  have hUw0 := hXu.2.2.1.1
  have hW0 := hXw.1
  have hH0 := hXh.1
  obtain ⟨hS0, hS1, hS2, hS3, hS4⟩ := id hXs
  refine G_aload_n dX5_dig_0 rfl rfl ?_
  refine G_getf fl_X5_16 dX5_dig_1 (by assumption) rfl ?_
  refine G_aload_n dX5_dig_4 rfl rfl ?_
  refine G_getf fl_X5_12 dX5_dig_5 (by assumption) rfl ?_
  refine G_callV (ci := 3) (as := [_]) (c_X3_copyFrom _ (x + 15) (x + 1) _ _ hXu hXn (by omega)) dX5_dig_8 ml_X5_36 cv_X3_copyFrom (by assumption) rfl rfl (Nat.le_of_ble_eq_true rfl) (Nat.le_of_ble_eq_true rfl) rfl (fun r h2 hp => ?_)
  obtain ⟨rfl, hF1, hb⟩ := hp
  have hX := hX.spare hF1 hb
  have hF := hF.tr (hF1.wide (show x ≤ x + 15 by omega) (show x + 15 + 14 ≤ x + 106 by omega))
  obtain ⟨hX0, hXn, hXu, hXw, hXh, hXs⟩ := id hX
  obtain ⟨hN0, hNb, hNw, hNs⟩ := id hXn
  obtain ⟨hNb0, hNb1, hNb2, hNb3, hNb4⟩ := id hNb
  obtain ⟨hNw0, hNw1, hNw2, hNw3, hNw4, hNw5, hNw6⟩ := id hNw
  have hU0 := hXu.1
  have hUw0 := hXu.2.2.1.1
  have hW0 := hXw.1
  have hH0 := hXh.1
  obtain ⟨hS0, hS1, hS2, hS3, hS4⟩ := id hXs
  refine G_aload_n dX5_dig_11 rfl rfl ?_
  refine G_aload_n dX5_dig_12 rfl rfl ?_
  refine G_getf fl_X5_12 dX5_dig_13 (by assumption) rfl ?_
  refine G_getf fl_X5_40 dX5_dig_16 (by assumption) rfl ?_
  refine G_iload_n dX5_dig_19 rfl rfl ?_
  refine G_iload_n dX5_dig_20 rfl rfl ?_
  refine G_callV (ci := 0) (as := [_, _]) (c_X0_deepen _ (x + 1 + 1) v c d hNb hrd hrs hrh hc hd) dX5_dig_21 ml_X5_44 cv_X0_deepen (by assumption) rfl rfl (Nat.le_of_ble_eq_true rfl) (Nat.le_of_ble_eq_true rfl) rfl (fun r h2 hp => ?_)
  obtain ⟨rfl, rfl⟩ := hp
  obtain ⟨hF2, hb2⟩ := st_dig (c := c) (d := d) hXn
  have hX := hX.now hF2 hb2
  have hF := hF.tr (hF2.wide (show x ≤ x + 1 by omega) (show x + 1 + 14 ≤ x + 106 by omega))
  have hX0 := hX.1
  refine G_callV (ci := 5) (as := [_]) (c_X5_recorded _ x _ _ _ _ _ _ _ _ _ _ _ _ _ _ _ _ _ _ hX hsz (inR_of (by have := digR_rng (c := c) (d := d) hV; omega) (by have := digR_rng (c := c) (d := d) hV; omega))) dX5_dig_24 ml_X5_50 cv_X5_recorded (by assumption) rfl rfl (Nat.le_of_ble_eq_true rfl) (Nat.le_of_ble_eq_true rfl) rfl (fun r h2 hp => ?_)
  obtain ⟨rfl, hF3, ρ2, hX⟩ := hp
  have hF := hF.tr hF3
  refine G_ireturn dX5_dig_27 rfl ?_
  exact ⟨rfl, hF, _, _, _, _, _, _, _, _, _, _, hX, hq⟩
set_option maxRecDepth 100000 in
set_option maxHeartbeats 4000000 in
theorem c_X5_build (h : List PO) (x : Nat) (v : SV) (hv : Int → SV) (sz ks : Int) (sw : SV) (tx : Int → Int) (len sn se : Int) (c d : Int) (hA : clA h x v hv sz ks sw tx len sn se) (hI : INV v hv sz ks sw tx len) (hc : inR c) (hd : inR d) : PM 7 yX5_build cX5_build 3 (some .int) h [r_ x, i_ c, i_ d] (fun r0 h2 => r0 = some (i_ (buildR v c d)) ∧ Fr h h2 x (x + 106) ∧ clA h2 x (buildV v c d) (hvA hv sz v (buildR v c d)) (szA sz (buildR v c d)) (ks) (sw) (tx) (len) (sn) (se)) := by
  refine PM_of_G RX5 [some (r_ x), some (i_ c), some (i_ d)] rfl (by decide +kernel) (Nat.le_of_ble_eq_true rfl) rfl ?_
  obtain ⟨u, ρ, ki, fi, s2, th, p, hst, n, e, hX, hq⟩ := id hA
  obtain ⟨⟨hV, hT⟩, hsz, hhv, hks, hx, hl⟩ := id hI
  obtain ⟨⟨hrd, hrs, hrh⟩, ⟨hs0, hs1, hs2⟩, ⟨hn, hf, hfa⟩, ⟨hc0, hr, hs, hz⟩, h49, hdi⟩ := id hV
  have hF : Fr h h x (x + 106) := Fr.rf
  obtain ⟨hX0, hXn, hXu, hXw, hXh, hXs⟩ := id hX
  obtain ⟨hN0, hNb, hNw, hNs⟩ := id hXn
  obtain ⟨hNb0, hNb1, hNb2, hNb3, hNb4⟩ := id hNb
  obtain ⟨hNw0, hNw1, hNw2, hNw3, hNw4, hNw5, hNw6⟩ := id hNw
  have hU0 := hXu.1
  have hUw0 := hXu.2.2.1.1
  have hW0 := hXw.1
  have hH0 := hXh.1
  obtain ⟨hS0, hS1, hS2, hS3, hS4⟩ := id hXs
  refine G_aload_n dX5_build_0 rfl rfl ?_
  refine G_getf fl_X5_16 dX5_build_1 (by assumption) rfl ?_
  refine G_aload_n dX5_build_4 rfl rfl ?_
  refine G_getf fl_X5_12 dX5_build_5 (by assumption) rfl ?_
  refine G_callV (ci := 3) (as := [_]) (c_X3_copyFrom _ (x + 15) (x + 1) _ _ hXu hXn (by omega)) dX5_build_8 ml_X5_36 cv_X3_copyFrom (by assumption) rfl rfl (Nat.le_of_ble_eq_true rfl) (Nat.le_of_ble_eq_true rfl) rfl (fun r h2 hp => ?_)
  obtain ⟨rfl, hF1, hb⟩ := hp
  have hX := hX.spare hF1 hb
  have hF := hF.tr (hF1.wide (show x ≤ x + 15 by omega) (show x + 15 + 14 ≤ x + 106 by omega))
  obtain ⟨hX0, hXn, hXu, hXw, hXh, hXs⟩ := id hX
  obtain ⟨hN0, hNb, hNw, hNs⟩ := id hXn
  obtain ⟨hNb0, hNb1, hNb2, hNb3, hNb4⟩ := id hNb
  obtain ⟨hNw0, hNw1, hNw2, hNw3, hNw4, hNw5, hNw6⟩ := id hNw
  have hU0 := hXu.1
  have hUw0 := hXu.2.2.1.1
  have hW0 := hXw.1
  have hH0 := hXh.1
  obtain ⟨hS0, hS1, hS2, hS3, hS4⟩ := id hXs
  refine G_aload_n dX5_build_11 rfl rfl ?_
  refine G_aload_n dX5_build_12 rfl rfl ?_
  refine G_getf fl_X5_12 dX5_build_13 (by assumption) rfl ?_
  refine G_getf fl_X5_40 dX5_build_16 (by assumption) rfl ?_
  refine G_iload_n dX5_build_19 rfl rfl ?_
  refine G_iload_n dX5_build_20 rfl rfl ?_
  refine G_callV (ci := 0) (as := [_, _]) (c_X0_raiseSill _ (x + 1 + 1) v c d hNb hrd hrs hrh hc hd) dX5_build_21 ml_X5_54 cv_X0_raiseSill (by assumption) rfl rfl (Nat.le_of_ble_eq_true rfl) (Nat.le_of_ble_eq_true rfl) rfl (fun r h2 hp => ?_)
  obtain ⟨rfl, rfl⟩ := hp
  obtain ⟨hF2, hb2⟩ := st_build (c := c) (d := d) hXn
  have hX := hX.now hF2 hb2
  have hF := hF.tr (hF2.wide (show x ≤ x + 1 by omega) (show x + 1 + 14 ≤ x + 106 by omega))
  have hX0 := hX.1
  refine G_callV (ci := 5) (as := [_]) (c_X5_recorded _ x _ _ _ _ _ _ _ _ _ _ _ _ _ _ _ _ _ _ hX hsz (inR_of (by have := buildR_rng (c := c) (d := d) hV; omega) (by have := buildR_rng (c := c) (d := d) hV; omega))) dX5_build_24 ml_X5_50 cv_X5_recorded (by assumption) rfl rfl (Nat.le_of_ble_eq_true rfl) (Nat.le_of_ble_eq_true rfl) rfl (fun r h2 hp => ?_)
  obtain ⟨rfl, hF3, ρ2, hX⟩ := hp
  have hF := hF.tr hF3
  refine G_ireturn dX5_build_27 rfl ?_
  exact ⟨rfl, hF, _, _, _, _, _, _, _, _, _, _, hX, hq⟩
set_option maxRecDepth 100000 in
set_option maxHeartbeats 4000000 in
theorem c_X5_flow (h : List PO) (x : Nat) (v : SV) (hv : Int → SV) (sz ks : Int) (sw : SV) (tx : Int → Int) (len sn se : Int) (c : Int) (hA : clA h x v hv sz ks sw tx len sn se) (hI : INV v hv sz ks sw tx len) (hc : inR c) : PM 7 yX5_flow cX5_flow 2 (some .int) h [r_ x, i_ c] (fun r0 h2 => r0 = some (i_ (flowR v c)) ∧ Fr h h2 x (x + 106) ∧ clA h2 x (flowV v c) (hvA hv sz v (flowR v c)) (szA sz (flowR v c)) (ks) (sw) (tx) (len) (sn) (se)) := by
  refine PM_of_G RX5 [some (r_ x), some (i_ c)] rfl (by decide +kernel) (Nat.le_of_ble_eq_true rfl) rfl ?_
  obtain ⟨u, ρ, ki, fi, s2, th, p, hst, n, e, hX, hq⟩ := id hA
  obtain ⟨⟨hV, hT⟩, hsz, hhv, hks, hx, hl⟩ := id hI
  obtain ⟨⟨hrd, hrs, hrh⟩, ⟨hs0, hs1, hs2⟩, ⟨hn, hf, hfa⟩, ⟨hc0, hr, hs, hz⟩, h49, hdi⟩ := id hV
  have hF : Fr h h x (x + 106) := Fr.rf
  obtain ⟨hX0, hXn, hXu, hXw, hXh, hXs⟩ := id hX
  obtain ⟨hN0, hNb, hNw, hNs⟩ := id hXn
  obtain ⟨hNb0, hNb1, hNb2, hNb3, hNb4⟩ := id hNb
  obtain ⟨hNw0, hNw1, hNw2, hNw3, hNw4, hNw5, hNw6⟩ := id hNw
  have hU0 := hXu.1
  have hUw0 := hXu.2.2.1.1
  have hW0 := hXw.1
  have hH0 := hXh.1
  obtain ⟨hS0, hS1, hS2, hS3, hS4⟩ := id hXs
  refine G_aload_n dX5_flow_0 rfl rfl ?_
  refine G_getf fl_X5_16 dX5_flow_1 (by assumption) rfl ?_
  refine G_aload_n dX5_flow_4 rfl rfl ?_
  refine G_getf fl_X5_12 dX5_flow_5 (by assumption) rfl ?_
  refine G_callV (ci := 3) (as := [_]) (c_X3_copyFrom _ (x + 15) (x + 1) _ _ hXu hXn (by omega)) dX5_flow_8 ml_X5_36 cv_X3_copyFrom (by assumption) rfl rfl (Nat.le_of_ble_eq_true rfl) (Nat.le_of_ble_eq_true rfl) rfl (fun r h2 hp => ?_)
  obtain ⟨rfl, hF1, hb⟩ := hp
  have hX := hX.spare hF1 hb
  have hF := hF.tr (hF1.wide (show x ≤ x + 15 by omega) (show x + 15 + 14 ≤ x + 106 by omega))
  obtain ⟨hX0, hXn, hXu, hXw, hXh, hXs⟩ := id hX
  obtain ⟨hN0, hNb, hNw, hNs⟩ := id hXn
  obtain ⟨hNb0, hNb1, hNb2, hNb3, hNb4⟩ := id hNb
  obtain ⟨hNw0, hNw1, hNw2, hNw3, hNw4, hNw5, hNw6⟩ := id hNw
  have hU0 := hXu.1
  have hUw0 := hXu.2.2.1.1
  have hW0 := hXw.1
  have hH0 := hXh.1
  obtain ⟨hS0, hS1, hS2, hS3, hS4⟩ := id hXs
  refine G_aload_n dX5_flow_11 rfl rfl ?_
  refine G_aload_n dX5_flow_12 rfl rfl ?_
  refine G_getf fl_X5_12 dX5_flow_13 (by assumption) rfl ?_
  refine G_iload_n dX5_flow_16 rfl rfl ?_
  refine G_callV (ci := 3) (as := [_]) (c_X3_changeFlow _ (x + 1) v c hXn hV hc) dX5_flow_17 ml_X5_57 cv_X3_changeFlow (by assumption) rfl rfl (Nat.le_of_ble_eq_true rfl) (Nat.le_of_ble_eq_true rfl) rfl (fun r h2 hp => ?_)
  obtain ⟨rfl, hF2, hb2⟩ := hp
  have hX := hX.now hF2 hb2
  have hF := hF.tr (hF2.wide (show x ≤ x + 1 by omega) (show x + 1 + 14 ≤ x + 106 by omega))
  have hX0 := hX.1
  refine G_callV (ci := 5) (as := [_]) (c_X5_recorded _ x _ _ _ _ _ _ _ _ _ _ _ _ _ _ _ _ _ _ hX hsz (inR_of (by have := flowR_rng (q := c) hV; omega) (by have := flowR_rng (q := c) hV; omega))) dX5_flow_20 ml_X5_50 cv_X5_recorded (by assumption) rfl rfl (Nat.le_of_ble_eq_true rfl) (Nat.le_of_ble_eq_true rfl) rfl (fun r h2 hp => ?_)
  obtain ⟨rfl, hF3, ρ2, hX⟩ := hp
  have hF := hF.tr hF3
  refine G_ireturn dX5_flow_23 rfl ?_
  exact ⟨rfl, hF, _, _, _, _, _, _, _, _, _, _, hX, hq⟩
set_option maxRecDepth 100000 in
set_option maxHeartbeats 4000000 in
theorem c_X5_set (h : List PO) (x : Nat) (v : SV) (hv : Int → SV) (sz ks : Int) (sw : SV) (tx : Int → Int) (len sn se : Int) (c d : Int) (hA : clA h x v hv sz ks sw tx len sn se) (hI : INV v hv sz ks sw tx len) (hc : inR c) (hd : inR d) : PM 7 yX5_set cX5_set 3 (some .int) h [r_ x, i_ c, i_ d] (fun r0 h2 => r0 = some (i_ (setR v c d)) ∧ Fr h h2 x (x + 106) ∧ clA h2 x (setV v c d) (hvA hv sz v (setR v c d)) (szA sz (setR v c d)) (ks) (sw) (tx) (len) (sn) (se)) := by
  refine PM_of_G RX5 [some (r_ x), some (i_ c), some (i_ d)] rfl (by decide +kernel) (Nat.le_of_ble_eq_true rfl) rfl ?_
  obtain ⟨u, ρ, ki, fi, s2, th, p, hst, n, e, hX, hq⟩ := id hA
  obtain ⟨⟨hV, hT⟩, hsz, hhv, hks, hx, hl⟩ := id hI
  obtain ⟨⟨hrd, hrs, hrh⟩, ⟨hs0, hs1, hs2⟩, ⟨hn, hf, hfa⟩, ⟨hc0, hr, hs, hz⟩, h49, hdi⟩ := id hV
  have hF : Fr h h x (x + 106) := Fr.rf
  obtain ⟨hX0, hXn, hXu, hXw, hXh, hXs⟩ := id hX
  obtain ⟨hN0, hNb, hNw, hNs⟩ := id hXn
  obtain ⟨hNb0, hNb1, hNb2, hNb3, hNb4⟩ := id hNb
  obtain ⟨hNw0, hNw1, hNw2, hNw3, hNw4, hNw5, hNw6⟩ := id hNw
  have hU0 := hXu.1
  have hUw0 := hXu.2.2.1.1
  have hW0 := hXw.1
  have hH0 := hXh.1
  obtain ⟨hS0, hS1, hS2, hS3, hS4⟩ := id hXs
  refine G_aload_n dX5_set_0 rfl rfl ?_
  refine G_getf fl_X5_16 dX5_set_1 (by assumption) rfl ?_
  refine G_aload_n dX5_set_4 rfl rfl ?_
  refine G_getf fl_X5_12 dX5_set_5 (by assumption) rfl ?_
  refine G_callV (ci := 3) (as := [_]) (c_X3_copyFrom _ (x + 15) (x + 1) _ _ hXu hXn (by omega)) dX5_set_8 ml_X5_36 cv_X3_copyFrom (by assumption) rfl rfl (Nat.le_of_ble_eq_true rfl) (Nat.le_of_ble_eq_true rfl) rfl (fun r h2 hp => ?_)
  obtain ⟨rfl, hF1, hb⟩ := hp
  have hX := hX.spare hF1 hb
  have hF := hF.tr (hF1.wide (show x ≤ x + 15 by omega) (show x + 15 + 14 ≤ x + 106 by omega))
  obtain ⟨hX0, hXn, hXu, hXw, hXh, hXs⟩ := id hX
  obtain ⟨hN0, hNb, hNw, hNs⟩ := id hXn
  obtain ⟨hNb0, hNb1, hNb2, hNb3, hNb4⟩ := id hNb
  obtain ⟨hNw0, hNw1, hNw2, hNw3, hNw4, hNw5, hNw6⟩ := id hNw
  have hU0 := hXu.1
  have hUw0 := hXu.2.2.1.1
  have hW0 := hXw.1
  have hH0 := hXh.1
  obtain ⟨hS0, hS1, hS2, hS3, hS4⟩ := id hXs
  refine G_aload_n dX5_set_11 rfl rfl ?_
  refine G_aload_n dX5_set_12 rfl rfl ?_
  refine G_getf fl_X5_12 dX5_set_13 (by assumption) rfl ?_
  refine G_iload_n dX5_set_16 rfl rfl ?_
  refine G_iload_n dX5_set_17 rfl rfl ?_
  refine G_callV (ci := 3) (as := [_, _]) (c_X3_changeSetting _ (x + 1) v c d hXn hV hc hd) dX5_set_18 ml_X5_60 cv_X3_changeSetting (by assumption) rfl rfl (Nat.le_of_ble_eq_true rfl) (Nat.le_of_ble_eq_true rfl) rfl (fun r h2 hp => ?_)
  obtain ⟨rfl, hF2, hb2⟩ := hp
  have hX := hX.now hF2 hb2
  have hF := hF.tr (hF2.wide (show x ≤ x + 1 by omega) (show x + 1 + 14 ≤ x + 106 by omega))
  have hX0 := hX.1
  refine G_callV (ci := 5) (as := [_]) (c_X5_recorded _ x _ _ _ _ _ _ _ _ _ _ _ _ _ _ _ _ _ _ hX hsz (inR_of (by have := setR_rng (w := c) (q := d) hV; omega) (by have := setR_rng (w := c) (q := d) hV; omega))) dX5_set_21 ml_X5_50 cv_X5_recorded (by assumption) rfl rfl (Nat.le_of_ble_eq_true rfl) (Nat.le_of_ble_eq_true rfl) rfl (fun r h2 hp => ?_)
  obtain ⟨rfl, hF3, ρ2, hX⟩ := hp
  have hF := hF.tr hF3
  refine G_ireturn dX5_set_24 rfl ?_
  exact ⟨rfl, hF, _, _, _, _, _, _, _, _, _, _, hX, hq⟩
set_option maxRecDepth 100000 in
set_option maxHeartbeats 4000000 in
theorem c_X5_sink (h : List PO) (x : Nat) (v : SV) (hv : Int → SV) (sz ks : Int) (sw : SV) (tx : Int → Int) (len sn se : Int) (c d : Int) (hA : clA h x v hv sz ks sw tx len sn se) (hI : INV v hv sz ks sw tx len) (hc : inR c) (hd : inR d) : PM 7 yX5_sink cX5_sink 3 (some .int) h [r_ x, i_ c, i_ d] (fun r0 h2 => r0 = some (i_ (sinkR (v 4) (v 11 0) c d)) ∧ Fr h h2 x (x + 106) ∧ clA h2 x (sinkV v c d) (hvA hv sz v (sinkR (v 4) (v 11 0) c d)) (szA sz (sinkR (v 4) (v 11 0) c d)) (ks) (sw) (tx) (len) (sn) (se)) := by
  refine PM_of_G RX5 [some (r_ x), some (i_ c), some (i_ d)] rfl (by decide +kernel) (Nat.le_of_ble_eq_true rfl) rfl ?_
  obtain ⟨u, ρ, ki, fi, s2, th, p, hst, n, e, hX, hq⟩ := id hA
  obtain ⟨⟨hV, hT⟩, hsz, hhv, hks, hx, hl⟩ := id hI
  obtain ⟨⟨hrd, hrs, hrh⟩, ⟨hs0, hs1, hs2⟩, ⟨hn, hf, hfa⟩, ⟨hc0, hr, hs, hz⟩, h49, hdi⟩ := id hV
  have hF : Fr h h x (x + 106) := Fr.rf
  obtain ⟨hX0, hXn, hXu, hXw, hXh, hXs⟩ := id hX
  obtain ⟨hN0, hNb, hNw, hNs⟩ := id hXn
  obtain ⟨hNb0, hNb1, hNb2, hNb3, hNb4⟩ := id hNb
  obtain ⟨hNw0, hNw1, hNw2, hNw3, hNw4, hNw5, hNw6⟩ := id hNw
  have hU0 := hXu.1
  have hUw0 := hXu.2.2.1.1
  have hW0 := hXw.1
  have hH0 := hXh.1
  obtain ⟨hS0, hS1, hS2, hS3, hS4⟩ := id hXs
  refine G_aload_n dX5_sink_0 rfl rfl ?_
  refine G_getf fl_X5_16 dX5_sink_1 (by assumption) rfl ?_
  refine G_aload_n dX5_sink_4 rfl rfl ?_
  refine G_getf fl_X5_12 dX5_sink_5 (by assumption) rfl ?_
  refine G_callV (ci := 3) (as := [_]) (c_X3_copyFrom _ (x + 15) (x + 1) _ _ hXu hXn (by omega)) dX5_sink_8 ml_X5_36 cv_X3_copyFrom (by assumption) rfl rfl (Nat.le_of_ble_eq_true rfl) (Nat.le_of_ble_eq_true rfl) rfl (fun r h2 hp => ?_)
  obtain ⟨rfl, hF1, hb⟩ := hp
  have hX := hX.spare hF1 hb
  have hF := hF.tr (hF1.wide (show x ≤ x + 15 by omega) (show x + 15 + 14 ≤ x + 106 by omega))
  obtain ⟨hX0, hXn, hXu, hXw, hXh, hXs⟩ := id hX
  obtain ⟨hN0, hNb, hNw, hNs⟩ := id hXn
  obtain ⟨hNb0, hNb1, hNb2, hNb3, hNb4⟩ := id hNb
  obtain ⟨hNw0, hNw1, hNw2, hNw3, hNw4, hNw5, hNw6⟩ := id hNw
  have hU0 := hXu.1
  have hUw0 := hXu.2.2.1.1
  have hW0 := hXw.1
  have hH0 := hXh.1
  obtain ⟨hS0, hS1, hS2, hS3, hS4⟩ := id hXs
  refine G_aload_n dX5_sink_11 rfl rfl ?_
  refine G_aload_n dX5_sink_12 rfl rfl ?_
  refine G_getf fl_X5_12 dX5_sink_13 (by assumption) rfl ?_
  refine G_getf fl_X5_63 dX5_sink_16 (by assumption) rfl ?_
  refine G_iload_n dX5_sink_19 rfl rfl ?_
  refine G_iload_n dX5_sink_20 rfl rfl ?_
  refine G_callV (ci := 4) (as := [_, _]) (c_X4_add _ (x + 1 + 6) (v 4) (v 5) (v 6) (v 7) (v 8) (v 9) (v 11 0) c d hNw hn hc0 hdi hc hd) dX5_sink_21 ml_X5_67 cv_X4_add (by assumption) rfl rfl (Nat.le_of_ble_eq_true rfl) (Nat.le_of_ble_eq_true rfl) rfl (fun r h2 hp => ?_)
  obtain ⟨rfl, hF2, hb2⟩ := hp
  have hb3 := st_sink hXn hF2 hb2
  have hX := hX.now (hF2.wide (show x + 1 ≤ x + 1 + 6 by omega) (show x + 1 + 6 + 7 ≤ x + 1 + 14 by omega)) hb3
  have hF := hF.tr (hF2.wide (show x ≤ x + 1 + 6 by omega) (show x + 1 + 6 + 7 ≤ x + 106 by omega))
  have hX0 := hX.1
  refine G_callV (ci := 5) (as := [_]) (c_X5_recorded _ x _ _ _ _ _ _ _ _ _ _ _ _ _ _ _ _ _ _ hX hsz (inR_of (by have := sinkR_rng (k := c) (q := d) hV; omega) (by have := sinkR_rng (k := c) (q := d) hV; omega))) dX5_sink_24 ml_X5_50 cv_X5_recorded (by assumption) rfl rfl (Nat.le_of_ble_eq_true rfl) (Nat.le_of_ble_eq_true rfl) rfl (fun r h2 hp => ?_)
  obtain ⟨rfl, hF3, ρ2, hX⟩ := hp
  have hF := hF.tr hF3
  refine G_ireturn dX5_sink_27 rfl ?_
  exact ⟨rfl, hF, _, _, _, _, _, _, _, _, _, _, hX, hq⟩
set_option maxRecDepth 100000 in
set_option maxHeartbeats 4000000 in
theorem c_X5_fillIn (h : List PO) (x : Nat) (v : SV) (hv : Int → SV) (sz ks : Int) (sw : SV) (tx : Int → Int) (len sn se : Int) (c : Int) (hA : clA h x v hv sz ks sw tx len sn se) (hI : INV v hv sz ks sw tx len) (hc : inR c) : PM 7 yX5_fillIn cX5_fillIn 2 (some .int) h [r_ x, i_ c] (fun r0 h2 => r0 = some (i_ (fillR (v 6) (v 11 0) c)) ∧ Fr h h2 x (x + 106) ∧ clA h2 x (fillV v c) (hvA hv sz v (fillR (v 6) (v 11 0) c)) (szA sz (fillR (v 6) (v 11 0) c)) (ks) (sw) (tx) (len) (sn) (se)) := by
  refine PM_of_G RX5 [some (r_ x), some (i_ c)] rfl (by decide +kernel) (Nat.le_of_ble_eq_true rfl) rfl ?_
  obtain ⟨u, ρ, ki, fi, s2, th, p, hst, n, e, hX, hq⟩ := id hA
  obtain ⟨⟨hV, hT⟩, hsz, hhv, hks, hx, hl⟩ := id hI
  obtain ⟨⟨hrd, hrs, hrh⟩, ⟨hs0, hs1, hs2⟩, ⟨hn, hf, hfa⟩, ⟨hc0, hr, hs, hz⟩, h49, hdi⟩ := id hV
  have hF : Fr h h x (x + 106) := Fr.rf
  obtain ⟨hX0, hXn, hXu, hXw, hXh, hXs⟩ := id hX
  obtain ⟨hN0, hNb, hNw, hNs⟩ := id hXn
  obtain ⟨hNb0, hNb1, hNb2, hNb3, hNb4⟩ := id hNb
  obtain ⟨hNw0, hNw1, hNw2, hNw3, hNw4, hNw5, hNw6⟩ := id hNw
  have hU0 := hXu.1
  have hUw0 := hXu.2.2.1.1
  have hW0 := hXw.1
  have hH0 := hXh.1
  obtain ⟨hS0, hS1, hS2, hS3, hS4⟩ := id hXs
  refine G_aload_n dX5_fillIn_0 rfl rfl ?_
  refine G_getf fl_X5_16 dX5_fillIn_1 (by assumption) rfl ?_
  refine G_aload_n dX5_fillIn_4 rfl rfl ?_
  refine G_getf fl_X5_12 dX5_fillIn_5 (by assumption) rfl ?_
  refine G_callV (ci := 3) (as := [_]) (c_X3_copyFrom _ (x + 15) (x + 1) _ _ hXu hXn (by omega)) dX5_fillIn_8 ml_X5_36 cv_X3_copyFrom (by assumption) rfl rfl (Nat.le_of_ble_eq_true rfl) (Nat.le_of_ble_eq_true rfl) rfl (fun r h2 hp => ?_)
  obtain ⟨rfl, hF1, hb⟩ := hp
  have hX := hX.spare hF1 hb
  have hF := hF.tr (hF1.wide (show x ≤ x + 15 by omega) (show x + 15 + 14 ≤ x + 106 by omega))
  obtain ⟨hX0, hXn, hXu, hXw, hXh, hXs⟩ := id hX
  obtain ⟨hN0, hNb, hNw, hNs⟩ := id hXn
  obtain ⟨hNb0, hNb1, hNb2, hNb3, hNb4⟩ := id hNb
  obtain ⟨hNw0, hNw1, hNw2, hNw3, hNw4, hNw5, hNw6⟩ := id hNw
  have hU0 := hXu.1
  have hUw0 := hXu.2.2.1.1
  have hW0 := hXw.1
  have hH0 := hXh.1
  obtain ⟨hS0, hS1, hS2, hS3, hS4⟩ := id hXs
  refine G_aload_n dX5_fillIn_11 rfl rfl ?_
  refine G_aload_n dX5_fillIn_12 rfl rfl ?_
  refine G_getf fl_X5_12 dX5_fillIn_13 (by assumption) rfl ?_
  refine G_getf fl_X5_63 dX5_fillIn_16 (by assumption) rfl ?_
  refine G_iload_n dX5_fillIn_19 rfl rfl ?_
  refine G_callV (ci := 4) (as := [_]) (c_X4_remove _ (x + 1 + 6) (v 4) (v 5) (v 6) (v 7) (v 8) (v 9) (v 11 0) c hNw hn hc) dX5_fillIn_20 ml_X5_72 cv_X4_remove (by assumption) rfl rfl (Nat.le_of_ble_eq_true rfl) (Nat.le_of_ble_eq_true rfl) rfl (fun r h2 hp => ?_)
  obtain ⟨rfl, hF2, hb2⟩ := hp
  have hb3 := st_fill hXn hF2 hb2
  have hX := hX.now (hF2.wide (show x + 1 ≤ x + 1 + 6 by omega) (show x + 1 + 6 + 7 ≤ x + 1 + 14 by omega)) hb3
  have hF := hF.tr (hF2.wide (show x ≤ x + 1 + 6 by omega) (show x + 1 + 6 + 7 ≤ x + 106 by omega))
  have hX0 := hX.1
  refine G_callV (ci := 5) (as := [_]) (c_X5_recorded _ x _ _ _ _ _ _ _ _ _ _ _ _ _ _ _ _ _ _ hX hsz (inR_of (by have := fillR_rng (w := c) hV; omega) (by have := fillR_rng (w := c) hV; omega))) dX5_fillIn_23 ml_X5_50 cv_X5_recorded (by assumption) rfl rfl (Nat.le_of_ble_eq_true rfl) (Nat.le_of_ble_eq_true rfl) rfl (fun r h2 hp => ?_)
  obtain ⟨rfl, hF3, ρ2, hX⟩ := hp
  have hF := hF.tr hF3
  refine G_ireturn dX5_fillIn_26 rfl ?_
  exact ⟨rfl, hF, _, _, _, _, _, _, _, _, _, _, hX, hq⟩
set_option maxRecDepth 100000 in
set_option maxHeartbeats 4000000 in
theorem c_X5_setRate (h : List PO) (x : Nat) (v : SV) (hv : Int → SV) (sz ks : Int) (sw : SV) (tx : Int → Int) (len sn se : Int) (c d : Int) (hA : clA h x v hv sz ks sw tx len sn se) (hI : INV v hv sz ks sw tx len) (hc : inR c) (hd : inR d) : PM 7 yX5_setRate cX5_setRate 3 (some .int) h [r_ x, i_ c, i_ d] (fun r0 h2 => r0 = some (i_ (rateR (v 5) (v 11 0) c d)) ∧ Fr h h2 x (x + 106) ∧ clA h2 x (rateV v c d) (hvA hv sz v (rateR (v 5) (v 11 0) c d)) (szA sz (rateR (v 5) (v 11 0) c d)) (ks) (sw) (tx) (len) (sn) (se)) := by
  refine PM_of_G RX5 [some (r_ x), some (i_ c), some (i_ d)] rfl (by decide +kernel) (Nat.le_of_ble_eq_true rfl) rfl ?_
  obtain ⟨u, ρ, ki, fi, s2, th, p, hst, n, e, hX, hq⟩ := id hA
  obtain ⟨⟨hV, hT⟩, hsz, hhv, hks, hx, hl⟩ := id hI
  obtain ⟨⟨hrd, hrs, hrh⟩, ⟨hs0, hs1, hs2⟩, ⟨hn, hf, hfa⟩, ⟨hc0, hr, hs, hz⟩, h49, hdi⟩ := id hV
  have hF : Fr h h x (x + 106) := Fr.rf
  obtain ⟨hX0, hXn, hXu, hXw, hXh, hXs⟩ := id hX
  obtain ⟨hN0, hNb, hNw, hNs⟩ := id hXn
  obtain ⟨hNb0, hNb1, hNb2, hNb3, hNb4⟩ := id hNb
  obtain ⟨hNw0, hNw1, hNw2, hNw3, hNw4, hNw5, hNw6⟩ := id hNw
  have hU0 := hXu.1
  have hUw0 := hXu.2.2.1.1
  have hW0 := hXw.1
  have hH0 := hXh.1
  obtain ⟨hS0, hS1, hS2, hS3, hS4⟩ := id hXs
  refine G_aload_n dX5_setRate_0 rfl rfl ?_
  refine G_getf fl_X5_16 dX5_setRate_1 (by assumption) rfl ?_
  refine G_aload_n dX5_setRate_4 rfl rfl ?_
  refine G_getf fl_X5_12 dX5_setRate_5 (by assumption) rfl ?_
  refine G_callV (ci := 3) (as := [_]) (c_X3_copyFrom _ (x + 15) (x + 1) _ _ hXu hXn (by omega)) dX5_setRate_8 ml_X5_36 cv_X3_copyFrom (by assumption) rfl rfl (Nat.le_of_ble_eq_true rfl) (Nat.le_of_ble_eq_true rfl) rfl (fun r h2 hp => ?_)
  obtain ⟨rfl, hF1, hb⟩ := hp
  have hX := hX.spare hF1 hb
  have hF := hF.tr (hF1.wide (show x ≤ x + 15 by omega) (show x + 15 + 14 ≤ x + 106 by omega))
  obtain ⟨hX0, hXn, hXu, hXw, hXh, hXs⟩ := id hX
  obtain ⟨hN0, hNb, hNw, hNs⟩ := id hXn
  obtain ⟨hNb0, hNb1, hNb2, hNb3, hNb4⟩ := id hNb
  obtain ⟨hNw0, hNw1, hNw2, hNw3, hNw4, hNw5, hNw6⟩ := id hNw
  have hU0 := hXu.1
  have hUw0 := hXu.2.2.1.1
  have hW0 := hXw.1
  have hH0 := hXh.1
  obtain ⟨hS0, hS1, hS2, hS3, hS4⟩ := id hXs
  refine G_aload_n dX5_setRate_11 rfl rfl ?_
  refine G_aload_n dX5_setRate_12 rfl rfl ?_
  refine G_getf fl_X5_12 dX5_setRate_13 (by assumption) rfl ?_
  refine G_getf fl_X5_63 dX5_setRate_16 (by assumption) rfl ?_
  refine G_iload_n dX5_setRate_19 rfl rfl ?_
  refine G_iload_n dX5_setRate_20 rfl rfl ?_
  refine G_callV (ci := 4) (as := [_, _]) (c_X4_changeRate _ (x + 1 + 6) (v 4) (v 5) (v 6) (v 7) (v 8) (v 9) (v 11 0) c d hNw hn hr hc hd) dX5_setRate_21 ml_X5_75 cv_X4_changeRate (by assumption) rfl rfl (Nat.le_of_ble_eq_true rfl) (Nat.le_of_ble_eq_true rfl) rfl (fun r h2 hp => ?_)
  obtain ⟨rfl, rfl⟩ := hp
  obtain ⟨hF2, hb2⟩ := st_rate (c := c) (d := d) hXn
  have hX := hX.now hF2 hb2
  have hF := hF.tr (hF2.wide (show x ≤ x + 1 by omega) (show x + 1 + 14 ≤ x + 106 by omega))
  have hX0 := hX.1
  refine G_callV (ci := 5) (as := [_]) (c_X5_recorded _ x _ _ _ _ _ _ _ _ _ _ _ _ _ _ _ _ _ _ hX hsz (inR_of (by have := rateR_rng (w := c) (q := d) hV; omega) (by have := rateR_rng (w := c) (q := d) hV; omega))) dX5_setRate_24 ml_X5_50 cv_X5_recorded (by assumption) rfl rfl (Nat.le_of_ble_eq_true rfl) (Nat.le_of_ble_eq_true rfl) rfl (fun r h2 hp => ?_)
  obtain ⟨rfl, hF3, ρ2, hX⟩ := hp
  have hF := hF.tr hF3
  refine G_ireturn dX5_setRate_27 rfl ?_
  exact ⟨rfl, hF, _, _, _, _, _, _, _, _, _, _, hX, hq⟩
set_option maxRecDepth 100000 in
set_option maxHeartbeats 4000000 in
theorem c_X5_tide (h : List PO) (x : Nat) (v : SV) (hv : Int → SV) (sz ks : Int) (sw : SV) (tx : Int → Int) (len sn se : Int) (c d : Int) (hA : clA h x v hv sz ks sw tx len sn se) (hI : INV v hv sz ks sw tx len) (hc : inR c) (hd : inR d) : PM 7 yX5_tide cX5_tide 3 (some .int) h [r_ x, i_ c, i_ d] (fun r0 h2 => r0 = some (i_ (tidesR v c d)) ∧ Fr h h2 x (x + 106) ∧ clA h2 x (tidesV v c d) (hvA hv sz v (tidesR v c d)) (szA sz (tidesR v c d)) (ks) (sw) (tx) (len) (sn) (se)) := by
  refine PM_of_G RX5 [some (r_ x), some (i_ c), some (i_ d)] rfl (by decide +kernel) (Nat.le_of_ble_eq_true rfl) rfl ?_
  obtain ⟨u, ρ, ki, fi, s2, th, p, hst, n, e, hX, hq⟩ := id hA
  obtain ⟨⟨hV, hT⟩, hsz, hhv, hks, hx, hl⟩ := id hI
  obtain ⟨⟨hrd, hrs, hrh⟩, ⟨hs0, hs1, hs2⟩, ⟨hn, hf, hfa⟩, ⟨hc0, hr, hs, hz⟩, h49, hdi⟩ := id hV
  have hF : Fr h h x (x + 106) := Fr.rf
  obtain ⟨hX0, hXn, hXu, hXw, hXh, hXs⟩ := id hX
  obtain ⟨hN0, hNb, hNw, hNs⟩ := id hXn
  obtain ⟨hNb0, hNb1, hNb2, hNb3, hNb4⟩ := id hNb
  obtain ⟨hNw0, hNw1, hNw2, hNw3, hNw4, hNw5, hNw6⟩ := id hNw
  have hU0 := hXu.1
  have hUw0 := hXu.2.2.1.1
  have hW0 := hXw.1
  have hH0 := hXh.1
  obtain ⟨hS0, hS1, hS2, hS3, hS4⟩ := id hXs
  refine G_aload_n dX5_tide_0 rfl rfl ?_
  refine G_getf fl_X5_16 dX5_tide_1 (by assumption) rfl ?_
  refine G_aload_n dX5_tide_4 rfl rfl ?_
  refine G_getf fl_X5_12 dX5_tide_5 (by assumption) rfl ?_
  refine G_callV (ci := 3) (as := [_]) (c_X3_copyFrom _ (x + 15) (x + 1) _ _ hXu hXn (by omega)) dX5_tide_8 ml_X5_36 cv_X3_copyFrom (by assumption) rfl rfl (Nat.le_of_ble_eq_true rfl) (Nat.le_of_ble_eq_true rfl) rfl (fun r h2 hp => ?_)
  obtain ⟨rfl, hF1, hb⟩ := hp
  have hX := hX.spare hF1 hb
  have hF := hF.tr (hF1.wide (show x ≤ x + 15 by omega) (show x + 15 + 14 ≤ x + 106 by omega))
  obtain ⟨hX0, hXn, hXu, hXw, hXh, hXs⟩ := id hX
  obtain ⟨hN0, hNb, hNw, hNs⟩ := id hXn
  obtain ⟨hNb0, hNb1, hNb2, hNb3, hNb4⟩ := id hNb
  obtain ⟨hNw0, hNw1, hNw2, hNw3, hNw4, hNw5, hNw6⟩ := id hNw
  have hU0 := hXu.1
  have hUw0 := hXu.2.2.1.1
  have hW0 := hXw.1
  have hH0 := hXh.1
  obtain ⟨hS0, hS1, hS2, hS3, hS4⟩ := id hXs
  refine G_aload_n dX5_tide_11 rfl rfl ?_
  refine G_aload_n dX5_tide_12 rfl rfl ?_
  refine G_getf fl_X5_12 dX5_tide_13 (by assumption) rfl ?_
  refine G_iload_n dX5_tide_16 rfl rfl ?_
  refine G_iload_n dX5_tide_17 rfl rfl ?_
  refine G_callV (ci := 3) (as := [_, _]) (c_X3_letTidesCome _ (x + 1) v c d hXn hV hT hc hd) dX5_tide_18 ml_X5_78 cv_X3_letTidesCome (by assumption) rfl rfl (Nat.le_of_ble_eq_true rfl) (Nat.le_of_ble_eq_true rfl) rfl (fun r h2 hp => ?_)
  obtain ⟨rfl, hF2, hb2⟩ := hp
  have hX := hX.now hF2 hb2
  have hF := hF.tr (hF2.wide (show x ≤ x + 1 by omega) (show x + 1 + 14 ≤ x + 106 by omega))
  have hX0 := hX.1
  refine G_callV (ci := 5) (as := [_]) (c_X5_recorded _ x _ _ _ _ _ _ _ _ _ _ _ _ _ _ _ _ _ _ hX hsz (inR_of (by have := tidesR_rng (v := v) (a := c) (b := d); omega) (by have := tidesR_rng (v := v) (a := c) (b := d); omega))) dX5_tide_21 ml_X5_50 cv_X5_recorded (by assumption) rfl rfl (Nat.le_of_ble_eq_true rfl) (Nat.le_of_ble_eq_true rfl) rfl (fun r h2 hp => ?_)
  obtain ⟨rfl, hF3, ρ2, hX⟩ := hp
  have hF := hF.tr hF3
  refine G_ireturn dX5_tide_24 rfl ?_
  exact ⟨rfl, hF, _, _, _, _, _, _, _, _, _, _, hX, hq⟩
def undR (sz : Int) : Int := if sz = 0 then -5 else sz - 1
def undV (v : SV) (hv : Int → SV) (sz : Int) : SV := if sz = 0 then v else hv (sz - 1)
def undZ (sz : Int) : Int := if sz = 0 then sz else sz - 1
def rstR (ks : Int) (w : SV) : Int := if ks = 1 then w 11 2 else -5
def rstV (v : SV) (ks : Int) (w : SV) : SV := if ks = 1 then w else v
theorem clF.undo {h h1 h2 : List PO} {x : Nat} {v u w v2 : SV} {ks : Int} {ρ ρ2 : Int → Nat} {hv hv2 : Int → SV} {sz sz2 : Int} {tx : Int → Int} {len : Int} {ki fi s2 : Int → Int} {th p hst n e : Int} (a : clF h x v u w ks ρ hv sz tx len ki fi s2 th p hst n e) (f1 : Fr h h1 (x + 1) (x + 1 + 14)) (f2 : Fr h1 h2 (x + 43) (x + 43 + 1)) (b : stAt h2 (x + 1) v2) (c : hiAt h2 (x + 43) ρ2 hv2 sz2) : clF h2 x v2 u w ks ρ2 hv2 sz2 tx len ki fi s2 th p hst n e := by
  obtain ⟨a0, a1, a2, a3, a4, a5⟩ := a
  exact ⟨f2.at' (f1.at' a0 (by omega)) (by omega), b, (a2.fr f1 (by omega)).fr f2 (by omega), (a3.fr f1 (by omega)).fr f2 (by omega), c, (a5.fr f1 (by omega)).fr f2 (by omega)⟩
set_option maxRecDepth 100000 in
set_option maxHeartbeats 4000000 in
theorem c_X5_undo (h : List PO) (x : Nat) (v : SV) (hv : Int → SV) (sz ks : Int) (sw : SV) (tx : Int → Int) (len sn se : Int) (hA : clA h x v hv sz ks sw tx len sn se) (hI : INV v hv sz ks sw tx len) : PM 7 yX5_undo cX5_undo 1 (some .int) h [r_ x] (fun r0 h2 => r0 = some (i_ (undR sz)) ∧ Fr h h2 x (x + 106) ∧ clA h2 x (undV v hv sz) (hv) (undZ sz) (ks) (sw) (tx) (len) (sn) (se)) := by
  refine PM_of_G RX5 [some (r_ x)] rfl (by decide +kernel) (Nat.le_of_ble_eq_true rfl) rfl ?_
  obtain ⟨u, ρ, ki, fi, s2, th, p, hst, n, e, hX, hq⟩ := id hA
  obtain ⟨⟨hV, hT⟩, hsz, hhv, hks, hx, hl⟩ := id hI
  obtain ⟨⟨hrd, hrs, hrh⟩, ⟨hs0, hs1, hs2⟩, ⟨hn, hf, hfa⟩, ⟨hc0, hr, hs, hz⟩, h49, hdi⟩ := id hV
  have hF : Fr h h x (x + 106) := Fr.rf
  obtain ⟨hX0, hXn, hXu, hXw, hXh, hXs⟩ := id hX
  obtain ⟨hN0, hNb, hNw, hNs⟩ := id hXn
  obtain ⟨hNb0, hNb1, hNb2, hNb3, hNb4⟩ := id hNb
  obtain ⟨hNw0, hNw1, hNw2, hNw3, hNw4, hNw5, hNw6⟩ := id hNw
  have hU0 := hXu.1
  have hUw0 := hXu.2.2.1.1
  have hW0 := hXw.1
  have hH0 := hXh.1
  obtain ⟨hS0, hS1, hS2, hS3, hS4⟩ := id hXs
  refine G_aload_n dX5_undo_0 rfl rfl ?_
  refine G_getf fl_X5_25 dX5_undo_1 (by assumption) rfl ?_
  refine G_aload_n dX5_undo_4 rfl rfl ?_
  refine G_getf fl_X5_12 dX5_undo_5 (by assumption) rfl ?_
  refine G_callV (ci := 1) (as := [_]) (c_X1_takeLatest _ (x + 43) ρ hv sz (x + 1) v hXh hsz hXn (by omega)) dX5_undo_8 ml_X5_121 cv_X1_takeLatest (by assumption) rfl rfl (Nat.le_of_ble_eq_true rfl) (Nat.le_of_ble_eq_true rfl) rfl (fun r h2 hp => ?_)
  rcases hp with ⟨rfl, hz0, rfl⟩ | ⟨rfl, hz0, H1, hF1, hF2, hb, hh⟩
  · skip
    refine G_if_ne (tgt := 17) dX5_undo_11 (by decide) (inR_of (by omega) (by omega)) (fun hc11 => ?_) (fun hc11 => ?_)
    · skip
      exfalso; omega
    · skip
      refine G_bipush dX5_undo_14 rfl ?_
      refine G_ireturn dX5_undo_16 rfl ?_
      have e1 : undR sz = -5 := by unfold undR; rw [if_pos hz0]
      have e2 : undV v hv sz = v := by unfold undV; rw [if_pos hz0]
      have e3 : undZ sz = sz := by unfold undZ; rw [if_pos hz0]
      rw [e1, e2, e3]
      exact ⟨rfl, Fr.rf, hA⟩
  · have hX := hX.undo hF1 hF2 hb hh
    have hF := hF.tr (hF1.wide (show x ≤ x + 1 by omega) (show x + 1 + 14 ≤ x + 106 by omega))
    have hF := hF.tr (hF2.wide (show x ≤ x + 43 by omega) (show x + 43 + 1 ≤ x + 106 by omega))
    obtain ⟨hX0, hXn, hXu, hXw, hXh, hXs⟩ := id hX
    obtain ⟨hN0, hNb, hNw, hNs⟩ := id hXn
    obtain ⟨hNb0, hNb1, hNb2, hNb3, hNb4⟩ := id hNb
    obtain ⟨hNw0, hNw1, hNw2, hNw3, hNw4, hNw5, hNw6⟩ := id hNw
    have hU0 := hXu.1
    have hUw0 := hXu.2.2.1.1
    have hW0 := hXw.1
    have hH0 := hXh.1
    obtain ⟨hS0, hS1, hS2, hS3, hS4⟩ := id hXs
    refine G_if_ne (tgt := 17) dX5_undo_11 (by decide) (inR_of (by omega) (by omega)) (fun hc11 => ?_) (fun hc11 => ?_)
    · skip
      refine G_aload_n dX5_undo_17 rfl rfl ?_
      refine G_getf fl_X5_25 dX5_undo_18 (by assumption) rfl ?_
      refine G_getf fl_X5_125 dX5_undo_21 (by assumption) rfl ?_
      refine G_ireturn dX5_undo_24 rfl ?_
      have e1 : undR sz = sz - 1 := by unfold undR; rw [if_neg (by omega)]
      have e2 : undV v hv sz = hv (sz - 1) := by unfold undV; rw [if_neg (by omega)]
      have e3 : undZ sz = sz - 1 := by unfold undZ; rw [if_neg (by omega)]
      rw [e1, e2, e3]
      exact ⟨rfl, hF, _, _, _, _, _, _, _, _, _, _, hX, hq⟩
    · skip
      exfalso; omega
set_option maxRecDepth 100000 in
set_option maxHeartbeats 4000000 in
theorem c_X5_keep (h : List PO) (x : Nat) (v : SV) (hv : Int → SV) (sz ks : Int) (sw : SV) (tx : Int → Int) (len sn se : Int) (hA : clA h x v hv sz ks sw tx len sn se) (hI : INV v hv sz ks sw tx len) : PM 7 yX5_keep cX5_keep 1 (some .int) h [r_ x] (fun r0 h2 => r0 = some (i_ (v 11 2)) ∧ Fr h h2 x (x + 106) ∧ clA h2 x (v) (hv) (sz) (1) (v) (tx) (len) (sn) (se)) := by
  refine PM_of_G RX5 [some (r_ x)] rfl (by decide +kernel) (Nat.le_of_ble_eq_true rfl) rfl ?_
  obtain ⟨u, ρ, ki, fi, s2, th, p, hst, n, e, hX, hq⟩ := id hA
  obtain ⟨⟨hV, hT⟩, hsz, hhv, hks, hx, hl⟩ := id hI
  obtain ⟨⟨hrd, hrs, hrh⟩, ⟨hs0, hs1, hs2⟩, ⟨hn, hf, hfa⟩, ⟨hc0, hr, hs, hz⟩, h49, hdi⟩ := id hV
  have hF : Fr h h x (x + 106) := Fr.rf
  obtain ⟨hX0, hXn, hXu, hXw, hXh, hXs⟩ := id hX
  obtain ⟨hN0, hNb, hNw, hNs⟩ := id hXn
  obtain ⟨hNb0, hNb1, hNb2, hNb3, hNb4⟩ := id hNb
  obtain ⟨hNw0, hNw1, hNw2, hNw3, hNw4, hNw5, hNw6⟩ := id hNw
  have hU0 := hXu.1
  have hUw0 := hXu.2.2.1.1
  have hW0 := hXw.1
  have hH0 := hXh.1
  obtain ⟨hS0, hS1, hS2, hS3, hS4⟩ := id hXs
  refine G_aload_n dX5_keep_0 rfl rfl ?_
  refine G_getf fl_X5_19 dX5_keep_1 (by assumption) rfl ?_
  refine G_aload_n dX5_keep_4 rfl rfl ?_
  refine G_getf fl_X5_12 dX5_keep_5 (by assumption) rfl ?_
  refine G_callV (ci := 3) (as := [_]) (c_X3_copyFrom _ (x + 29) (x + 1) _ _ hXw hXn (by omega)) dX5_keep_8 ml_X5_36 cv_X3_copyFrom (by assumption) rfl rfl (Nat.le_of_ble_eq_true rfl) (Nat.le_of_ble_eq_true rfl) rfl (fun r h2 hp => ?_)
  obtain ⟨rfl, hF1, hb⟩ := hp
  have hX := hX.snap hF1 hb
  have hF := hF.tr (hF1.wide (show x ≤ x + 29 by omega) (show x + 29 + 14 ≤ x + 106 by omega))
  obtain ⟨hX0, hXn, hXu, hXw, hXh, hXs⟩ := id hX
  obtain ⟨hN0, hNb, hNw, hNs⟩ := id hXn
  obtain ⟨hNb0, hNb1, hNb2, hNb3, hNb4⟩ := id hNb
  obtain ⟨hNw0, hNw1, hNw2, hNw3, hNw4, hNw5, hNw6⟩ := id hNw
  have hU0 := hXu.1
  have hUw0 := hXu.2.2.1.1
  have hW0 := hXw.1
  have hH0 := hXh.1
  obtain ⟨hS0, hS1, hS2, hS3, hS4⟩ := id hXs
  refine G_aload_n dX5_keep_11 rfl rfl ?_
  refine G_iconst dX5_keep_12 ?_
  refine G_putZ (fs2 := [r_ (x + 1), r_ (x + 15), r_ (x + 29), i_ (1), r_ (x + 43), r_ (x + 101), i_ (hst), i_ (n), i_ (e)]) fp_X5_128 dX5_keep_13 (by first | exact Or.inl rfl | exact Or.inr rfl) (by assumption) (Nat.le_of_ble_eq_true rfl) rfl ?_
  have hX := hX.obj (1) (hst) (n) (e)
  have hF := hF.tr (Fr.set (o := oCls x (1) (hst) (n) (e)) (show x ≤ x by omega) (show x < x + 106 by omega))
  obtain ⟨hX0, hXn, hXu, hXw, hXh, hXs⟩ := id hX
  obtain ⟨hN0, hNb, hNw, hNs⟩ := id hXn
  obtain ⟨hNb0, hNb1, hNb2, hNb3, hNb4⟩ := id hNb
  obtain ⟨hNw0, hNw1, hNw2, hNw3, hNw4, hNw5, hNw6⟩ := id hNw
  have hU0 := hXu.1
  have hUw0 := hXu.2.2.1.1
  have hW0 := hXw.1
  have hH0 := hXh.1
  obtain ⟨hS0, hS1, hS2, hS3, hS4⟩ := id hXs
  refine G_aload_n dX5_keep_16 rfl rfl ?_
  refine G_getf fl_X5_12 dX5_keep_17 (by assumption) rfl ?_
  refine G_getf fl_X5_131 dX5_keep_20 (by assumption) rfl ?_
  refine G_ireturn dX5_keep_23 rfl ?_
  exact ⟨rfl, hF, _, _, _, _, _, _, _, _, _, _, hX, hq⟩
set_option maxRecDepth 100000 in
set_option maxHeartbeats 4000000 in
theorem c_X5_restore (h : List PO) (x : Nat) (v : SV) (hv : Int → SV) (sz ks : Int) (sw : SV) (tx : Int → Int) (len sn se : Int) (hA : clA h x v hv sz ks sw tx len sn se) (hI : INV v hv sz ks sw tx len) : PM 7 yX5_restore cX5_restore 1 (some .int) h [r_ x] (fun r0 h2 => r0 = some (i_ (rstR ks sw)) ∧ Fr h h2 x (x + 106) ∧ clA h2 x (rstV v ks sw) (hvA hv sz v (rstR ks sw)) (szA sz (rstR ks sw)) (ks) (sw) (tx) (len) (sn) (se)) := by
  refine PM_of_G RX5 [some (r_ x)] rfl (by decide +kernel) (Nat.le_of_ble_eq_true rfl) rfl ?_
  obtain ⟨u, ρ, ki, fi, s2, th, p, hst, n, e, hX, hq⟩ := id hA
  obtain ⟨⟨hV, hT⟩, hsz, hhv, hks, hx, hl⟩ := id hI
  obtain ⟨⟨hrd, hrs, hrh⟩, ⟨hs0, hs1, hs2⟩, ⟨hn, hf, hfa⟩, ⟨hc0, hr, hs, hz⟩, h49, hdi⟩ := id hV
  have hF : Fr h h x (x + 106) := Fr.rf
  obtain ⟨hX0, hXn, hXu, hXw, hXh, hXs⟩ := id hX
  obtain ⟨hN0, hNb, hNw, hNs⟩ := id hXn
  obtain ⟨hNb0, hNb1, hNb2, hNb3, hNb4⟩ := id hNb
  obtain ⟨hNw0, hNw1, hNw2, hNw3, hNw4, hNw5, hNw6⟩ := id hNw
  have hU0 := hXu.1
  have hUw0 := hXu.2.2.1.1
  have hW0 := hXw.1
  have hH0 := hXh.1
  obtain ⟨hS0, hS1, hS2, hS3, hS4⟩ := id hXs
  refine G_aload_n dX5_restore_0 rfl rfl ?_
  refine G_getf fl_X5_128 dX5_restore_1 (by assumption) rfl ?_
  refine G_if_ne (tgt := 10) dX5_restore_4 (by decide) (inR_of (by omega) (by omega)) (fun hc4 => ?_) (fun hc4 => ?_)
  · skip
    have hk1 : ks = 1 := by omega
    have hOw : OKt sw := by
      rcases hks with q | q
      · exact absurd q (by omega)
      · exact q.2
    have e1 : rstR ks sw = sw 11 2 := by unfold rstR; rw [if_pos hk1]
    have e2 : rstV v ks sw = sw := by unfold rstV; rw [if_pos hk1]
    have hOT := hOw.2
    rw [e1, e2]
    refine G_aload_n dX5_restore_10 rfl rfl ?_
    refine G_getf fl_X5_16 dX5_restore_11 (by assumption) rfl ?_
    refine G_aload_n dX5_restore_14 rfl rfl ?_
    refine G_getf fl_X5_12 dX5_restore_15 (by assumption) rfl ?_
    refine G_callV (ci := 3) (as := [_]) (c_X3_copyFrom _ (x + 15) (x + 1) _ _ hXu hXn (by omega)) dX5_restore_18 ml_X5_36 cv_X3_copyFrom (by assumption) rfl rfl (Nat.le_of_ble_eq_true rfl) (Nat.le_of_ble_eq_true rfl) rfl (fun r h2 hp => ?_)
    obtain ⟨rfl, hF1, hb⟩ := hp
    have hX := hX.spare hF1 hb
    have hF := hF.tr (hF1.wide (show x ≤ x + 15 by omega) (show x + 15 + 14 ≤ x + 106 by omega))
    obtain ⟨hX0, hXn, hXu, hXw, hXh, hXs⟩ := id hX
    obtain ⟨hN0, hNb, hNw, hNs⟩ := id hXn
    obtain ⟨hNb0, hNb1, hNb2, hNb3, hNb4⟩ := id hNb
    obtain ⟨hNw0, hNw1, hNw2, hNw3, hNw4, hNw5, hNw6⟩ := id hNw
    have hU0 := hXu.1
    have hUw0 := hXu.2.2.1.1
    have hW0 := hXw.1
    have hH0 := hXh.1
    obtain ⟨hS0, hS1, hS2, hS3, hS4⟩ := id hXs
    refine G_aload_n dX5_restore_21 rfl rfl ?_
    refine G_getf fl_X5_12 dX5_restore_22 (by assumption) rfl ?_
    refine G_aload_n dX5_restore_25 rfl rfl ?_
    refine G_getf fl_X5_19 dX5_restore_26 (by assumption) rfl ?_
    refine G_callV (ci := 3) (as := [_]) (c_X3_copyFrom _ (x + 1) (x + 29) _ _ hXn hXw (by omega)) dX5_restore_29 ml_X5_36 cv_X3_copyFrom (by assumption) rfl rfl (Nat.le_of_ble_eq_true rfl) (Nat.le_of_ble_eq_true rfl) rfl (fun r h2 hp => ?_)
    obtain ⟨rfl, hF2, hb2⟩ := hp
    have hX := hX.now hF2 hb2
    have hF := hF.tr (hF2.wide (show x ≤ x + 1 by omega) (show x + 1 + 14 ≤ x + 106 by omega))
    obtain ⟨hX0, hXn, hXu, hXw, hXh, hXs⟩ := id hX
    obtain ⟨hN0, hNb, hNw, hNs⟩ := id hXn
    obtain ⟨hNb0, hNb1, hNb2, hNb3, hNb4⟩ := id hNb
    obtain ⟨hNw0, hNw1, hNw2, hNw3, hNw4, hNw5, hNw6⟩ := id hNw
    have hU0 := hXu.1
    have hUw0 := hXu.2.2.1.1
    have hW0 := hXw.1
    have hH0 := hXh.1
    obtain ⟨hS0, hS1, hS2, hS3, hS4⟩ := id hXs
    refine G_aload_n dX5_restore_32 rfl rfl ?_
    refine G_aload_n dX5_restore_33 rfl rfl ?_
    refine G_getf fl_X5_12 dX5_restore_34 (by assumption) rfl ?_
    refine G_getf fl_X5_131 dX5_restore_37 (by assumption) rfl ?_
    refine G_callV (ci := 5) (as := [_]) (c_X5_recorded _ x _ _ _ _ _ _ _ _ _ _ _ _ _ _ _ _ _ _ hX hsz (inR_of (by have := hOT; omega) (by have := hOT; omega))) dX5_restore_40 ml_X5_50 cv_X5_recorded (by assumption) rfl rfl (Nat.le_of_ble_eq_true rfl) (Nat.le_of_ble_eq_true rfl) rfl (fun r h2 hp => ?_)
    obtain ⟨rfl, hF3, ρ2, hX⟩ := hp
    have hF := hF.tr hF3
    refine G_ireturn dX5_restore_43 rfl ?_
    exact ⟨rfl, hF, _, _, _, _, _, _, _, _, _, _, hX, hq⟩
  · skip
    refine G_bipush dX5_restore_7 rfl ?_
    refine G_ireturn dX5_restore_9 rfl ?_
    have e1 : rstR ks sw = -5 := by unfold rstR; rw [if_neg (by omega)]
    have e2 : rstV v ks sw = v := by unfold rstV; rw [if_neg (by omega)]
    have e3 : hvA hv sz v (-5) = hv := by unfold hvA; rw [if_neg (by omega)]
    have e4 : szA sz (-5) = sz := by unfold szA; rw [if_neg (by omega)]
    rw [e1, e2, e3, e4]
    exact ⟨rfl, Fr.rf, hA⟩
set_option maxRecDepth 100000 in
set_option maxHeartbeats 4000000 in
theorem c_X5_cell (h : List PO) (x : Nat) (v : SV) (hv : Int → SV) (sz ks : Int) (sw : SV) (tx : Int → Int) (len sn se : Int) (c d : Int) (hA : clA h x v hv sz ks sw tx len sn se) (hI : INV v hv sz ks sw tx len) (hc : inR c) (hd : inR d) : PM 5 yX5_cell cX5_cell 3 (some .int) h [r_ x, i_ c, i_ d] (fun r0 h2 => r0 = some (i_ (cellR v c d)) ∧ Fr h h2 x (x + 106) ∧ clA h2 x (v) (hv) (sz) (ks) (sw) (tx) (len) (sn) (se)) := by
  refine PM_of_G RX5 [some (r_ x), some (i_ c), some (i_ d)] rfl (by decide +kernel) (Nat.le_of_ble_eq_true rfl) rfl ?_
  obtain ⟨u, ρ, ki, fi, s2, th, p, hst, n, e, hX, hq⟩ := id hA
  obtain ⟨⟨hV, hT⟩, hsz, hhv, hks, hx, hl⟩ := id hI
  obtain ⟨⟨hrd, hrs, hrh⟩, ⟨hs0, hs1, hs2⟩, ⟨hn, hf, hfa⟩, ⟨hc0, hr, hs, hz⟩, h49, hdi⟩ := id hV
  have hF : Fr h h x (x + 106) := Fr.rf
  obtain ⟨hX0, hXn, hXu, hXw, hXh, hXs⟩ := id hX
  obtain ⟨hN0, hNb, hNw, hNs⟩ := id hXn
  obtain ⟨hNb0, hNb1, hNb2, hNb3, hNb4⟩ := id hNb
  obtain ⟨hNw0, hNw1, hNw2, hNw3, hNw4, hNw5, hNw6⟩ := id hNw
  have hU0 := hXu.1
  have hUw0 := hXu.2.2.1.1
  have hW0 := hXw.1
  have hH0 := hXh.1
  obtain ⟨hS0, hS1, hS2, hS3, hS4⟩ := id hXs
  have hc1 := hc.1
  have hc2 := hc.2
  have hd1 := hd.1
  have hd2 := hd.2
  refine G_iload_n dX5_cell_0 rfl rfl ?_
  refine G_callS (as := [_]) (c_X5_isCell h c hc) dX5_cell_1 ml_X5_134 cs_X5_isCell rfl (Nat.le_of_ble_eq_true rfl) (Nat.le_of_ble_eq_true rfl) rfl (fun r h2 hp => ?_)
  obtain ⟨y1, rfl, rfl, hy1⟩ := hp
  refine G_if_ne (tgt := 9) dX5_cell_4 (by decide) (inR_of (by omega) (by omega)) (fun hc4 => ?_) (fun hc4 => ?_)
  · skip
    refine G_iload_n dX5_cell_9 rfl rfl ?_
    rcases (show (d < 0 ∨ 4 < d) ∨ d = 0 ∨ d = 1 ∨ d = 2 ∨ d = 3 ∨ d = 4 from by omega) with hsw | hsw | hsw | hsw | hsw | hsw
    · skip
      refine G_tblOut (tgt := 108) dX5_cell_10 (inR_of (by omega) (by omega)) hsw (by decide) ?_
      refine G_bipush dX5_cell_108 rfl ?_
      refine G_ireturn dX5_cell_110 rfl ?_
      have e9 : cellR v c d = -2 := by unfold cellR; rw [if_neg (by omega), if_neg (by omega), if_neg (by omega), if_neg (by omega), if_neg (by omega), if_neg (by omega)]
      rw [e9]
      exact ⟨rfl, Fr.rf, hA⟩
    · skip
      subst hsw
      refine G_tblIn (tgt := 44) dX5_cell_10 (inR_of (by omega) (by omega)) (by omega) (by omega) rfl (by decide) ?_
      refine G_aload_n dX5_cell_44 rfl rfl ?_
      refine G_getf fl_X5_12 dX5_cell_45 (by assumption) rfl ?_
      refine G_getf fl_X5_40 dX5_cell_48 (by assumption) rfl ?_
      refine G_getf fl_X5_137 dX5_cell_51 (by assumption) rfl ?_
      refine G_iload_n dX5_cell_54 rfl rfl ?_
      refine G_iald dX5_cell_55 (by assumption) (by omega) (by omega) (by decide) ?_
      refine G_ireturn dX5_cell_56 rfl ?_
      have e9 : cellR v c 0 = v 0 c := by unfold cellR; rw [if_neg (by omega), if_pos (by omega)]
      rw [e9]
      exact ⟨rfl, Fr.rf, hA⟩
    · skip
      subst hsw
      refine G_tblIn (tgt := 57) dX5_cell_10 (inR_of (by omega) (by omega)) (by omega) (by omega) rfl (by decide) ?_
      refine G_aload_n dX5_cell_57 rfl rfl ?_
      refine G_getf fl_X5_12 dX5_cell_58 (by assumption) rfl ?_
      refine G_getf fl_X5_40 dX5_cell_61 (by assumption) rfl ?_
      refine G_getf fl_X5_141 dX5_cell_64 (by assumption) rfl ?_
      refine G_iload_n dX5_cell_67 rfl rfl ?_
      refine G_iald dX5_cell_68 (by assumption) (by omega) (by omega) (by decide) ?_
      refine G_ireturn dX5_cell_69 rfl ?_
      have e9 : cellR v c 1 = v 1 c := by unfold cellR; rw [if_neg (by omega), if_neg (by omega), if_pos (by omega)]
      rw [e9]
      exact ⟨rfl, Fr.rf, hA⟩
    · skip
      subst hsw
      refine G_tblIn (tgt := 70) dX5_cell_10 (inR_of (by omega) (by omega)) (by omega) (by omega) rfl (by decide) ?_
      refine G_aload_n dX5_cell_70 rfl rfl ?_
      refine G_getf fl_X5_12 dX5_cell_71 (by assumption) rfl ?_
      refine G_getf fl_X5_40 dX5_cell_74 (by assumption) rfl ?_
      refine G_getf fl_X5_144 dX5_cell_77 (by assumption) rfl ?_
      refine G_iload_n dX5_cell_80 rfl rfl ?_
      refine G_iald dX5_cell_81 (by assumption) (by omega) (by omega) (by decide) ?_
      refine G_ireturn dX5_cell_82 rfl ?_
      have e9 : cellR v c 2 = v 2 c := by unfold cellR; rw [if_neg (by omega), if_neg (by omega), if_neg (by omega), if_pos (by omega)]
      rw [e9]
      exact ⟨rfl, Fr.rf, hA⟩
    · skip
      subst hsw
      refine G_tblIn (tgt := 83) dX5_cell_10 (inR_of (by omega) (by omega)) (by omega) (by omega) rfl (by decide) ?_
      refine G_aload_n dX5_cell_83 rfl rfl ?_
      refine G_getf fl_X5_12 dX5_cell_84 (by assumption) rfl ?_
      refine G_getf fl_X5_63 dX5_cell_87 (by assumption) rfl ?_
      refine G_iload_n dX5_cell_90 rfl rfl ?_
      refine G_callV (ci := 4) (as := [_]) (c_X4_beside h (x + 1 + 6) (v 4) (v 5) (v 6) (v 7) (v 8) (v 9) (v 11 0) c hNw hn hc0 hdi hc) dX5_cell_91 ml_X5_147 cv_X4_beside (by assumption) rfl rfl (Nat.le_of_ble_eq_true rfl) (Nat.le_of_ble_eq_true rfl) rfl (fun r h2 hp => ?_)
      obtain ⟨rfl, rfl⟩ := hp
      refine G_ireturn dX5_cell_94 rfl ?_
      have e9 : cellR v c 3 = besN (v 4) c (v 11 0).toNat := by unfold cellR; rw [if_neg (by omega), if_neg (by omega), if_neg (by omega), if_neg (by omega), if_pos (by omega)]
      rw [e9]
      exact ⟨rfl, Fr.rf, hA⟩
    · skip
      subst hsw
      refine G_tblIn (tgt := 95) dX5_cell_10 (inR_of (by omega) (by omega)) (by omega) (by omega) rfl (by decide) ?_
      refine G_aload_n dX5_cell_95 rfl rfl ?_
      refine G_getf fl_X5_12 dX5_cell_96 (by assumption) rfl ?_
      refine G_getf fl_X5_40 dX5_cell_99 (by assumption) rfl ?_
      refine G_getf fl_X5_150 dX5_cell_102 (by assumption) rfl ?_
      refine G_iload_n dX5_cell_105 rfl rfl ?_
      refine G_iald dX5_cell_106 (by assumption) (by omega) (by omega) (by decide) ?_
      refine G_ireturn dX5_cell_107 rfl ?_
      have e9 : cellR v c 4 = v 3 c := by unfold cellR; rw [if_neg (by omega), if_neg (by omega), if_neg (by omega), if_neg (by omega), if_neg (by omega), if_pos (by omega)]
      rw [e9]
      exact ⟨rfl, Fr.rf, hA⟩
  · skip
    refine G_iconst dX5_cell_7 ?_
    refine G_ireturn dX5_cell_8 rfl ?_
    have e9 : cellR v c d = -1 := by unfold cellR; rw [if_pos (by omega)]
    rw [e9]
    exact ⟨rfl, Fr.rf, hA⟩
set_option maxRecDepth 100000 in
set_option maxHeartbeats 4000000 in
theorem c_X5_well (h : List PO) (x : Nat) (v : SV) (hv : Int → SV) (sz ks : Int) (sw : SV) (tx : Int → Int) (len sn se : Int) (c d : Int) (hA : clA h x v hv sz ks sw tx len sn se) (hI : INV v hv sz ks sw tx len) (hc : inR c) (hd : inR d) : PM 5 yX5_well cX5_well 3 (some .int) h [r_ x, i_ c, i_ d] (fun r0 h2 => r0 = some (i_ (wellR v c d)) ∧ Fr h h2 x (x + 106) ∧ clA h2 x (v) (hv) (sz) (ks) (sw) (tx) (len) (sn) (se)) := by
  refine PM_of_G RX5 [some (r_ x), some (i_ c), some (i_ d)] rfl (by decide +kernel) (Nat.le_of_ble_eq_true rfl) rfl ?_
  obtain ⟨u, ρ, ki, fi, s2, th, p, hst, n, e, hX, hq⟩ := id hA
  obtain ⟨⟨hV, hT⟩, hsz, hhv, hks, hx, hl⟩ := id hI
  obtain ⟨⟨hrd, hrs, hrh⟩, ⟨hs0, hs1, hs2⟩, ⟨hn, hf, hfa⟩, ⟨hc0, hr, hs, hz⟩, h49, hdi⟩ := id hV
  have hF : Fr h h x (x + 106) := Fr.rf
  obtain ⟨hX0, hXn, hXu, hXw, hXh, hXs⟩ := id hX
  obtain ⟨hN0, hNb, hNw, hNs⟩ := id hXn
  obtain ⟨hNb0, hNb1, hNb2, hNb3, hNb4⟩ := id hNb
  obtain ⟨hNw0, hNw1, hNw2, hNw3, hNw4, hNw5, hNw6⟩ := id hNw
  have hU0 := hXu.1
  have hUw0 := hXu.2.2.1.1
  have hW0 := hXw.1
  have hH0 := hXh.1
  obtain ⟨hS0, hS1, hS2, hS3, hS4⟩ := id hXs
  refine G_aload_n dX5_well_0 rfl rfl ?_
  refine G_getf fl_X5_12 dX5_well_1 (by assumption) rfl ?_
  refine G_getf fl_X5_63 dX5_well_4 (by assumption) rfl ?_
  refine G_iload_n dX5_well_7 rfl rfl ?_
  refine G_iload_n dX5_well_8 rfl rfl ?_
  refine G_callV (ci := 4) (as := [_, _]) (c_X4_tell h (x + 1 + 6) (v 4) (v 5) (v 6) (v 7) (v 8) (v 9) (v 11 0) c d hNw hn hc0 hr hz hc hd) dX5_well_9 ml_X5_153 cv_X4_tell (by assumption) rfl rfl (Nat.le_of_ble_eq_true rfl) (Nat.le_of_ble_eq_true rfl) rfl (fun r h2 hp => ?_)
  obtain ⟨rfl, rfl⟩ := hp
  refine G_ireturn dX5_well_12 rfl ?_
  exact ⟨rfl, Fr.rf, hA⟩
set_option maxRecDepth 100000 in
set_option maxHeartbeats 4000000 in
theorem c_X5_reach (h : List PO) (x : Nat) (v : SV) (hv : Int → SV) (sz ks : Int) (sw : SV) (tx : Int → Int) (len sn se : Int) (hA : clA h x v hv sz ks sw tx len sn se) (hI : INV v hv sz ks sw tx len) : PM 5 yX5_reach cX5_reach 1 (some .int) h [r_ x] (fun r0 h2 => r0 = some (i_ (reachN (v 2) 40)) ∧ Fr h h2 x (x + 106) ∧ clA h2 x (v) (hv) (sz) (ks) (sw) (tx) (len) (sn) (se)) := by
  refine PM_of_G RX5 [some (r_ x)] rfl (by decide +kernel) (Nat.le_of_ble_eq_true rfl) rfl ?_
  obtain ⟨u, ρ, ki, fi, s2, th, p, hst, n, e, hX, hq⟩ := id hA
  obtain ⟨⟨hV, hT⟩, hsz, hhv, hks, hx, hl⟩ := id hI
  obtain ⟨⟨hrd, hrs, hrh⟩, ⟨hs0, hs1, hs2⟩, ⟨hn, hf, hfa⟩, ⟨hc0, hr, hs, hz⟩, h49, hdi⟩ := id hV
  have hF : Fr h h x (x + 106) := Fr.rf
  obtain ⟨hX0, hXn, hXu, hXw, hXh, hXs⟩ := id hX
  obtain ⟨hN0, hNb, hNw, hNs⟩ := id hXn
  obtain ⟨hNb0, hNb1, hNb2, hNb3, hNb4⟩ := id hNb
  obtain ⟨hNw0, hNw1, hNw2, hNw3, hNw4, hNw5, hNw6⟩ := id hNw
  have hU0 := hXu.1
  have hUw0 := hXu.2.2.1.1
  have hW0 := hXw.1
  have hH0 := hXh.1
  obtain ⟨hS0, hS1, hS2, hS3, hS4⟩ := id hXs
  refine G_aload_n dX5_reach_0 rfl rfl ?_
  refine G_getf fl_X5_12 dX5_reach_1 (by assumption) rfl ?_
  refine G_getf fl_X5_40 dX5_reach_4 (by assumption) rfl ?_
  refine G_callV (ci := 0) (as := []) (c_X0_greatestSaltCell h (x + 1 + 1) (v 0) (v 1) (v 2) (v 3) hNb hrh) dX5_reach_7 ml_X5_156 cv_X0_greatestSaltCell (by assumption) rfl rfl (Nat.le_of_ble_eq_true rfl) (Nat.le_of_ble_eq_true rfl) rfl (fun r h2 hp => ?_)
  obtain ⟨rfl, rfl⟩ := hp
  refine G_ireturn dX5_reach_10 rfl ?_
  exact ⟨rfl, Fr.rf, hA⟩
set_option maxRecDepth 100000 in
set_option maxHeartbeats 4000000 in
theorem c_X5_mark (h : List PO) (x : Nat) (v : SV) (hv : Int → SV) (sz ks : Int) (sw : SV) (tx : Int → Int) (len sn se : Int) (c d : Int) (hA : clA h x v hv sz ks sw tx len sn se) (hI : INV v hv sz ks sw tx len) (hc : inR c) (hd : inR d) : PM 7 yX5_mark cX5_mark 3 (some .int) h [r_ x, i_ c, i_ d] (fun r0 h2 => r0 = some (i_ (markR v c d)) ∧ Fr h h2 x (x + 106) ∧ clA h2 x (v) (hv) (sz) (ks) (sw) (tx) (len) (sn) (se)) := by
  refine PM_of_G RX5 [some (r_ x), some (i_ c), some (i_ d)] rfl (by decide +kernel) (Nat.le_of_ble_eq_true rfl) rfl ?_
  obtain ⟨u, ρ, ki, fi, s2, th, p, hst, n, e, hX, hq⟩ := id hA
  obtain ⟨⟨hV, hT⟩, hsz, hhv, hks, hx, hl⟩ := id hI
  obtain ⟨⟨hrd, hrs, hrh⟩, ⟨hs0, hs1, hs2⟩, ⟨hn, hf, hfa⟩, ⟨hc0, hr, hs, hz⟩, h49, hdi⟩ := id hV
  have hF : Fr h h x (x + 106) := Fr.rf
  obtain ⟨hX0, hXn, hXu, hXw, hXh, hXs⟩ := id hX
  obtain ⟨hN0, hNb, hNw, hNs⟩ := id hXn
  obtain ⟨hNb0, hNb1, hNb2, hNb3, hNb4⟩ := id hNb
  obtain ⟨hNw0, hNw1, hNw2, hNw3, hNw4, hNw5, hNw6⟩ := id hNw
  have hU0 := hXu.1
  have hUw0 := hXu.2.2.1.1
  have hW0 := hXw.1
  have hH0 := hXh.1
  obtain ⟨hS0, hS1, hS2, hS3, hS4⟩ := id hXs
  have hc1 := hc.1
  have hc2 := hc.2
  have hd1 := hd.1
  have hd2 := hd.2
  refine G_iload_n dX5_mark_0 rfl rfl ?_
  refine G_callS (as := [_]) (c_X5_isCell h c hc) dX5_mark_1 ml_X5_134 cs_X5_isCell rfl (Nat.le_of_ble_eq_true rfl) (Nat.le_of_ble_eq_true rfl) rfl (fun r h2 hp => ?_)
  obtain ⟨y1, rfl, rfl, hy1⟩ := hp
  refine G_if_ne (tgt := 9) dX5_mark_4 (by decide) (inR_of (by omega) (by omega)) (fun hc4 => ?_) (fun hc4 => ?_)
  · skip
    refine G_iload_n dX5_mark_9 rfl rfl ?_
    refine G_callS (as := [_]) (c_X5_isRise h d hd) dX5_mark_10 ml_X5_159 cs_X5_isRise rfl (Nat.le_of_ble_eq_true rfl) (Nat.le_of_ble_eq_true rfl) rfl (fun r h2 hp => ?_)
    obtain ⟨y2, rfl, rfl, hy2⟩ := hp
    refine G_if_ne (tgt := 19) dX5_mark_13 (by decide) (inR_of (by omega) (by omega)) (fun hc13 => ?_) (fun hc13 => ?_)
    · skip
      have hpu : -200 ≤ pushI v d ∧ pushI v d ≤ 200 := by unfold pushI; omega
      refine G_aload_n dX5_mark_19 rfl rfl ?_
      refine G_getf fl_X5_12 dX5_mark_20 (by assumption) rfl ?_
      refine G_getf fl_X5_40 dX5_mark_23 (by assumption) rfl ?_
      refine G_iload_n dX5_mark_26 rfl rfl ?_
      refine G_aload_n dX5_mark_27 rfl rfl ?_
      refine G_getf fl_X5_12 dX5_mark_28 (by assumption) rfl ?_
      refine G_iload_n dX5_mark_31 rfl rfl ?_
      refine G_callV (ci := 3) (as := [_]) (c_X3_pushOf h (x + 1) v d hXn) dX5_mark_32 ml_X5_162 cv_X3_pushOf (by assumption) rfl rfl (Nat.le_of_ble_eq_true rfl) (Nat.le_of_ble_eq_true rfl) rfl (fun r h2 hp => ?_)
      obtain ⟨rfl, rfl⟩ := hp
      refine G_aload_n dX5_mark_35 rfl rfl ?_
      refine G_getf fl_X5_12 dX5_mark_36 (by assumption) rfl ?_
      refine G_callV (ci := 3) (as := []) (c_X3_slope h (x + 1) v hXn) dX5_mark_39 ml_X5_165 cv_X3_slope (by assumption) rfl rfl (Nat.le_of_ble_eq_true rfl) (Nat.le_of_ble_eq_true rfl) rfl (fun r h2 hp => ?_)
      obtain ⟨rfl, rfl⟩ := hp
      refine G_callV (ci := 0) (as := [_, _, _]) (c_X0_markOf h (x + 1 + 1) (v 0) (v 1) (v 2) (v 3) c (pushI v d) (v 10 1) hNb hrd hrs (by omega) (by omega) hpu hs1) dX5_mark_42 ml_X5_168 cv_X0_markOf (by assumption) rfl rfl (Nat.le_of_ble_eq_true rfl) (Nat.le_of_ble_eq_true rfl) rfl (fun r h2 hp => ?_)
      obtain ⟨rfl, rfl⟩ := hp
      refine G_ireturn dX5_mark_45 rfl ?_
      have e9 : markR v c d = mkI (pushI v d) (v 10 1) (v 1) (v 0) c := by unfold markR; rw [if_neg (by omega), if_neg (by omega)]
      rw [e9]
      exact ⟨rfl, Fr.rf, hA⟩
    · skip
      refine G_bipush dX5_mark_16 rfl ?_
      refine G_ireturn dX5_mark_18 rfl ?_
      have e9 : markR v c d = -2 := by unfold markR; rw [if_neg (by omega), if_pos (by omega)]
      rw [e9]
      exact ⟨rfl, Fr.rf, hA⟩
  · skip
    refine G_iconst dX5_mark_7 ?_
    refine G_ireturn dX5_mark_8 rfl ?_
    have e9 : markR v c d = -1 := by unfold markR; rw [if_pos (by omega)]
    rw [e9]
    exact ⟨rfl, Fr.rf, hA⟩
set_option maxRecDepth 100000 in
set_option maxHeartbeats 4000000 in
theorem c_X5_reason (h : List PO) (x : Nat) (v : SV) (hv : Int → SV) (sz ks : Int) (sw : SV) (tx : Int → Int) (len sn se : Int) (c d : Int) (hA : clA h x v hv sz ks sw tx len sn se) (hI : INV v hv sz ks sw tx len) (hc : inR c) (hd : inR d) : PM 7 yX5_reason cX5_reason 3 (some .int) h [r_ x, i_ c, i_ d] (fun r0 h2 => r0 = some (i_ (whyR v c d)) ∧ Fr h h2 x (x + 106) ∧ clA h2 x (v) (hv) (sz) (ks) (sw) (tx) (len) (sn) (se)) := by
  refine PM_of_G RX5 [some (r_ x), some (i_ c), some (i_ d)] rfl (by decide +kernel) (Nat.le_of_ble_eq_true rfl) rfl ?_
  obtain ⟨u, ρ, ki, fi, s2, th, p, hst, n, e, hX, hq⟩ := id hA
  obtain ⟨⟨hV, hT⟩, hsz, hhv, hks, hx, hl⟩ := id hI
  obtain ⟨⟨hrd, hrs, hrh⟩, ⟨hs0, hs1, hs2⟩, ⟨hn, hf, hfa⟩, ⟨hc0, hr, hs, hz⟩, h49, hdi⟩ := id hV
  have hF : Fr h h x (x + 106) := Fr.rf
  obtain ⟨hX0, hXn, hXu, hXw, hXh, hXs⟩ := id hX
  obtain ⟨hN0, hNb, hNw, hNs⟩ := id hXn
  obtain ⟨hNb0, hNb1, hNb2, hNb3, hNb4⟩ := id hNb
  obtain ⟨hNw0, hNw1, hNw2, hNw3, hNw4, hNw5, hNw6⟩ := id hNw
  have hU0 := hXu.1
  have hUw0 := hXu.2.2.1.1
  have hW0 := hXw.1
  have hH0 := hXh.1
  obtain ⟨hS0, hS1, hS2, hS3, hS4⟩ := id hXs
  have hc1 := hc.1
  have hc2 := hc.2
  have hd1 := hd.1
  have hd2 := hd.2
  refine G_iload_n dX5_reason_0 rfl rfl ?_
  refine G_callS (as := [_]) (c_X5_isCell h c hc) dX5_reason_1 ml_X5_134 cs_X5_isCell rfl (Nat.le_of_ble_eq_true rfl) (Nat.le_of_ble_eq_true rfl) rfl (fun r h2 hp => ?_)
  obtain ⟨y1, rfl, rfl, hy1⟩ := hp
  refine G_if_ne (tgt := 9) dX5_reason_4 (by decide) (inR_of (by omega) (by omega)) (fun hc4 => ?_) (fun hc4 => ?_)
  · skip
    refine G_iload_n dX5_reason_9 rfl rfl ?_
    refine G_callS (as := [_]) (c_X5_isRise h d hd) dX5_reason_10 ml_X5_159 cs_X5_isRise rfl (Nat.le_of_ble_eq_true rfl) (Nat.le_of_ble_eq_true rfl) rfl (fun r h2 hp => ?_)
    obtain ⟨y2, rfl, rfl, hy2⟩ := hp
    refine G_if_ne (tgt := 19) dX5_reason_13 (by decide) (inR_of (by omega) (by omega)) (fun hc13 => ?_) (fun hc13 => ?_)
    · skip
      have hpu : -200 ≤ pushI v d ∧ pushI v d ≤ 200 := by unfold pushI; omega
      refine G_aload_n dX5_reason_19 rfl rfl ?_
      refine G_getf fl_X5_12 dX5_reason_20 (by assumption) rfl ?_
      refine G_getf fl_X5_40 dX5_reason_23 (by assumption) rfl ?_
      refine G_iload_n dX5_reason_26 rfl rfl ?_
      refine G_aload_n dX5_reason_27 rfl rfl ?_
      refine G_getf fl_X5_12 dX5_reason_28 (by assumption) rfl ?_
      refine G_iload_n dX5_reason_31 rfl rfl ?_
      refine G_callV (ci := 3) (as := [_]) (c_X3_pushOf h (x + 1) v d hXn) dX5_reason_32 ml_X5_162 cv_X3_pushOf (by assumption) rfl rfl (Nat.le_of_ble_eq_true rfl) (Nat.le_of_ble_eq_true rfl) rfl (fun r h2 hp => ?_)
      obtain ⟨rfl, rfl⟩ := hp
      refine G_aload_n dX5_reason_35 rfl rfl ?_
      refine G_getf fl_X5_12 dX5_reason_36 (by assumption) rfl ?_
      refine G_callV (ci := 3) (as := []) (c_X3_slope h (x + 1) v hXn) dX5_reason_39 ml_X5_165 cv_X3_slope (by assumption) rfl rfl (Nat.le_of_ble_eq_true rfl) (Nat.le_of_ble_eq_true rfl) rfl (fun r h2 hp => ?_)
      obtain ⟨rfl, rfl⟩ := hp
      refine G_callV (ci := 0) (as := [_, _, _]) (c_X0_reasonOf h (x + 1 + 1) (v 0) (v 1) (v 2) (v 3) c (pushI v d) (v 10 1) hNb hrd hrs (by omega) (by omega) hpu hs1) dX5_reason_42 ml_X5_175 cv_X0_reasonOf (by assumption) rfl rfl (Nat.le_of_ble_eq_true rfl) (Nat.le_of_ble_eq_true rfl) rfl (fun r h2 hp => ?_)
      obtain ⟨rfl, rfl⟩ := hp
      refine G_ireturn dX5_reason_45 rfl ?_
      have e9 : whyR v c d = reasonR (pushI v d) (v 10 1) (v 1) (v 0) c := by unfold whyR; rw [if_neg (by omega), if_neg (by omega)]
      rw [e9]
      exact ⟨rfl, Fr.rf, hA⟩
    · skip
      refine G_bipush dX5_reason_16 rfl ?_
      refine G_ireturn dX5_reason_18 rfl ?_
      have e9 : whyR v c d = -2 := by unfold whyR; rw [if_neg (by omega), if_pos (by omega)]
      rw [e9]
      exact ⟨rfl, Fr.rf, hA⟩
  · skip
    refine G_iconst dX5_reason_7 ?_
    refine G_ireturn dX5_reason_8 rfl ?_
    have e9 : whyR v c d = -1 := by unfold whyR; rw [if_pos (by omega)]
    rw [e9]
    exact ⟨rfl, Fr.rf, hA⟩
set_option maxRecDepth 100000 in
set_option maxHeartbeats 4000000 in
theorem c_X5_stopCell (h : List PO) (x : Nat) (v : SV) (hv : Int → SV) (sz ks : Int) (sw : SV) (tx : Int → Int) (len sn se : Int) (c : Int) (hA : clA h x v hv sz ks sw tx len sn se) (hI : INV v hv sz ks sw tx len) (hc : inR c) : PM 7 yX5_stopCell cX5_stopCell 3 (some .int) h [r_ x, i_ c] (fun r0 h2 => r0 = some (i_ (stopR v c)) ∧ Fr h h2 x (x + 106) ∧ clA h2 x (v) (hv) (sz) (ks) (sw) (tx) (len) (sn) (se)) := by
  refine PM_of_G RX5 [some (r_ x), some (i_ c), none] rfl (by decide +kernel) (Nat.le_of_ble_eq_true rfl) rfl ?_
  obtain ⟨u, ρ, ki, fi, s2, th, p, hst, n, e, hX, hq⟩ := id hA
  obtain ⟨⟨hV, hT⟩, hsz, hhv, hks, hx, hl⟩ := id hI
  obtain ⟨⟨hrd, hrs, hrh⟩, ⟨hs0, hs1, hs2⟩, ⟨hn, hf, hfa⟩, ⟨hc0, hr, hs, hz⟩, h49, hdi⟩ := id hV
  have hF : Fr h h x (x + 106) := Fr.rf
  obtain ⟨hX0, hXn, hXu, hXw, hXh, hXs⟩ := id hX
  obtain ⟨hN0, hNb, hNw, hNs⟩ := id hXn
  obtain ⟨hNb0, hNb1, hNb2, hNb3, hNb4⟩ := id hNb
  obtain ⟨hNw0, hNw1, hNw2, hNw3, hNw4, hNw5, hNw6⟩ := id hNw
  have hU0 := hXu.1
  have hUw0 := hXu.2.2.1.1
  have hW0 := hXw.1
  have hH0 := hXh.1
  obtain ⟨hS0, hS1, hS2, hS3, hS4⟩ := id hXs
  have hc1 := hc.1
  have hc2 := hc.2
  refine G_iload_n dX5_stopCell_0 rfl rfl ?_
  refine G_callS (as := [_]) (c_X5_isRise h c hc) dX5_stopCell_1 ml_X5_159 cs_X5_isRise rfl (Nat.le_of_ble_eq_true rfl) (Nat.le_of_ble_eq_true rfl) rfl (fun r h2 hp => ?_)
  obtain ⟨y2, rfl, rfl, hy2⟩ := hp
  refine G_if_ne (tgt := 10) dX5_stopCell_4 (by decide) (inR_of (by omega) (by omega)) (fun hc4 => ?_) (fun hc4 => ?_)
  · skip
    have hpu : -200 ≤ pushI v c ∧ pushI v c ≤ 200 := by unfold pushI; omega
    refine G_aload_n dX5_stopCell_10 rfl rfl ?_
    refine G_getf fl_X5_12 dX5_stopCell_11 (by assumption) rfl ?_
    refine G_getf fl_X5_40 dX5_stopCell_14 (by assumption) rfl ?_
    refine G_aload_n dX5_stopCell_17 rfl rfl ?_
    refine G_getf fl_X5_12 dX5_stopCell_18 (by assumption) rfl ?_
    refine G_iload_n dX5_stopCell_21 rfl rfl ?_
    refine G_callV (ci := 3) (as := [_]) (c_X3_pushOf h (x + 1) v c hXn) dX5_stopCell_22 ml_X5_162 cv_X3_pushOf (by assumption) rfl rfl (Nat.le_of_ble_eq_true rfl) (Nat.le_of_ble_eq_true rfl) rfl (fun r h2 hp => ?_)
    obtain ⟨rfl, rfl⟩ := hp
    refine G_aload_n dX5_stopCell_25 rfl rfl ?_
    refine G_getf fl_X5_12 dX5_stopCell_26 (by assumption) rfl ?_
    refine G_callV (ci := 3) (as := []) (c_X3_slope h (x + 1) v hXn) dX5_stopCell_29 ml_X5_165 cv_X3_slope (by assumption) rfl rfl (Nat.le_of_ble_eq_true rfl) (Nat.le_of_ble_eq_true rfl) rfl (fun r h2 hp => ?_)
    obtain ⟨rfl, rfl⟩ := hp
    refine G_callV (ci := 0) (as := [_, _]) (c_X0_stopOf h (x + 1 + 1) (v 0) (v 1) (v 2) (v 3) (pushI v c) (v 10 1) hNb hrd hrs hpu hs1) dX5_stopCell_32 ml_X5_172 cv_X0_stopOf (by assumption) rfl rfl (Nat.le_of_ble_eq_true rfl) (Nat.le_of_ble_eq_true rfl) rfl (fun r h2 hp => ?_)
    obtain ⟨rfl, rfl⟩ := hp
    have hsi := stI_is (pushI v c) (v 10 1) (v 1) (v 0)
    have hsi0 := hsi.1
    have hsi1 := hsi.2.1
    refine G_istore_n dX5_stopCell_35 rfl (by decide) rfl ?_
    refine G_iload_n dX5_stopCell_36 rfl rfl ?_
    refine G_bipush dX5_stopCell_37 rfl ?_
    refine G_icmp_ge (tgt := 46) dX5_stopCell_39 (by decide) (inR_of (by omega) (by omega)) (inR_of (by omega) (by omega)) (fun hc39 => ?_) (fun hc39 => ?_)
    · skip
      refine G_bipush dX5_stopCell_46 rfl ?_
      refine G_ireturn dX5_stopCell_48 rfl ?_
      first
        | (have e9 : stopR v c = -5 := by unfold stopR; rw [if_neg (by omega), if_neg (by omega)]
           rw [e9]
           exact ⟨rfl, Fr.rf, hA⟩)
        | (have e9 : stopR v c = stI (pushI v c) (v 10 1) (v 1) (v 0) := by unfold stopR; rw [if_neg (by omega), if_pos (by omega)]
           rw [e9]
           exact ⟨rfl, Fr.rf, hA⟩)
    · skip
      refine G_iload_n dX5_stopCell_42 rfl rfl ?_
      refine G_goto (tgt := 48) dX5_stopCell_43 (by decide) ?_
      refine G_ireturn dX5_stopCell_48 rfl ?_
      first
        | (have e9 : stopR v c = -5 := by unfold stopR; rw [if_neg (by omega), if_neg (by omega)]
           rw [e9]
           exact ⟨rfl, Fr.rf, hA⟩)
        | (have e9 : stopR v c = stI (pushI v c) (v 10 1) (v 1) (v 0) := by unfold stopR; rw [if_neg (by omega), if_pos (by omega)]
           rw [e9]
           exact ⟨rfl, Fr.rf, hA⟩)
  · skip
    refine G_bipush dX5_stopCell_7 rfl ?_
    refine G_ireturn dX5_stopCell_9 rfl ?_
    have e9 : stopR v c = -2 := by unfold stopR; rw [if_pos (by omega)]
    rw [e9]
    exact ⟨rfl, Fr.rf, hA⟩
set_option maxRecDepth 100000 in
set_option maxHeartbeats 4000000 in
theorem c_X5_leastFlow (h : List PO) (x : Nat) (v : SV) (hv : Int → SV) (sz ks : Int) (sw : SV) (tx : Int → Int) (len sn se : Int) (c d : Int) (hA : clA h x v hv sz ks sw tx len sn se) (hI : INV v hv sz ks sw tx len) (hc : inR c) (hd : inR d) : PM 7 yX5_leastFlow cX5_leastFlow 3 (some .int) h [r_ x, i_ c, i_ d] (fun r0 h2 => r0 = some (i_ (leastR v c d)) ∧ Fr h h2 x (x + 106) ∧ clA h2 x (v) (hv) (sz) (ks) (sw) (tx) (len) (sn) (se)) := by
  refine PM_of_G RX5 [some (r_ x), some (i_ c), some (i_ d)] rfl (by decide +kernel) (Nat.le_of_ble_eq_true rfl) rfl ?_
  obtain ⟨u, ρ, ki, fi, s2, th, p, hst, n, e, hX, hq⟩ := id hA
  obtain ⟨⟨hV, hT⟩, hsz, hhv, hks, hx, hl⟩ := id hI
  obtain ⟨⟨hrd, hrs, hrh⟩, ⟨hs0, hs1, hs2⟩, ⟨hn, hf, hfa⟩, ⟨hc0, hr, hs, hz⟩, h49, hdi⟩ := id hV
  have hF : Fr h h x (x + 106) := Fr.rf
  obtain ⟨hX0, hXn, hXu, hXw, hXh, hXs⟩ := id hX
  obtain ⟨hN0, hNb, hNw, hNs⟩ := id hXn
  obtain ⟨hNb0, hNb1, hNb2, hNb3, hNb4⟩ := id hNb
  obtain ⟨hNw0, hNw1, hNw2, hNw3, hNw4, hNw5, hNw6⟩ := id hNw
  have hU0 := hXu.1
  have hUw0 := hXu.2.2.1.1
  have hW0 := hXw.1
  have hH0 := hXh.1
  obtain ⟨hS0, hS1, hS2, hS3, hS4⟩ := id hXs
  have hc1 := hc.1
  have hc2 := hc.2
  have hd1 := hd.1
  have hd2 := hd.2
  refine G_iload_n dX5_leastFlow_0 rfl rfl ?_
  refine G_callS (as := [_]) (c_X5_isCell h c hc) dX5_leastFlow_1 ml_X5_134 cs_X5_isCell rfl (Nat.le_of_ble_eq_true rfl) (Nat.le_of_ble_eq_true rfl) rfl (fun r h2 hp => ?_)
  obtain ⟨y1, rfl, rfl, hy1⟩ := hp
  refine G_if_ne (tgt := 9) dX5_leastFlow_4 (by decide) (inR_of (by omega) (by omega)) (fun hc4 => ?_) (fun hc4 => ?_)
  · skip
    refine G_iload_n dX5_leastFlow_9 rfl rfl ?_
    refine G_callS (as := [_]) (c_X5_isRise h d hd) dX5_leastFlow_10 ml_X5_159 cs_X5_isRise rfl (Nat.le_of_ble_eq_true rfl) (Nat.le_of_ble_eq_true rfl) rfl (fun r h2 hp => ?_)
    obtain ⟨y2, rfl, rfl, hy2⟩ := hp
    refine G_if_ne (tgt := 19) dX5_leastFlow_13 (by decide) (inR_of (by omega) (by omega)) (fun hc13 => ?_) (fun hc13 => ?_)
    · skip
      refine G_aload_n dX5_leastFlow_19 rfl rfl ?_
      refine G_getf fl_X5_12 dX5_leastFlow_20 (by assumption) rfl ?_
      refine G_iload_n dX5_leastFlow_23 rfl rfl ?_
      refine G_iload_n dX5_leastFlow_24 rfl rfl ?_
      refine G_callV (ci := 3) (as := [_, _]) (c_X3_leastFlowFor h (x + 1) v c d hXn hV (by omega) (by omega) (by omega)) dX5_leastFlow_25 ml_X5_188 cv_X3_leastFlowFor (by assumption) rfl rfl (Nat.le_of_ble_eq_true rfl) (Nat.le_of_ble_eq_true rfl) rfl (fun r h2 hp => ?_)
      obtain ⟨rfl, rfl⟩ := hp
      refine G_ireturn dX5_leastFlow_28 rfl ?_
      have e9 : leastR v c d = lfN v c d 100 := by unfold leastR; rw [if_neg (by omega), if_neg (by omega)]
      rw [e9]
      exact ⟨rfl, Fr.rf, hA⟩
    · skip
      refine G_bipush dX5_leastFlow_16 rfl ?_
      refine G_ireturn dX5_leastFlow_18 rfl ?_
      have e9 : leastR v c d = -2 := by unfold leastR; rw [if_neg (by omega), if_pos (by omega)]
      rw [e9]
      exact ⟨rfl, Fr.rf, hA⟩
  · skip
    refine G_iconst dX5_leastFlow_7 ?_
    refine G_ireturn dX5_leastFlow_8 rfl ?_
    have e9 : leastR v c d = -1 := by unfold leastR; rw [if_pos (by omega)]
    rw [e9]
    exact ⟨rfl, Fr.rf, hA⟩
set_option maxRecDepth 100000 in
set_option maxHeartbeats 4000000 in
theorem c_X5_bestSill (h : List PO) (x : Nat) (v : SV) (hv : Int → SV) (sz ks : Int) (sw : SV) (tx : Int → Int) (len sn se : Int) (c d : Int) (hA : clA h x v hv sz ks sw tx len sn se) (hI : INV v hv sz ks sw tx len) (hc : inR c) (hd : inR d) : PM 7 yX5_bestSill cX5_bestSill 3 (some .int) h [r_ x, i_ c, i_ d] (fun r0 h2 => r0 = some (i_ (bestR v c d)) ∧ Fr h h2 x (x + 106) ∧ clA h2 x (v) (hv) (sz) (ks) (sw) (tx) (len) (sn) (se)) := by
  refine PM_of_G RX5 [some (r_ x), some (i_ c), some (i_ d)] rfl (by decide +kernel) (Nat.le_of_ble_eq_true rfl) rfl ?_
  obtain ⟨u, ρ, ki, fi, s2, th, p, hst, n, e, hX, hq⟩ := id hA
  obtain ⟨⟨hV, hT⟩, hsz, hhv, hks, hx, hl⟩ := id hI
  obtain ⟨⟨hrd, hrs, hrh⟩, ⟨hs0, hs1, hs2⟩, ⟨hn, hf, hfa⟩, ⟨hc0, hr, hs, hz⟩, h49, hdi⟩ := id hV
  have hF : Fr h h x (x + 106) := Fr.rf
  obtain ⟨hX0, hXn, hXu, hXw, hXh, hXs⟩ := id hX
  obtain ⟨hN0, hNb, hNw, hNs⟩ := id hXn
  obtain ⟨hNb0, hNb1, hNb2, hNb3, hNb4⟩ := id hNb
  obtain ⟨hNw0, hNw1, hNw2, hNw3, hNw4, hNw5, hNw6⟩ := id hNw
  have hU0 := hXu.1
  have hUw0 := hXu.2.2.1.1
  have hW0 := hXw.1
  have hH0 := hXh.1
  obtain ⟨hS0, hS1, hS2, hS3, hS4⟩ := id hXs
  have hc1 := hc.1
  have hc2 := hc.2
  have hd1 := hd.1
  have hd2 := hd.2
  refine G_iload_n dX5_bestSill_0 rfl rfl ?_
  refine G_iconst dX5_bestSill_1 ?_
  refine G_icmp_lt (tgt := 18) dX5_bestSill_2 (by decide) (inR_of (by omega) (by omega)) (inR_of (by omega) (by omega)) (fun hc2 => ?_) (fun hc2 => ?_)
  · skip
    refine G_bipush dX5_bestSill_18 rfl ?_
    refine G_ireturn dX5_bestSill_20 rfl ?_
    have e9 : bestR v c d = -2 := by unfold bestR; rw [if_pos (by omega)]
    rw [e9]
    exact ⟨rfl, Fr.rf, hA⟩
  · skip
    refine G_iload_n dX5_bestSill_5 rfl rfl ?_
    refine G_bipush dX5_bestSill_6 rfl ?_
    refine G_icmp_gt (tgt := 18) dX5_bestSill_8 (by decide) (inR_of (by omega) (by omega)) (inR_of (by omega) (by omega)) (fun hc8 => ?_) (fun hc8 => ?_)
    · skip
      refine G_bipush dX5_bestSill_18 rfl ?_
      refine G_ireturn dX5_bestSill_20 rfl ?_
      have e9 : bestR v c d = -2 := by unfold bestR; rw [if_pos (by omega)]
      rw [e9]
      exact ⟨rfl, Fr.rf, hA⟩
    · skip
      refine G_iload_n dX5_bestSill_11 rfl rfl ?_
      refine G_callS (as := [_]) (c_X5_isRise h d hd) dX5_bestSill_12 ml_X5_159 cs_X5_isRise rfl (Nat.le_of_ble_eq_true rfl) (Nat.le_of_ble_eq_true rfl) rfl (fun r h2 hp => ?_)
      obtain ⟨y2, rfl, rfl, hy2⟩ := hp
      refine G_if_ne (tgt := 21) dX5_bestSill_15 (by decide) (inR_of (by omega) (by omega)) (fun hc15 => ?_) (fun hc15 => ?_)
      · skip
        have hpu : -200 ≤ pushI v d ∧ pushI v d ≤ 200 := by unfold pushI; omega
        refine G_aload_n dX5_bestSill_21 rfl rfl ?_
        refine G_getf fl_X5_12 dX5_bestSill_22 (by assumption) rfl ?_
        refine G_getf fl_X5_40 dX5_bestSill_25 (by assumption) rfl ?_
        refine G_iload_n dX5_bestSill_28 rfl rfl ?_
        refine G_aload_n dX5_bestSill_29 rfl rfl ?_
        refine G_getf fl_X5_12 dX5_bestSill_30 (by assumption) rfl ?_
        refine G_iload_n dX5_bestSill_33 rfl rfl ?_
        refine G_callV (ci := 3) (as := [_]) (c_X3_pushOf h (x + 1) v d hXn) dX5_bestSill_34 ml_X5_162 cv_X3_pushOf (by assumption) rfl rfl (Nat.le_of_ble_eq_true rfl) (Nat.le_of_ble_eq_true rfl) rfl (fun r h2 hp => ?_)
        obtain ⟨rfl, rfl⟩ := hp
        refine G_aload_n dX5_bestSill_37 rfl rfl ?_
        refine G_getf fl_X5_12 dX5_bestSill_38 (by assumption) rfl ?_
        refine G_callV (ci := 3) (as := []) (c_X3_slope h (x + 1) v hXn) dX5_bestSill_41 ml_X5_165 cv_X3_slope (by assumption) rfl rfl (Nat.le_of_ble_eq_true rfl) (Nat.le_of_ble_eq_true rfl) rfl (fun r h2 hp => ?_)
        obtain ⟨rfl, rfl⟩ := hp
        refine G_callV (ci := 0) (as := [_, _, _]) (c_X0_bestCellFor h (x + 1 + 1) (v 0) (v 1) (v 2) (v 3) c (pushI v d) (v 10 1) hNb hrd hrs (by omega) hpu hs1) dX5_bestSill_44 ml_X5_191 cv_X0_bestCellFor (by assumption) rfl rfl (Nat.le_of_ble_eq_true rfl) (Nat.le_of_ble_eq_true rfl) rfl (fun r h2 hp => ?_)
        obtain ⟨rfl, rfl⟩ := hp
        refine G_ireturn dX5_bestSill_47 rfl ?_
        have e9 : bestR v c d = bsN (pushI v d) (v 10 1) (v 1) (v 0) c 40 := by unfold bestR; rw [if_neg (by omega)]
        rw [e9]
        exact ⟨rfl, Fr.rf, hA⟩
      · skip
        refine G_bipush dX5_bestSill_18 rfl ?_
        refine G_ireturn dX5_bestSill_20 rfl ?_
        have e9 : bestR v c d = -2 := by unfold bestR; rw [if_pos (by omega)]
        rw [e9]
        exact ⟨rfl, Fr.rf, hA⟩
set_option maxRecDepth 100000 in
set_option maxHeartbeats 4000000 in
theorem c_X5_count (h : List PO) (x : Nat) (v : SV) (hv : Int → SV) (sz ks : Int) (sw : SV) (tx : Int → Int) (len sn se : Int) (k : Int) (hA : clA h x v hv sz ks sw tx len sn se) (hI : INV v hv sz ks sw tx len) (hk : inR k) : PM 5 yX5_count cX5_count 2 (some .int) h [r_ x, i_ k] (fun r0 h2 => r0 = some (i_ (countR v sz len k)) ∧ Fr h h2 x (x + 106) ∧ clA h2 x (v) (hv) (sz) (ks) (sw) (tx) (len) (sn) (se)) := by
  refine PM_of_G RX5 [some (r_ x), some (i_ k)] rfl (by decide +kernel) (Nat.le_of_ble_eq_true rfl) rfl ?_
  obtain ⟨u, ρ, ki, fi, s2, th, p, hst, n, e, hX, hq⟩ := id hA
  obtain ⟨⟨hV, hT⟩, hsz, hhv, hks, hx, hl⟩ := id hI
  obtain ⟨⟨hrd, hrs, hrh⟩, ⟨hs0, hs1, hs2⟩, ⟨hn, hf, hfa⟩, ⟨hc0, hr, hs, hz⟩, h49, hdi⟩ := id hV
  have hF : Fr h h x (x + 106) := Fr.rf
  obtain ⟨hX0, hXn, hXu, hXw, hXh, hXs⟩ := id hX
  obtain ⟨hN0, hNb, hNw, hNs⟩ := id hXn
  obtain ⟨hNb0, hNb1, hNb2, hNb3, hNb4⟩ := id hNb
  obtain ⟨hNw0, hNw1, hNw2, hNw3, hNw4, hNw5, hNw6⟩ := id hNw
  have hU0 := hXu.1
  have hUw0 := hXu.2.2.1.1
  have hW0 := hXw.1
  have hH0 := hXh.1
  obtain ⟨hS0, hS1, hS2, hS3, hS4⟩ := id hXs
  have hk1 := hk.1
  have hk2 := hk.2
  refine G_iload_n dX5_count_0 rfl rfl ?_
  rcases (show (k < 0 ∨ 13 < k) ∨ k = 0 ∨ k = 1 ∨ k = 2 ∨ k = 3 ∨ k = 4 ∨ k = 5 ∨ k = 6 ∨ k = 7 ∨ k = 8 ∨ k = 9 ∨ k = 10 ∨ k = 11 ∨ k = 12 ∨ k = 13 from by omega) with hsw | hsw | hsw | hsw | hsw | hsw | hsw | hsw | hsw | hsw | hsw | hsw | hsw | hsw | hsw
  · skip
    refine G_tblOut (tgt := 238) dX5_count_1 (inR_of (by omega) (by omega)) hsw (by decide) ?_
    refine G_bipush dX5_count_238 rfl ?_
    refine G_ireturn dX5_count_240 rfl ?_
    have e9 : countR v sz len k = -2 := by unfold countR; rw [if_neg (by omega), if_neg (by omega), if_neg (by omega), if_neg (by omega), if_neg (by omega), if_neg (by omega), if_neg (by omega), if_neg (by omega), if_neg (by omega), if_neg (by omega), if_neg (by omega), if_neg (by omega), if_neg (by omega), if_neg (by omega)]
    rw [e9]
    exact ⟨rfl, Fr.rf, hA⟩
  · skip
    subst hsw
    refine G_tblIn (tgt := 72) dX5_count_1 (inR_of (by omega) (by omega)) (by omega) (by omega) rfl (by decide) ?_
    refine G_aload_n dX5_count_72 rfl rfl ?_
    refine G_getf fl_X5_12 dX5_count_73 (by assumption) rfl ?_
    refine G_getf fl_X5_131 dX5_count_76 (by assumption) rfl ?_
    refine G_ireturn dX5_count_79 rfl ?_
    have e9 : countR v sz len 0 = v 11 2 := by unfold countR; rw [if_pos (by omega)]
    rw [e9]
    exact ⟨rfl, Fr.rf, hA⟩
  · skip
    subst hsw
    refine G_tblIn (tgt := 80) dX5_count_1 (inR_of (by omega) (by omega)) (by omega) (by omega) rfl (by decide) ?_
    refine G_aload_n dX5_count_80 rfl rfl ?_
    refine G_getf fl_X5_12 dX5_count_81 (by assumption) rfl ?_
    refine G_getf fl_X5_194 dX5_count_84 (by assumption) rfl ?_
    refine G_ireturn dX5_count_87 rfl ?_
    have e9 : countR v sz len 1 = v 11 1 := by unfold countR; rw [if_neg (by omega), if_pos (by omega)]
    rw [e9]
    exact ⟨rfl, Fr.rf, hA⟩
  · skip
    subst hsw
    refine G_tblIn (tgt := 88) dX5_count_1 (inR_of (by omega) (by omega)) (by omega) (by omega) rfl (by decide) ?_
    refine G_aload_n dX5_count_88 rfl rfl ?_
    refine G_getf fl_X5_12 dX5_count_89 (by assumption) rfl ?_
    refine G_getf fl_X5_40 dX5_count_92 (by assumption) rfl ?_
    refine G_callV (ci := 0) (as := []) (c_X0_saltCells h (x + 1 + 1) (v 0) (v 1) (v 2) (v 3) hNb hrh) dX5_count_95 ml_X5_197 cv_X0_saltCells (by assumption) rfl rfl (Nat.le_of_ble_eq_true rfl) (Nat.le_of_ble_eq_true rfl) rfl (fun r h2 hp => ?_)
    obtain ⟨rfl, rfl⟩ := hp
    refine G_ireturn dX5_count_98 rfl ?_
    have e9 : countR v sz len 2 = sumN (wetI (v 2)) 40 := by unfold countR; rw [if_neg (by omega), if_neg (by omega), if_pos (by omega)]
    rw [e9]
    exact ⟨rfl, Fr.rf, hA⟩
  · skip
    subst hsw
    refine G_tblIn (tgt := 99) dX5_count_1 (inR_of (by omega) (by omega)) (by omega) (by omega) rfl (by decide) ?_
    refine G_aload_n dX5_count_99 rfl rfl ?_
    refine G_getf fl_X5_12 dX5_count_100 (by assumption) rfl ?_
    refine G_getf fl_X5_40 dX5_count_103 (by assumption) rfl ?_
    refine G_callV (ci := 0) (as := []) (c_X0_sumOfHeights h (x + 1 + 1) (v 0) (v 1) (v 2) (v 3) hNb) dX5_count_106 ml_X5_200 cv_X0_sumOfHeights (by assumption) rfl rfl (Nat.le_of_ble_eq_true rfl) (Nat.le_of_ble_eq_true rfl) rfl (fun r h2 hp => ?_)
    obtain ⟨rfl, rfl⟩ := hp
    refine G_ireturn dX5_count_109 rfl ?_
    have e9 : countR v sz len 3 = sumN (v 2) 40 := by unfold countR; rw [if_neg (by omega), if_neg (by omega), if_neg (by omega), if_pos (by omega)]
    rw [e9]
    exact ⟨rfl, Fr.rf, hA⟩
  · skip
    subst hsw
    refine G_tblIn (tgt := 110) dX5_count_1 (inR_of (by omega) (by omega)) (by omega) (by omega) rfl (by decide) ?_
    refine G_aload_n dX5_count_110 rfl rfl ?_
    refine G_getf fl_X5_12 dX5_count_111 (by assumption) rfl ?_
    refine G_getf fl_X5_63 dX5_count_114 (by assumption) rfl ?_
    refine G_getf fl_X5_203 dX5_count_117 (by assumption) rfl ?_
    refine G_ireturn dX5_count_120 rfl ?_
    have e9 : countR v sz len 4 = v 11 0 := by unfold countR; rw [if_neg (by omega), if_neg (by omega), if_neg (by omega), if_neg (by omega), if_pos (by omega)]
    rw [e9]
    exact ⟨rfl, Fr.rf, hA⟩
  · skip
    subst hsw
    refine G_tblIn (tgt := 121) dX5_count_1 (inR_of (by omega) (by omega)) (by omega) (by omega) rfl (by decide) ?_
    refine G_aload_n dX5_count_121 rfl rfl ?_
    refine G_getf fl_X5_12 dX5_count_122 (by assumption) rfl ?_
    refine G_getf fl_X5_63 dX5_count_125 (by assumption) rfl ?_
    refine G_aload_n dX5_count_128 rfl rfl ?_
    refine G_getf fl_X5_12 dX5_count_129 (by assumption) rfl ?_
    refine G_getf fl_X5_63 dX5_count_132 (by assumption) rfl ?_
    refine G_getf fl_X5_206 dX5_count_135 (by assumption) rfl ?_
    refine G_callV (ci := 4) (as := [_]) (c_X4_sumOf h (x + 1 + 6) (v 4) (v 5) (v 6) (v 7) (v 8) (v 9) (v 11 0) (x + 1 + 6 + 4) (v 7) hNw hn hNw4) dX5_count_138 ml_X5_209 cv_X4_sumOf (by assumption) rfl rfl (Nat.le_of_ble_eq_true rfl) (Nat.le_of_ble_eq_true rfl) rfl (fun r h2 hp => ?_)
    obtain ⟨rfl, rfl⟩ := hp
    refine G_ireturn dX5_count_141 rfl ?_
    have e9 : countR v sz len 5 = sumN (v 7) (v 11 0).toNat := by unfold countR; rw [if_neg (by omega), if_neg (by omega), if_neg (by omega), if_neg (by omega), if_neg (by omega), if_pos (by omega)]
    rw [e9]
    exact ⟨rfl, Fr.rf, hA⟩
  · skip
    subst hsw
    refine G_tblIn (tgt := 142) dX5_count_1 (inR_of (by omega) (by omega)) (by omega) (by omega) rfl (by decide) ?_
    refine G_aload_n dX5_count_142 rfl rfl ?_
    refine G_getf fl_X5_12 dX5_count_143 (by assumption) rfl ?_
    refine G_getf fl_X5_63 dX5_count_146 (by assumption) rfl ?_
    refine G_aload_n dX5_count_149 rfl rfl ?_
    refine G_getf fl_X5_12 dX5_count_150 (by assumption) rfl ?_
    refine G_getf fl_X5_63 dX5_count_153 (by assumption) rfl ?_
    refine G_getf fl_X5_213 dX5_count_156 (by assumption) rfl ?_
    refine G_callV (ci := 4) (as := [_]) (c_X4_sumOf h (x + 1 + 6) (v 4) (v 5) (v 6) (v 7) (v 8) (v 9) (v 11 0) (x + 1 + 6 + 3) (v 6) hNw hn hNw3) dX5_count_159 ml_X5_209 cv_X4_sumOf (by assumption) rfl rfl (Nat.le_of_ble_eq_true rfl) (Nat.le_of_ble_eq_true rfl) rfl (fun r h2 hp => ?_)
    obtain ⟨rfl, rfl⟩ := hp
    refine G_ireturn dX5_count_162 rfl ?_
    have e9 : countR v sz len 6 = sumN (v 6) (v 11 0).toNat := by unfold countR; rw [if_neg (by omega), if_neg (by omega), if_neg (by omega), if_neg (by omega), if_neg (by omega), if_neg (by omega), if_pos (by omega)]
    rw [e9]
    exact ⟨rfl, Fr.rf, hA⟩
  · skip
    subst hsw
    refine G_tblIn (tgt := 163) dX5_count_1 (inR_of (by omega) (by omega)) (by omega) (by omega) rfl (by decide) ?_
    refine G_aload_n dX5_count_163 rfl rfl ?_
    refine G_getf fl_X5_12 dX5_count_164 (by assumption) rfl ?_
    refine G_getf fl_X5_63 dX5_count_167 (by assumption) rfl ?_
    refine G_aload_n dX5_count_170 rfl rfl ?_
    refine G_getf fl_X5_12 dX5_count_171 (by assumption) rfl ?_
    refine G_getf fl_X5_63 dX5_count_174 (by assumption) rfl ?_
    refine G_getf fl_X5_216 dX5_count_177 (by assumption) rfl ?_
    refine G_callV (ci := 4) (as := [_]) (c_X4_sumOf h (x + 1 + 6) (v 4) (v 5) (v 6) (v 7) (v 8) (v 9) (v 11 0) (x + 1 + 6 + 5) (v 8) hNw hn hNw5) dX5_count_180 ml_X5_209 cv_X4_sumOf (by assumption) rfl rfl (Nat.le_of_ble_eq_true rfl) (Nat.le_of_ble_eq_true rfl) rfl (fun r h2 hp => ?_)
    obtain ⟨rfl, rfl⟩ := hp
    refine G_ireturn dX5_count_183 rfl ?_
    have e9 : countR v sz len 7 = sumN (v 8) (v 11 0).toNat := by unfold countR; rw [if_neg (by omega), if_neg (by omega), if_neg (by omega), if_neg (by omega), if_neg (by omega), if_neg (by omega), if_neg (by omega), if_pos (by omega)]
    rw [e9]
    exact ⟨rfl, Fr.rf, hA⟩
  · skip
    subst hsw
    refine G_tblIn (tgt := 184) dX5_count_1 (inR_of (by omega) (by omega)) (by omega) (by omega) rfl (by decide) ?_
    refine G_aload_n dX5_count_184 rfl rfl ?_
    refine G_getf fl_X5_12 dX5_count_185 (by assumption) rfl ?_
    refine G_getf fl_X5_219 dX5_count_188 (by assumption) rfl ?_
    refine G_ireturn dX5_count_191 rfl ?_
    have e9 : countR v sz len 8 = v 11 3 := by unfold countR; rw [if_neg (by omega), if_neg (by omega), if_neg (by omega), if_neg (by omega), if_neg (by omega), if_neg (by omega), if_neg (by omega), if_neg (by omega), if_pos (by omega)]
    rw [e9]
    exact ⟨rfl, Fr.rf, hA⟩
  · skip
    subst hsw
    refine G_tblIn (tgt := 192) dX5_count_1 (inR_of (by omega) (by omega)) (by omega) (by omega) rfl (by decide) ?_
    refine G_aload_n dX5_count_192 rfl rfl ?_
    refine G_getf fl_X5_12 dX5_count_193 (by assumption) rfl ?_
    refine G_getf fl_X5_222 dX5_count_196 (by assumption) rfl ?_
    refine G_iconst dX5_count_199 ?_
    refine G_iald dX5_count_200 (by assumption) (by omega) (by omega) (by decide) ?_
    refine G_ireturn dX5_count_201 rfl ?_
    have e9 : countR v sz len 9 = v 10 0 := by unfold countR; rw [if_neg (by omega), if_neg (by omega), if_neg (by omega), if_neg (by omega), if_neg (by omega), if_neg (by omega), if_neg (by omega), if_neg (by omega), if_neg (by omega), if_pos (by omega)]
    rw [e9]
    exact ⟨rfl, Fr.rf, hA⟩
  · skip
    subst hsw
    refine G_tblIn (tgt := 202) dX5_count_1 (inR_of (by omega) (by omega)) (by omega) (by omega) rfl (by decide) ?_
    refine G_aload_n dX5_count_202 rfl rfl ?_
    refine G_getf fl_X5_12 dX5_count_203 (by assumption) rfl ?_
    refine G_getf fl_X5_222 dX5_count_206 (by assumption) rfl ?_
    refine G_iconst dX5_count_209 ?_
    refine G_iald dX5_count_210 (by assumption) (by omega) (by omega) (by decide) ?_
    refine G_ireturn dX5_count_211 rfl ?_
    have e9 : countR v sz len 10 = v 10 1 := by unfold countR; rw [if_neg (by omega), if_neg (by omega), if_neg (by omega), if_neg (by omega), if_neg (by omega), if_neg (by omega), if_neg (by omega), if_neg (by omega), if_neg (by omega), if_neg (by omega), if_pos (by omega)]
    rw [e9]
    exact ⟨rfl, Fr.rf, hA⟩
  · skip
    subst hsw
    refine G_tblIn (tgt := 212) dX5_count_1 (inR_of (by omega) (by omega)) (by omega) (by omega) rfl (by decide) ?_
    refine G_aload_n dX5_count_212 rfl rfl ?_
    refine G_getf fl_X5_12 dX5_count_213 (by assumption) rfl ?_
    refine G_getf fl_X5_222 dX5_count_216 (by assumption) rfl ?_
    refine G_iconst dX5_count_219 ?_
    refine G_iald dX5_count_220 (by assumption) (by omega) (by omega) (by decide) ?_
    refine G_ireturn dX5_count_221 rfl ?_
    have e9 : countR v sz len 11 = v 10 2 := by unfold countR; rw [if_neg (by omega), if_neg (by omega), if_neg (by omega), if_neg (by omega), if_neg (by omega), if_neg (by omega), if_neg (by omega), if_neg (by omega), if_neg (by omega), if_neg (by omega), if_neg (by omega), if_pos (by omega)]
    rw [e9]
    exact ⟨rfl, Fr.rf, hA⟩
  · skip
    subst hsw
    refine G_tblIn (tgt := 222) dX5_count_1 (inR_of (by omega) (by omega)) (by omega) (by omega) rfl (by decide) ?_
    refine G_aload_n dX5_count_222 rfl rfl ?_
    refine G_getf fl_X5_25 dX5_count_223 (by assumption) rfl ?_
    refine G_getf fl_X5_125 dX5_count_226 (by assumption) rfl ?_
    refine G_ireturn dX5_count_229 rfl ?_
    have e9 : countR v sz len 12 = sz := by unfold countR; rw [if_neg (by omega), if_neg (by omega), if_neg (by omega), if_neg (by omega), if_neg (by omega), if_neg (by omega), if_neg (by omega), if_neg (by omega), if_neg (by omega), if_neg (by omega), if_neg (by omega), if_neg (by omega), if_pos (by omega)]
    rw [e9]
    exact ⟨rfl, Fr.rf, hA⟩
  · skip
    subst hsw
    refine G_tblIn (tgt := 230) dX5_count_1 (inR_of (by omega) (by omega)) (by omega) (by omega) rfl (by decide) ?_
    refine G_aload_n dX5_count_230 rfl rfl ?_
    refine G_getf fl_X5_32 dX5_count_231 (by assumption) rfl ?_
    refine G_getf fl_X5_225 dX5_count_234 (by assumption) rfl ?_
    refine G_ireturn dX5_count_237 rfl ?_
    have e9 : countR v sz len 13 = len := by unfold countR; rw [if_neg (by omega), if_neg (by omega), if_neg (by omega), if_neg (by omega), if_neg (by omega), if_neg (by omega), if_neg (by omega), if_neg (by omega), if_neg (by omega), if_neg (by omega), if_neg (by omega), if_neg (by omega), if_neg (by omega), if_pos (by omega)]
    rw [e9]
    exact ⟨rfl, Fr.rf, hA⟩
theorem itV_wells {v : SV} {rise : Int} : ∀ n : Nat, itV rise v n 11 0 = v 11 0 := by
  intro n
  induction n with
  | zero => rfl
  | succ n ih => exact ih
set_option maxRecDepth 100000 in
set_option maxHeartbeats 4000000 in
theorem c_X5_restsIn (h : List PO) (x : Nat) (v : SV) (hv : Int → SV) (sz ks : Int) (sw : SV) (tx : Int → Int) (len sn se : Int) (c d : Int) (hA : clA h x v hv sz ks sw tx len sn se) (hI : INV v hv sz ks sw tx len) (hc : inR c) (hd : inR d) : PM 7 yX5_restsIn cX5_restsIn 4 (some .int) h [r_ x, i_ c, i_ d] (fun r0 h2 => r0 = some (i_ (restR v c d)) ∧ Fr h h2 x (x + 106) ∧ clA h2 x (v) (hv) (sz) (ks) (sw) (tx) (len) (sn) (se)) := by
  refine PM_of_G RX5 [some (r_ x), some (i_ c), some (i_ d), none] rfl (by decide +kernel) (Nat.le_of_ble_eq_true rfl) rfl ?_
  obtain ⟨u, ρ, ki, fi, s2, th, p, hst, n, e, hX, hq⟩ := id hA
  obtain ⟨⟨hV, hT⟩, hsz, hhv, hks, hx, hl⟩ := id hI
  obtain ⟨⟨hrd, hrs, hrh⟩, ⟨hs0, hs1, hs2⟩, ⟨hn, hf, hfa⟩, ⟨hc0, hr, hs, hz⟩, h49, hdi⟩ := id hV
  have hF : Fr h h x (x + 106) := Fr.rf
  obtain ⟨hX0, hXn, hXu, hXw, hXh, hXs⟩ := id hX
  obtain ⟨hN0, hNb, hNw, hNs⟩ := id hXn
  obtain ⟨hNb0, hNb1, hNb2, hNb3, hNb4⟩ := id hNb
  obtain ⟨hNw0, hNw1, hNw2, hNw3, hNw4, hNw5, hNw6⟩ := id hNw
  have hU0 := hXu.1
  have hUw0 := hXu.2.2.1.1
  have hW0 := hXw.1
  have hH0 := hXh.1
  obtain ⟨hS0, hS1, hS2, hS3, hS4⟩ := id hXs
  have hc1 := hc.1
  have hc2 := hc.2
  have hd1 := hd.1
  have hd2 := hd.2
  refine G_aload_n dX5_restsIn_0 rfl rfl ?_
  refine G_getf fl_X5_12 dX5_restsIn_1 (by assumption) rfl ?_
  refine G_getf fl_X5_63 dX5_restsIn_4 (by assumption) rfl ?_
  refine G_iload_n dX5_restsIn_7 rfl rfl ?_
  refine G_callV (ci := 4) (as := [_]) (c_X4_has h (x + 1 + 6) (v 4) (v 5) (v 6) (v 7) (v 8) (v 9) (v 11 0) c hNw hn hc) dX5_restsIn_8 ml_X5_178 cv_X4_has (by assumption) rfl rfl (Nat.le_of_ble_eq_true rfl) (Nat.le_of_ble_eq_true rfl) rfl (fun r h2 hp => ?_)
  obtain ⟨y1, rfl, rfl, hy1⟩ := hp
  refine G_if_ne (tgt := 16) dX5_restsIn_11 (by decide) (inR_of (by omega) (by omega)) (fun hc11 => ?_) (fun hc11 => ?_)
  · skip
    refine G_iload_n dX5_restsIn_16 rfl rfl ?_
    refine G_callS (as := [_]) (c_X5_isRise h d hd) dX5_restsIn_17 ml_X5_159 cs_X5_isRise rfl (Nat.le_of_ble_eq_true rfl) (Nat.le_of_ble_eq_true rfl) rfl (fun r h2 hp => ?_)
    obtain ⟨y2, rfl, rfl, hy2⟩ := hp
    refine G_if_ne (tgt := 26) dX5_restsIn_20 (by decide) (inR_of (by omega) (by omega)) (fun hc20 => ?_) (fun hc20 => ?_)
    · skip
      refine G_aload_n dX5_restsIn_26 rfl rfl ?_
      refine G_getf fl_X5_12 dX5_restsIn_27 (by assumption) rfl ?_
      refine G_getf fl_X5_63 dX5_restsIn_30 (by assumption) rfl ?_
      refine G_iload_n dX5_restsIn_33 rfl rfl ?_
      refine G_callV (ci := 4) (as := [_]) (c_X4_isResting h (x + 1 + 6) (v 4) (v 5) (v 6) (v 7) (v 8) (v 9) (v 11 0) c hNw hn hz hc) dX5_restsIn_34 ml_X5_181 cv_X4_isResting (by assumption) rfl rfl (Nat.le_of_ble_eq_true rfl) (Nat.le_of_ble_eq_true rfl) rfl (fun r h2 hp => ?_)
      obtain ⟨y3, rfl, rfl, hy3⟩ := hp
      refine G_if_eq (tgt := 43) dX5_restsIn_37 (by decide) (inR_of (by omega) (by omega)) (fun hc37 => ?_) (fun hc37 => ?_)
      · skip
        have hy7 : v 7 c = 0 := by omega
        refine G_aload_n dX5_restsIn_43 rfl rfl ?_
        refine G_getf fl_X5_16 dX5_restsIn_44 (by assumption) rfl ?_
        refine G_aload_n dX5_restsIn_47 rfl rfl ?_
        refine G_getf fl_X5_12 dX5_restsIn_48 (by assumption) rfl ?_
        refine G_callV (ci := 3) (as := [_]) (c_X3_copyFrom _ (x + 15) (x + 1) _ _ hXu hXn (by omega)) dX5_restsIn_51 ml_X5_36 cv_X3_copyFrom (by assumption) rfl rfl (Nat.le_of_ble_eq_true rfl) (Nat.le_of_ble_eq_true rfl) rfl (fun r h2 hp => ?_)
        obtain ⟨rfl, hF1, hb⟩ := hp
        have hX := hX.spare hF1 hb
        have hF := hF.tr (hF1.wide (show x ≤ x + 15 by omega) (show x + 15 + 14 ≤ x + 106 by omega))
        obtain ⟨hX0, hXn, hXu, hXw, hXh, hXs⟩ := id hX
        obtain ⟨hN0, hNb, hNw, hNs⟩ := id hXn
        obtain ⟨hNb0, hNb1, hNb2, hNb3, hNb4⟩ := id hNb
        obtain ⟨hNw0, hNw1, hNw2, hNw3, hNw4, hNw5, hNw6⟩ := id hNw
        have hU0 := hXu.1
        have hUw0 := hXu.2.2.1.1
        have hW0 := hXw.1
        have hH0 := hXh.1
        obtain ⟨hS0, hS1, hS2, hS3, hS4⟩ := id hXs
        have hri : -30 ≤ d ∧ d ≤ 30 := by omega
        have hwe : 0 ≤ c ∧ c < v 11 0 := by omega
        have L : ∀ (fu : Nat) (i : Int) (hh : List PO), 1 ≤ i → i ≤ 301 → clF hh x v (itV d v (i - 1).toNat) sw ks ρ hv sz tx len ki fi s2 th p hst n e → Fr h hh x (x + 106) → restR v c d = riN v c d (301 - i).toNat → 301 - i < fu → G 7 cX5_restsIn RX5 4 (some .int) hh 56 [some (r_ x), some (i_ c), some (i_ d), some (i_ i)] [] (fun r0 h2 => r0 = some (i_ (restR v c d)) ∧ Fr h h2 x (x + 106) ∧ clA h2 x (v) (hv) (sz) (ks) (sw) (tx) (len) (sn) (se)) := by
          intro fu
          induction fu with
          | zero => intro i hh a1 a2 hX hF hst2 hmeas; exfalso; omega
          | succ fu ih =>
            intro i hh a1 a2 hX hF hst2 hmeas
            obtain ⟨hX0, hXn, hXu, hXw, hXh, hXs⟩ := id hX
            obtain ⟨hN0, hNb, hNw, hNs⟩ := id hXn
            obtain ⟨hNb0, hNb1, hNb2, hNb3, hNb4⟩ := id hNb
            obtain ⟨hNw0, hNw1, hNw2, hNw3, hNw4, hNw5, hNw6⟩ := id hNw
            have hU0 := hXu.1
            have hUw0 := hXu.2.2.1.1
            have hW0 := hXw.1
            have hH0 := hXh.1
            obtain ⟨hS0, hS1, hS2, hS3, hS4⟩ := id hXs
            refine G_iload_n dX5_restsIn_56 rfl rfl ?_
            refine G_sipush dX5_restsIn_57 rfl ?_
            refine G_icmp_gt (tgt := 93) dX5_restsIn_60 (by decide) (inR_of (by omega) (by omega)) (inR_of (by omega) (by omega)) (fun hc60 => ?_) (fun hc60 => ?_)
            · skip
              have e : i = 301 := by omega
              subst e
              refine G_bipush dX5_restsIn_93 rfl ?_
              refine G_ireturn dX5_restsIn_95 rfl ?_
              exact ⟨by rw [hst2]; rfl, hF, _, _, _, _, _, _, _, _, _, _, hX, hq⟩
            · skip
              refine G_aload_n dX5_restsIn_63 rfl rfl ?_
              refine G_getf fl_X5_16 dX5_restsIn_64 (by assumption) rfl ?_
              refine G_iload_n dX5_restsIn_67 rfl rfl ?_
              refine G_callV (ci := 3) (as := [_]) (c_X3_letOneTideCome hh (x + 15) (itV d v (i - 1).toNat) d hXu (hV.it _) (by omega)) dX5_restsIn_68 ml_X5_184 cv_X3_letOneTideCome (by assumption) rfl rfl (Nat.le_of_ble_eq_true rfl) (Nat.le_of_ble_eq_true rfl) rfl (fun r h2 hp => ?_)
              obtain ⟨rfl, hF1, hb⟩ := hp
              have hX := hX.spare hF1 hb
              have e : (i - 1).toNat + 1 = i.toNat := by omega
              have hz9 := (hV.it (rise := d) i.toNat).2.2.2.1.2.2.2 c
              have hn9 : itV d v i.toNat 11 0 = v 11 0 := itV_wells _
              obtain ⟨hX0, hXn, hXu, hXw, hXh, hXs⟩ := id hX
              obtain ⟨hN0, hNb, hNw, hNs⟩ := id hXn
              obtain ⟨hNb0, hNb1, hNb2, hNb3, hNb4⟩ := id hNb
              obtain ⟨hNw0, hNw1, hNw2, hNw3, hNw4, hNw5, hNw6⟩ := id hNw
              have hU0 := hXu.1
              have hUw0 := hXu.2.2.1.1
              have hW0 := hXw.1
              have hH0 := hXh.1
              obtain ⟨hS0, hS1, hS2, hS3, hS4⟩ := id hXs
              have hXu9 : stAt h2 (x + 15) (itV d v ((i - 1).toNat + 1)) := hXu
              rw [e] at hXu9
              have hU9 := hXu9.1
              have hUw9 := hXu9.2.2.1
              have hUw90 := hUw9.1
              refine G_aload_n dX5_restsIn_71 rfl rfl ?_
              refine G_getf fl_X5_16 dX5_restsIn_72 (by assumption) rfl ?_
              refine G_getf fl_X5_63 dX5_restsIn_75 (by assumption) rfl ?_
              refine G_iload_n dX5_restsIn_78 rfl rfl ?_
              refine G_callV (ci := 4) (as := [_]) (c_X4_isResting _ (x + 15 + 6) _ _ _ _ _ _ _ c hUw9 (hV.it (rise := d) i.toNat).2.2.1.1 (hV.it (rise := d) i.toNat).2.2.2.1.2.2.2 hc) dX5_restsIn_79 ml_X5_181 cv_X4_isResting (by assumption) rfl rfl (Nat.le_of_ble_eq_true rfl) (Nat.le_of_ble_eq_true rfl) rfl (fun r h2 hp => ?_)
              obtain ⟨y4, rfl, rfl, hy4⟩ := hp
              refine G_if_eq (tgt := 87) dX5_restsIn_82 (by decide) (inR_of (by omega) (by omega)) (fun hc82 => ?_) (fun hc82 => ?_)
              · skip
                refine G_iinc dX5_restsIn_87 (by decide) rfl rfl ?_
                refine G_goto (tgt := 56) dX5_restsIn_90 (by decide) ?_
                refine ih (i + 1) _ (by omega) (by omega) ?_ (hF.tr (hF1.wide (by omega) (by omega))) ?_ (by omega)
                · have e : (i + 1 - 1).toNat = (i - 1).toNat + 1 := by omega
                  rw [e]
                  exact hX
                · rw [hst2]
                  have e : (i - 1).toNat + 1 = i.toNat := by omega
                  have e4 := riN_s (v := v) (w := c) (r := d) (i := i.toNat) (by omega) (by omega)
                  have e5 : 301 - i.toNat = (301 - i).toNat := by omega
                  have e6 : 300 - i.toNat = (301 - (i + 1)).toNat := by omega
                  rw [e5, e6] at e4
                  rw [e4, if_neg (by omega)]
              · skip
                refine G_iload_n dX5_restsIn_85 rfl rfl ?_
                refine G_ireturn dX5_restsIn_86 rfl ?_
                refine ⟨?_, hF.tr (hF1.wide (by omega) (by omega)), _, _, _, _, _, _, _, _, _, _, hX, hq⟩
                rw [hst2]
                have e4 := riN_s (v := v) (w := c) (r := d) (i := i.toNat) (by omega) (by omega)
                have e5 : 301 - i.toNat = (301 - i).toNat := by omega
                rw [e5] at e4
                rw [e4, if_pos (by omega)]
                have e6 : ((i.toNat : Nat) : Int) = i := by omega
                rw [e6]
        refine G_iconst dX5_restsIn_54 ?_
        refine G_istore_n dX5_restsIn_55 rfl (by decide) rfl ?_
        refine L 301 1 _ (by omega) (by omega) hX hF ?_ (by omega)
        have e9 : restR v c d = riN v c d 300 := by unfold restR; rw [if_neg (by omega), if_neg (by omega), if_neg (by omega)]
        exact e9
      · skip
        refine G_bipush dX5_restsIn_40 rfl ?_
        refine G_ireturn dX5_restsIn_42 rfl ?_
        have e9 : restR v c d = -4 := by unfold restR; rw [if_neg (by omega), if_neg (by omega), if_pos (by omega)]
        rw [e9]
        exact ⟨rfl, Fr.rf, hA⟩
    · skip
      refine G_bipush dX5_restsIn_23 rfl ?_
      refine G_ireturn dX5_restsIn_25 rfl ?_
      have e9 : restR v c d = -2 := by unfold restR; rw [if_neg (by omega), if_pos (by omega)]
      rw [e9]
      exact ⟨rfl, Fr.rf, hA⟩
  · skip
    refine G_iconst dX5_restsIn_14 ?_
    refine G_ireturn dX5_restsIn_15 rfl ?_
    have e9 : restR v c d = -1 := by unfold restR; rw [if_pos (by omega)]
    rw [e9]
    exact ⟨rfl, Fr.rf, hA⟩
