set_option maxRecDepth 100000 in
set_option maxHeartbeats 4000000 in
theorem c_X5_perform (h : List PO) (x : Nat) (v : SV) (hv : Int → SV) (sz ks : Int) (sw : SV) (tx : Int → Int) (len sn se : Int) (hA : clA h x v hv sz ks sw tx len sn se) (hI : INV v hv sz ks sw tx len) : PM 7 yX5_perform cX5_perform 3 (some .int) h [r_ x] (fun r0 h2 => ∃ (R : Int) (V : SV) (sn2 se2 : Int), PF v tx len sn se R V sn2 se2 ∧ r0 = some (i_ R) ∧ Fr h h2 x (x + 106) ∧ clA h2 x V (hvA hv sz v R) (szA sz R) ks sw tx len sn2 se2) := by
  refine PM_of_G RX5 [some (r_ x), none, none] rfl (by decide +kernel) (Nat.le_of_ble_eq_true rfl) rfl ?_
  obtain ⟨u, ρ, ki, fi, s2, th, p, hst, n, e, hX, hq⟩ := id hA
  obtain ⟨⟨hV, hT⟩, hsz, hhv, hks, hx, hl⟩ := id hI
  obtain ⟨⟨hrd, hrs, hrh⟩, ⟨hs0, hs1, hs2⟩, ⟨hn, hf, hfa⟩, ⟨hc0, hr, hs, hz⟩, h49, hdi⟩ := id hV
  have hF : Fr h h x (x + 106) := Fr.rf
  obtain ⟨hX0, hXn, hXu, hXw, hXh, hXs⟩ := id hX
  obtain ⟨hN0, hNb, hNw, hNs⟩ := id hXn
  obtain ⟨hNb0, hNb1, hNb2, hNb3, hNb4⟩ := id hNb
  obtain ⟨hNw0, hNw1, hNw2, hNw3, hNw4, hNw5, hNw6⟩ := id hNw
  have hU0 := hXu.1
  have hUw0 := hXu.2.2.1.1
  have hW0 := hXw.1
  have hH0 := hXh.1
  obtain ⟨hS0, hS1, hS2, hS3, hS4⟩ := id hXs
  refine G_aload_n dX5_perform_0 rfl rfl ?_
  refine G_getf fl_X5_32 dX5_perform_1 (by assumption) rfl ?_
  refine G_callV (ci := 2) (as := []) (c_X2_read h (x + 101) tx ki fi s2 len th p hXs hx hl) dX5_perform_4 ml_X5_89 cv_X2_read (by assumption) rfl rfl (Nat.le_of_ble_eq_true rfl) (Nat.le_of_ble_eq_true rfl) rfl (fun r h2 hp => ?_)
  obtain ⟨hF1, m, ki2, fi2, se2, th2, p2, hS9, hl3, hm, hrr⟩ := hp
  have hX := hX.scr hF1 hS9
  have hF := hF.tr (hF1.wide (show x ≤ x + 101 by omega) (show x + 101 + 5 ≤ x + 106 by omega))
  obtain ⟨hX0, hXn, hXu, hXw, hXh, hXs⟩ := id hX
  obtain ⟨hN0, hNb, hNw, hNs⟩ := id hXn
  obtain ⟨hNb0, hNb1, hNb2, hNb3, hNb4⟩ := id hNb
  obtain ⟨hNw0, hNw1, hNw2, hNw3, hNw4, hNw5, hNw6⟩ := id hNw
  have hU0 := hXu.1
  have hUw0 := hXu.2.2.1.1
  have hW0 := hXw.1
  have hH0 := hXh.1
  obtain ⟨hS0, hS1, hS2, hS3, hS4⟩ := id hXs
  rcases hrr with ⟨rfl, hen, rfl, hrw⟩ | ⟨rfl, hne, rfl⟩
  · skip
    refine G_if_ne (tgt := 21) dX5_perform_7 (by decide) (inR_of (by omega) (by omega)) (fun hc7 => ?_) (fun hc7 => ?_)
    · skip
      refine G_aload_n dX5_perform_21 rfl rfl ?_
      refine G_getf fl_X5_16 dX5_perform_22 (by assumption) rfl ?_
      refine G_aload_n dX5_perform_25 rfl rfl ?_
      refine G_getf fl_X5_12 dX5_perform_26 (by assumption) rfl ?_
      refine G_callV (ci := 3) (as := [_]) (c_X3_copyFrom _ (x + 15) (x + 1) _ _ hXu hXn (by omega)) dX5_perform_29 ml_X5_36 cv_X3_copyFrom (by assumption) rfl rfl (Nat.le_of_ble_eq_true rfl) (Nat.le_of_ble_eq_true rfl) rfl (fun r h2 hp => ?_)
      obtain ⟨rfl, hF1, hb⟩ := hp
      have hX := hX.spare hF1 hb
      have hF := hF.tr (hF1.wide (show x ≤ x + 15 by omega) (show x + 15 + 14 ≤ x + 106 by omega))
      obtain ⟨hX0, hXn, hXu, hXw, hXh, hXs⟩ := id hX
      obtain ⟨hN0, hNb, hNw, hNs⟩ := id hXn
      obtain ⟨hNb0, hNb1, hNb2, hNb3, hNb4⟩ := id hNb
      obtain ⟨hNw0, hNw1, hNw2, hNw3, hNw4, hNw5, hNw6⟩ := id hNw
      have hU0 := hXu.1
      have hUw0 := hXu.2.2.1.1
      have hW0 := hXw.1
      have hH0 := hXh.1
      obtain ⟨hS0, hS1, hS2, hS3, hS4⟩ := id hXs
      have hX : clF h2 x (ruV tx len v 0) v sw ks ρ hv sz tx len ki2 fi2 se2 (m + 1) p2 hst n e := hX
      have L : ∀ (fu : Nat) (k : Nat) (hh : List PO) (i : Int), i = k → k ≤ m + 1 → clF hh x (ruV tx len v k) v sw ks ρ hv sz tx len ki2 fi2 se2 (m + 1) p2 hst n e → Fr h hh x (x + 106) → (∀ j : Nat, j < k → ¬ erI (ruR tx len v j)) → (m : Int) + 1 - i < fu → G 7 cX5_perform RX5 3 (some .int) hh 34 [some (r_ x), some (i_ i), none] [] (fun r0 h2 => ∃ (R : Int) (V : SV) (sn2 se2 : Int), PF v tx len sn se R V sn2 se2 ∧ r0 = some (i_ R) ∧ Fr h h2 x (x + 106) ∧ clA h2 x V (hvA hv sz v R) (szA sz R) ks sw tx len sn2 se2) := by
        intro fu
        induction fu with
        | zero => intro k hh i hik a2 hX hF hno hmeas; exfalso; omega
        | succ fu ih =>
          intro k hh i hik a2 hX hF hno hmeas
          obtain ⟨hX0, hXn, hXu, hXw, hXh, hXs⟩ := id hX
          obtain ⟨hN0, hNb, hNw, hNs⟩ := id hXn
          obtain ⟨hNb0, hNb1, hNb2, hNb3, hNb4⟩ := id hNb
          obtain ⟨hNw0, hNw1, hNw2, hNw3, hNw4, hNw5, hNw6⟩ := id hNw
          have hU0 := hXu.1
          have hUw0 := hXu.2.2.1.1
          have hW0 := hXw.1
          have hH0 := hXh.1
          obtain ⟨hS0, hS1, hS2, hS3, hS4⟩ := id hXs
          refine G_iload_n dX5_perform_34 rfl rfl ?_
          refine G_aload_n dX5_perform_35 rfl rfl ?_
          refine G_getf fl_X5_32 dX5_perform_36 (by assumption) rfl ?_
          refine G_getf fl_X5_97 dX5_perform_39 (by assumption) rfl ?_
          refine G_icmp_ge (tgt := 90) dX5_perform_42 (by decide) (inR_of (by omega) (by omega)) (inR_of (by omega) (by omega)) (fun hc42 => ?_) (fun hc42 => ?_)
          · skip
            have hkm : k = m + 1 := by omega
            subst hkm
            refine G_aload_n dX5_perform_90 rfl rfl ?_
            refine G_aload_n dX5_perform_91 rfl rfl ?_
            refine G_getf fl_X5_32 dX5_perform_92 (by assumption) rfl ?_
            refine G_getf fl_X5_97 dX5_perform_95 (by assumption) rfl ?_
            refine G_callV (ci := 5) (as := [_]) (c_X5_recorded _ x _ _ _ _ _ _ _ _ _ _ _ _ _ _ _ _ _ _ hX hsz (inR_of (by omega) (by omega))) dX5_perform_98 ml_X5_50 cv_X5_recorded (by assumption) rfl rfl (Nat.le_of_ble_eq_true rfl) (Nat.le_of_ble_eq_true rfl) rfl (fun r h2 hp => ?_)
            obtain ⟨rfl, hF3, ρ2, hX⟩ := hp
            refine G_ireturn dX5_perform_101 rfl ?_
            refine ⟨m + 1, ruV tx len v (m + 1), sn, se, ⟨m, hl3, Or.inr (Or.inr ⟨hen, fun j hj => hno j (by omega), rfl, rfl, rfl, rfl⟩)⟩, rfl, hF.tr hF3, ?_⟩
            exact ⟨_, _, _, _, _, _, _, _, _, _, hX, hq⟩
          · skip
            have hkm : k ≤ m := by omega
            have hm20 := endP_lt hl hl3 hen
            have hrk := hrw k (by omega)
            have htk := (thP_ok (tx := tx) (len := len) (p := stP tx len k) (by have := stP_rng (tx := tx) (len := len) hl.1 k (fun j hj => hl3.1 j (by omega)); omega) (stP_rng (tx := tx) (len := len) hl.1 k (fun j hj => hl3.1 j (by omega))).2).2.2
            have ht1 : (thP tx len (stP tx len k)).1 = 1 := by
              by_cases e : k = m
              · rw [e]; exact hen.1
              · exact (hl3.1 k (by omega)).1
            refine G_iload_n dX5_perform_45 rfl rfl ?_
            refine G_bipush dX5_perform_46 rfl ?_
            refine G_icmp_ge (tgt := 90) dX5_perform_48 (by decide) (inR_of (by omega) (by omega)) (inR_of (by omega) (by omega)) (fun hc48 => ?_) (fun hc48 => ?_)
            · skip
              exfalso; omega
            · skip
              refine G_aload_n dX5_perform_51 rfl rfl ?_
              refine G_iload_n dX5_perform_52 rfl rfl ?_
              refine G_callV (ci := 5) (as := [_]) (c_X5_doThing hh x (ruV tx len v k) v sw ks ρ hv sz tx len ki2 fi2 se2 (m + 1) p2 hst n e i (thP tx len (stP tx len k)) hX (hI.1.ru k) (by omega) (by omega) (by omega) (by rw [hik]; exact hrk.1) (by rw [hik]; exact hrk.2.1) (by rw [hik]; exact hrk.2.2)) dX5_perform_53 ml_X5_100 cv_X5_doThing (by assumption) rfl rfl (Nat.le_of_ble_eq_true rfl) (Nat.le_of_ble_eq_true rfl) rfl (fun r h2 hp => ?_)
              obtain ⟨rfl, hF1, hX⟩ := hp
              have hdr := doR_rng (t := (thP tx len (stP tx len k))) (hI.1.ru (tx := tx) (len := len) k).1
              have hX : clF h2 x (ruV tx len v (k + 1)) v sw ks ρ hv sz tx len ki2 fi2 se2 (m + 1) p2 hst n e := hX
              obtain ⟨hX0, hXn, hXu, hXw, hXh, hXs⟩ := id hX
              obtain ⟨hN0, hNb, hNw, hNs⟩ := id hXn
              obtain ⟨hNb0, hNb1, hNb2, hNb3, hNb4⟩ := id hNb
              obtain ⟨hNw0, hNw1, hNw2, hNw3, hNw4, hNw5, hNw6⟩ := id hNw
              have hU0 := hXu.1
              have hUw0 := hXu.2.2.1.1
              have hW0 := hXw.1
              have hH0 := hXh.1
              obtain ⟨hS0, hS1, hS2, hS3, hS4⟩ := id hXs
              refine G_istore_n dX5_perform_56 rfl (by decide) rfl ?_
              refine G_iload_n dX5_perform_57 rfl rfl ?_
              refine G_callS (as := [_]) (c_X5_isError _ (doR (ruV tx len v k) (thP tx len (stP tx len k))) (inR_of (by omega) (by omega))) dX5_perform_58 ml_X5_103 cs_X5_isError rfl (Nat.le_of_ble_eq_true rfl) (Nat.le_of_ble_eq_true rfl) rfl (fun r h2 hp => ?_)
              obtain ⟨y, rfl, rfl, hy⟩ := hp
              refine G_if_eq (tgt := 84) dX5_perform_61 (by decide) (inR_of (by omega) (by omega)) (fun hc61 => ?_) (fun hc61 => ?_)
              · skip
                refine G_iinc dX5_perform_84 (by decide) rfl rfl ?_
                refine G_goto (tgt := 34) dX5_perform_87 (by decide) ?_
                refine G_forget 2 ?_
                refine ih (k + 1) _ (i + 1) (by omega) (by omega) hX (hF.tr hF1) ?_ (by omega)
                intro j hj
                by_cases e : j = k
                · rw [e]; unfold erI ruR; omega
                · exact hno j (by omega)
              · skip
                refine G_aload_n dX5_perform_64 rfl rfl ?_
                refine G_getf fl_X5_12 dX5_perform_65 (by assumption) rfl ?_
                refine G_aload_n dX5_perform_68 rfl rfl ?_
                refine G_getf fl_X5_16 dX5_perform_69 (by assumption) rfl ?_
                refine G_callV (ci := 3) (as := [_]) (c_X3_copyFrom _ (x + 1) (x + 15) _ _ hXn hXu (by omega)) dX5_perform_72 ml_X5_36 cv_X3_copyFrom (by assumption) rfl rfl (Nat.le_of_ble_eq_true rfl) (Nat.le_of_ble_eq_true rfl) rfl (fun r h2 hp => ?_)
                obtain ⟨rfl, hF2, hb2⟩ := hp
                have hX := hX.now hF2 hb2
                obtain ⟨hX0, hXn, hXu, hXw, hXh, hXs⟩ := id hX
                obtain ⟨hN0, hNb, hNw, hNs⟩ := id hXn
                obtain ⟨hNb0, hNb1, hNb2, hNb3, hNb4⟩ := id hNb
                obtain ⟨hNw0, hNw1, hNw2, hNw3, hNw4, hNw5, hNw6⟩ := id hNw
                have hU0 := hXu.1
                have hUw0 := hXu.2.2.1.1
                have hW0 := hXw.1
                have hH0 := hXh.1
                obtain ⟨hS0, hS1, hS2, hS3, hS4⟩ := id hXs
                refine G_aload_n dX5_perform_75 rfl rfl ?_
                refine G_iload_n dX5_perform_76 rfl rfl ?_
                refine G_iload_n dX5_perform_77 rfl rfl ?_
                refine G_callV (ci := 5) (as := [_, _]) (c_X5_noteStop _ x v v sw ks ρ hv sz tx len ki2 fi2 se2 (m + 1) p2 hst n e i (doR (ruV tx len v k) (thP tx len (stP tx len k))) hX) dX5_perform_78 ml_X5_107 cv_X5_noteStop (by assumption) rfl rfl (Nat.le_of_ble_eq_true rfl) (Nat.le_of_ble_eq_true rfl) rfl (fun r h2 hp => ?_)
                obtain ⟨rfl, hF3, hX⟩ := hp
                refine G_bipush dX5_perform_81 rfl ?_
                refine G_ireturn dX5_perform_83 rfl ?_
                refine ⟨-4, v, k, doR (ruV tx len v k) (thP tx len (stP tx len k)), ⟨m, hl3, Or.inr (Or.inl ⟨hen, k, hkm, hno, ?_, rfl, rfl, rfl, rfl⟩)⟩, rfl, ((hF.tr hF1).tr (hF2.wide (by omega) (by omega))).tr hF3, ?_⟩
                · unfold erI ruR; omega
                · have e3 : hvA hv sz v (-4) = hv := by unfold hvA; rw [if_neg (by omega)]
                  have e4 : szA sz (-4) = sz := by unfold szA; rw [if_neg (by omega)]
                  rw [e3, e4]
                  exact ⟨_, _, _, _, _, _, _, _, _, _, hX, Or.inr ⟨rfl, hik, rfl⟩⟩
      refine G_iconst dX5_perform_32 ?_
      refine G_istore_n dX5_perform_33 rfl (by decide) rfl ?_
      exact L (m + 3) 0 _ 0 rfl (by omega) hX hF (fun j hj => absurd hj (Nat.not_lt_zero j)) (by omega)
    · skip
      exfalso; omega
  · skip
    refine G_if_ne (tgt := 21) dX5_perform_7 (by decide) (inR_of (by omega) (by omega)) (fun hc7 => ?_) (fun hc7 => ?_)
    · skip
      exfalso; omega
    · skip
      refine G_bipush dX5_perform_10 rfl ?_
      refine G_aload_n dX5_perform_12 rfl rfl ?_
      refine G_getf fl_X5_32 dX5_perform_13 (by assumption) rfl ?_
      refine G_getf fl_X5_93 dX5_perform_16 (by assumption) rfl ?_
      refine G_isub dX5_perform_19 ?_
      refine G_ireturn dX5_perform_20 rfl ?_
      have hpr : 0 ≤ (thP tx len (stP tx len m)).2.1 := by
        have a1 := stP_rng (tx := tx) (len := len) hl.1 m hl3.1
        have a2 := thP_ok (tx := tx) (len := len) (p := stP tx len m) (by omega) a1.2
        unfold thOK2 at a2
        omega
      refine ⟨-100 - (thP tx len (stP tx len m)).2.1, v, sn, se, ⟨m, hl3, Or.inl ⟨hne, rfl, rfl, rfl, rfl⟩⟩, rfl, hF, ?_⟩
      have e3 : hvA hv sz v (-100 - (thP tx len (stP tx len m)).2.1) = hv := by unfold hvA; rw [if_neg (by omega)]
      have e4 : szA sz (-100 - (thP tx len (stP tx len m)).2.1) = sz := by unfold szA; rw [if_neg (by omega)]
      rw [e3, e4]
      exact ⟨_, _, _, _, _, _, _, _, _, _, hX, hq⟩
