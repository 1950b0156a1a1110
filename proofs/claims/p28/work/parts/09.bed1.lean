set_option maxRecDepth 100000 in
set_option maxHeartbeats 4000000 in
theorem c_X5_isCell (h : List PO) (c : Int) (hc : inR c)  : PM 0 yX5_isCell cX5_isCell 1 (some .boolean) h [i_ c] (fun r h2 => ∃ z : Int, r = some (i_ z) ∧ h = h2 ∧ (z = 1 ∧ 0 ≤ c ∧ c < 40 ∨ z = 0 ∧ (c < 0 ∨ 40 ≤ c))) := by
  refine PM_of_G RX5 [some (i_ c)] rfl (by decide +kernel) (Nat.le_of_ble_eq_true rfl) rfl ?_
  have hc1 := hc.1
  have hc2 := hc.2
  refine G_iload_n dX5_isCell_0 rfl rfl ?_
  refine G_if_lt (tgt := 14) dX5_isCell_1 (by decide) (inR_of (by omega) (by omega)) (fun hc1 => ?_) (fun hc1 => ?_)
  · skip
    refine G_iconst dX5_isCell_14 ?_
    refine G_zreturn dX5_isCell_15 rfl (by first | exact Or.inl rfl | exact Or.inr rfl) ?_
    exact ⟨_, rfl, rfl, by omega⟩
  · skip
    refine G_iload_n dX5_isCell_4 rfl rfl ?_
    refine G_bipush dX5_isCell_5 rfl ?_
    refine G_icmp_ge (tgt := 14) dX5_isCell_7 (by decide) (inR_of (by omega) (by omega)) (inR_of (by omega) (by omega)) (fun hc7 => ?_) (fun hc7 => ?_)
    · skip
      refine G_iconst dX5_isCell_14 ?_
      refine G_zreturn dX5_isCell_15 rfl (by first | exact Or.inl rfl | exact Or.inr rfl) ?_
      exact ⟨_, rfl, rfl, by omega⟩
    · skip
      refine G_iconst dX5_isCell_10 ?_
      refine G_goto (tgt := 15) dX5_isCell_11 (by decide) ?_
      refine G_zreturn dX5_isCell_15 rfl (by first | exact Or.inl rfl | exact Or.inr rfl) ?_
      exact ⟨_, rfl, rfl, by omega⟩
set_option maxRecDepth 100000 in
set_option maxHeartbeats 4000000 in
theorem c_X5_isRise (h : List PO) (c : Int) (hc : inR c)  : PM 0 yX5_isRise cX5_isRise 1 (some .boolean) h [i_ c] (fun r h2 => ∃ z : Int, r = some (i_ z) ∧ h = h2 ∧ (z = 1 ∧ -30 ≤ c ∧ c ≤ 30 ∨ z = 0 ∧ (c < -30 ∨ 30 < c))) := by
  refine PM_of_G RX5 [some (i_ c)] rfl (by decide +kernel) (Nat.le_of_ble_eq_true rfl) rfl ?_
  have hc1 := hc.1
  have hc2 := hc.2
  refine G_iload_n dX5_isRise_0 rfl rfl ?_
  refine G_bipush dX5_isRise_1 rfl ?_
  refine G_icmp_lt (tgt := 16) dX5_isRise_3 (by decide) (inR_of (by omega) (by omega)) (inR_of (by omega) (by omega)) (fun hc3 => ?_) (fun hc3 => ?_)
  · skip
    refine G_iconst dX5_isRise_16 ?_
    refine G_zreturn dX5_isRise_17 rfl (by first | exact Or.inl rfl | exact Or.inr rfl) ?_
    exact ⟨_, rfl, rfl, by omega⟩
  · skip
    refine G_iload_n dX5_isRise_6 rfl rfl ?_
    refine G_bipush dX5_isRise_7 rfl ?_
    refine G_icmp_gt (tgt := 16) dX5_isRise_9 (by decide) (inR_of (by omega) (by omega)) (inR_of (by omega) (by omega)) (fun hc9 => ?_) (fun hc9 => ?_)
    · skip
      refine G_iconst dX5_isRise_16 ?_
      refine G_zreturn dX5_isRise_17 rfl (by first | exact Or.inl rfl | exact Or.inr rfl) ?_
      exact ⟨_, rfl, rfl, by omega⟩
    · skip
      refine G_iconst dX5_isRise_12 ?_
      refine G_goto (tgt := 17) dX5_isRise_13 (by decide) ?_
      refine G_zreturn dX5_isRise_17 rfl (by first | exact Or.inl rfl | exact Or.inr rfl) ?_
      exact ⟨_, rfl, rfl, by omega⟩
set_option maxRecDepth 100000 in
set_option maxHeartbeats 4000000 in
theorem c_X0_markFrom (h : List PO) (b : Nat) (dep sil hei wet : Int → Int) (c x : Int) (hB : bedAt h b dep sil hei wet) (hrd : RG 1 60 40 dep) (hrs : RG 0 60 40 sil) (hc : inR c) (hx : inR x) : PM 1 yX0_markFrom cX0_markFrom 3 (some .int) h [r_ b, i_ c, i_ x] (fun r h2 => r = some (i_ (if 0 ≤ c ∧ c < 40 then mkf x (sil c) (dep c) else 0)) ∧ h = h2) := by
  refine PM_of_G RX0 [some (r_ b), some (i_ c), some (i_ x)] rfl (by decide +kernel) (Nat.le_of_ble_eq_true rfl) rfl ?_
  have hc1 := hc.1
  have hc2 := hc.2
  have hx1 := hx.1
  have hx2 := hx.2
  obtain ⟨hB0, hB1, hB2, hB3, hB4⟩ := hB
  refine G_iload_n dX0_markFrom_0 rfl rfl ?_
  refine G_callSN (as := [_]) (c_X5_isCell h c hc) dX0_markFrom_1 (fun _ _ E => E.2.1.1) cs_X5_isCell rfl (Nat.le_of_ble_eq_true rfl) (Nat.le_of_ble_eq_true rfl) rfl (fun r h2 hp => ?_)
  obtain ⟨z, rfl, rfl, hz⟩ := hp
  refine G_if_eq (tgt := 17) dX0_markFrom_4 (by decide) (inR_of (by omega) (by omega)) (fun hc4 => ?_) (fun hc4 => ?_)
  · skip
    refine G_iconst dX0_markFrom_17 ?_
    refine G_ireturn dX0_markFrom_18 rfl ?_
    refine ⟨?_, rfl⟩
    by_cases q : 0 ≤ c ∧ c < 40
    · rw [if_pos q, mkf_le (by omega)]
    · rw [if_neg q]
  · skip
    refine G_iload_n dX0_markFrom_7 rfl rfl ?_
    refine G_aload_n dX0_markFrom_8 rfl rfl ?_
    refine G_getf fl_X0_15 dX0_markFrom_9 (by assumption) rfl ?_
    refine G_iload_n dX0_markFrom_12 rfl rfl ?_
    refine G_ialdR dX0_markFrom_13 (by assumption) (by assumption) (by omega) (by omega) (by decide) (fun _ _ => ?_)
    refine G_icmp_gt (tgt := 19) dX0_markFrom_14 (by decide) (inR_of (by omega) (by omega)) (inR_of (by omega) (by omega)) (fun hc14 => ?_) (fun hc14 => ?_)
    · skip
      refine G_iload_n dX0_markFrom_19 rfl rfl ?_
      refine G_aload_n dX0_markFrom_20 rfl rfl ?_
      refine G_getf fl_X0_9 dX0_markFrom_21 (by assumption) rfl ?_
      refine G_iload_n dX0_markFrom_24 rfl rfl ?_
      refine G_ialdR dX0_markFrom_25 (by assumption) (by assumption) (by omega) (by omega) (by decide) (fun _ _ => ?_)
      refine G_min dX0_markFrom_26 mm_X0_40 (inR_of (by omega) (by omega)) (inR_of (by omega) (by omega)) (Nat.le_of_ble_eq_true rfl) (Nat.le_of_ble_eq_true rfl) ?_
      refine G_ireturn dX0_markFrom_29 rfl ?_
      refine ⟨?_, rfl⟩
      rw [if_pos (by omega), mkf_gt (by omega)]
    · skip
      refine G_iconst dX0_markFrom_17 ?_
      refine G_ireturn dX0_markFrom_18 rfl ?_
      refine ⟨?_, rfl⟩
      by_cases q : 0 ≤ c ∧ c < 40
      · rw [if_pos q, mkf_le (by omega)]
      · rw [if_neg q]
set_option maxHeartbeats 4000000 in
theorem c_X0_markFrom' (h : List PO) (b : Nat) (dep sil hei wet : Int → Int) (c x : Int) (hB : bedAt h b dep sil hei wet) (hrd : RG 1 60 40 dep) (hrs : RG 0 60 40 sil) (h0 : 0 ≤ c) (h1 : c < 40) (hx : -500 ≤ x ∧ x ≤ 500) : PM 1 yX0_markFrom cX0_markFrom 3 (some .int) h [r_ b, i_ c, i_ x] (fun r h2 => r = some (i_ (mkf x (sil c) (dep c))) ∧ h = h2) := by
  have k := c_X0_markFrom h b dep sil hei wet c x hB hrd hrs (inR_of (by omega) (by omega)) (inR_of (by omega) (by omega))
  rw [if_pos ⟨h0, h1⟩] at k
  exact k
set_option maxRecDepth 100000 in
set_option maxHeartbeats 4000000 in
theorem c_X0_offeredTo (h : List PO) (b : Nat) (dep sil hei wet : Int → Int) (c push slope : Int) (hB : bedAt h b dep sil hei wet) (hrd : RG 1 60 40 dep) (hrs : RG 0 60 40 sil) (h0 : 0 ≤ c) (h1 : c ≤ 40) (hp : -200 ≤ push ∧ push ≤ 200) (hl : 0 ≤ slope ∧ slope ≤ 9) : PM 2 yX0_offeredTo cX0_offeredTo 6 (some .int) h [r_ b, i_ c, i_ push, i_ slope] (fun r h2 => r = some (i_ (offI push slope sil dep c)) ∧ h = h2) := by
  refine PM_of_G RX0 [some (r_ b), some (i_ c), some (i_ push), some (i_ slope), none, none] rfl (by decide +kernel) (Nat.le_of_ble_eq_true rfl) rfl ?_
  obtain ⟨hB0, hB1, hB2, hB3, hB4⟩ := id hB
  have L : ∀ (n : Nat) (i : Int), 0 ≤ i → i ≤ c → c - i < n → G 2 cX0_offeredTo RX0 6 (some .int) h 6 [some (r_ b), some (i_ c), some (i_ push), some (i_ slope), some (i_ (offI push slope sil dep i)), some (i_ i)] [] (fun r h2 => r = some (i_ (offI push slope sil dep c)) ∧ h = h2) := by
    intro n
    induction n with
    | zero => intro i a1 a2 a3; exfalso; omega
    | succ n ih =>
      intro i a1 a2 a3
      have ho := offI_rng hp hl hrs hrd i a1 (by omega)
      refine G_iload dX0_offeredTo_6 rfl ?_
      refine G_iload_n dX0_offeredTo_8 rfl rfl ?_
      refine G_icmp_ge (tgt := 37) dX0_offeredTo_9 (by decide) (inR_of (by omega) (by omega)) (inR_of (by omega) (by omega)) (fun hc9 => ?_) (fun hc9 => ?_)
      · skip
        have e : i = c := by omega
        subst e
        refine G_iload dX0_offeredTo_37 rfl ?_
        refine G_ireturn dX0_offeredTo_39 rfl ?_
        exact ⟨rfl, rfl⟩
      · skip
        refine G_iload dX0_offeredTo_12 rfl ?_
        refine G_bipush dX0_offeredTo_14 rfl ?_
        refine G_icmp_ge (tgt := 37) dX0_offeredTo_16 (by decide) (inR_of (by omega) (by omega)) (inR_of (by omega) (by omega)) (fun hc16 => ?_) (fun hc16 => ?_)
        · skip
          exfalso; omega
        · skip
          refine G_aload_n dX0_offeredTo_19 rfl rfl ?_
          refine G_iload dX0_offeredTo_20 rfl ?_
          refine G_iload dX0_offeredTo_22 rfl ?_
          refine G_callV (ci := 0) (as := [_, _]) (c_X0_markFrom' h b dep sil hei wet i _ hB hrd hrs (by omega) (by omega) (by omega)) dX0_offeredTo_24 ml_X0_46 cv_X0_markFrom (by assumption) rfl rfl (Nat.le_of_ble_eq_true rfl) (Nat.le_of_ble_eq_true rfl) rfl (fun r h2 hp => ?_)
          obtain ⟨rfl, rfl⟩ := hp
          refine G_iload_n dX0_offeredTo_27 rfl rfl ?_
          refine G_isub dX0_offeredTo_28 ?_
          refine G_istore (lv2 := [some (r_ b), some (i_ c), some (i_ push), some (i_ slope), some (i_ (offI push slope sil dep (i + 1))), some (i_ i)]) dX0_offeredTo_29 (by decide) (by rw [offI_s _ _ _ _ a1]; rfl) ?_
          refine G_iinc dX0_offeredTo_31 (by decide) rfl rfl ?_
          refine G_goto (tgt := 6) dX0_offeredTo_34 (by decide) ?_
          exact ih (i + 1) (by omega) (by omega) (by omega)
  refine G_iload_n dX0_offeredTo_0 rfl rfl ?_
  refine G_istore dX0_offeredTo_1 (by decide) rfl ?_
  refine G_iconst dX0_offeredTo_3 ?_
  refine G_istore dX0_offeredTo_4 (by decide) rfl ?_
  exact L (c.toNat + 1) 0 (by omega) h0 (by omega)
