set_option maxRecDepth 100000 in
set_option maxHeartbeats 4000000 in
theorem c_X0_markOf (h : List PO) (b : Nat) (dep sil hei wet : Int → Int) (c push slope : Int) (hB : bedAt h b dep sil hei wet) (hrd : RG 1 60 40 dep) (hrs : RG 0 60 40 sil) (h0 : 0 ≤ c) (h1 : c < 40) (hp : -200 ≤ push ∧ push ≤ 200) (hl : 0 ≤ slope ∧ slope ≤ 9) : PM 3 yX0_markOf cX0_markOf 4 (some .int) h [r_ b, i_ c, i_ push, i_ slope] (fun r h2 => r = some (i_ (mkI push slope sil dep c)) ∧ h = h2) := by
  refine PM_of_G RX0 [some (r_ b), some (i_ c), some (i_ push), some (i_ slope)] rfl (by decide +kernel) (Nat.le_of_ble_eq_true rfl) rfl ?_
  obtain ⟨hB0, hB1, hB2, hB3, hB4⟩ := id hB
  have ho := offI_rng hp hl hrs hrd c h0 (by omega)
  refine G_aload_n dX0_markOf_0 rfl rfl ?_
  refine G_iload_n dX0_markOf_1 rfl rfl ?_
  refine G_aload_n dX0_markOf_2 rfl rfl ?_
  refine G_iload_n dX0_markOf_3 rfl rfl ?_
  refine G_iload_n dX0_markOf_4 rfl rfl ?_
  refine G_iload_n dX0_markOf_5 rfl rfl ?_
  refine G_callV (ci := 0) (as := [_, _, _]) (c_X0_offeredTo h b dep sil hei wet c push slope hB hrd hrs h0 (by omega) hp hl) dX0_markOf_6 ml_X0_49 cv_X0_offeredTo (by assumption) rfl rfl (Nat.le_of_ble_eq_true rfl) (Nat.le_of_ble_eq_true rfl) rfl (fun r h2 hp => ?_)
  obtain ⟨rfl, rfl⟩ := hp
  refine G_callV (ci := 0) (as := [_, _]) (c_X0_markFrom' h b dep sil hei wet c _ hB hrd hrs h0 h1 (by omega)) dX0_markOf_9 ml_X0_46 cv_X0_markFrom (by assumption) rfl rfl (Nat.le_of_ble_eq_true rfl) (Nat.le_of_ble_eq_true rfl) rfl (fun r h2 hp => ?_)
  obtain ⟨rfl, rfl⟩ := hp
  refine G_ireturn dX0_markOf_12 rfl ?_
  exact ⟨rfl, rfl⟩
theorem stN_go {push slope : Int} {sil dep : Int → Int} {i : Int} (h0 : 0 ≤ i) (h1 : i < 40) (q : sil i < offI push slope sil dep i) : stN push slope sil dep (40 - i).toNat = stN push slope sil dep (40 - (i + 1)).toNat := by
  have e : (40 - i).toNat = (40 - (i + 1)).toNat + 1 := by omega
  have e2 : (39 : Int) - ((40 - (i + 1)).toNat : Nat) = i := by omega
  rw [e]
  show (if _ then _ else _) = _
  rw [e2, if_neg (by omega)]
theorem stN_hit {push slope : Int} {sil dep : Int → Int} {i : Int} (h0 : 0 ≤ i) (h1 : i < 40) (q : offI push slope sil dep i ≤ sil i) : stN push slope sil dep (40 - i).toNat = i := by
  have e : (40 - i).toNat = (40 - (i + 1)).toNat + 1 := by omega
  have e2 : (39 : Int) - ((40 - (i + 1)).toNat : Nat) = i := by omega
  rw [e]
  show (if _ then _ else _) = _
  rw [e2, if_pos q]
theorem bsN_step {push slope : Int} {sil dep : Int → Int} {k i : Int} (h0 : 0 ≤ i) (h1 : i < 40) : bsN push slope sil dep k (40 - i).toNat = if offI push slope sil dep i ≤ sil i then -5 else if offI push slope sil dep i ≤ k ∧ sil i < k ∧ k ≤ dep i then i else bsN push slope sil dep k (40 - (i + 1)).toNat := by
  have e : (40 - i).toNat = (40 - (i + 1)).toNat + 1 := by omega
  have e2 : (39 : Int) - ((40 - (i + 1)).toNat : Nat) = i := by omega
  rw [e]
  show (if _ then _ else _) = _
  rw [e2]
set_option maxRecDepth 100000 in
set_option maxHeartbeats 4000000 in
theorem c_X0_stopOf (h : List PO) (b : Nat) (dep sil hei wet : Int → Int) (push slope : Int) (hB : bedAt h b dep sil hei wet) (hrd : RG 1 60 40 dep) (hrs : RG 0 60 40 sil) (hp : -200 ≤ push ∧ push ≤ 200) (hl : 0 ≤ slope ∧ slope ≤ 9) : PM 3 yX0_stopOf cX0_stopOf 6 (some .int) h [r_ b, i_ push, i_ slope] (fun r h2 => r = some (i_ (stI push slope sil dep)) ∧ h = h2) := by
  refine PM_of_G RX0 [some (r_ b), some (i_ push), some (i_ slope), none, none, none] rfl (by decide +kernel) (Nat.le_of_ble_eq_true rfl) rfl ?_
  obtain ⟨hB0, hB1, hB2, hB3, hB4⟩ := id hB
  have L : ∀ (n : Nat) (i : Int), 0 ≤ i → i ≤ 40 → stI push slope sil dep = stN push slope sil dep (40 - i).toNat → 40 - i < n → G 3 cX0_stopOf RX0 6 (some .int) h 5 [some (r_ b), some (i_ push), some (i_ slope), some (i_ (offI push slope sil dep i)), some (i_ i), none] [] (fun r h2 => r = some (i_ (stI push slope sil dep)) ∧ h = h2) := by
    intro n
    induction n with
    | zero => intro i a1 a2 hst hmeas; exfalso; omega
    | succ n ih =>
      intro i a1 a2 hst hmeas
      have ho := offI_rng hp hl hrs hrd i a1 a2
      refine G_iload dX0_stopOf_5 rfl ?_
      refine G_bipush dX0_stopOf_7 rfl ?_
      refine G_icmp_ge (tgt := 40) dX0_stopOf_9 (by decide) (inR_of (by omega) (by omega)) (inR_of (by omega) (by omega)) (fun hc9 => ?_) (fun hc9 => ?_)
      · skip
        have e : i = 40 := by omega
        subst e
        refine G_bipush dX0_stopOf_40 rfl ?_
        refine G_ireturn dX0_stopOf_42 rfl ?_
        exact ⟨by rw [hst]; rfl, rfl⟩
      · skip
        refine G_aload_n dX0_stopOf_12 rfl rfl ?_
        refine G_iload dX0_stopOf_13 rfl ?_
        refine G_iload_n dX0_stopOf_15 rfl rfl ?_
        refine G_callV (ci := 0) (as := [_, _]) (c_X0_markFrom' h b dep sil hei wet i _ hB hrd hrs (by omega) (by omega) (by omega)) dX0_stopOf_16 ml_X0_46 cv_X0_markFrom (by assumption) rfl rfl (Nat.le_of_ble_eq_true rfl) (Nat.le_of_ble_eq_true rfl) rfl (fun r h2 hp => ?_)
        obtain ⟨rfl, rfl⟩ := hp
        have hmz := mkf_0 (o := offI push slope sil dep i) (hrs i (by omega) (by omega)).1 (hrd i (by omega) (by omega)).1
        have hmr := mkf_rng (o := offI push slope sil dep i) (hrs i (by omega) (by omega)).1 (hrd i (by omega) (by omega)).1
        have hmd := hrd i (by omega) (by omega)
        refine G_istore dX0_stopOf_19 (by decide) rfl ?_
        refine G_iload dX0_stopOf_21 rfl ?_
        refine G_if_ne (tgt := 29) dX0_stopOf_23 (by decide) (inR_of (by omega) (by omega)) (fun hc23 => ?_) (fun hc23 => ?_)
        · skip
          have hs16 : sil i < offI push slope sil dep i := by omega
          refine G_iload dX0_stopOf_29 rfl ?_
          refine G_iload_n dX0_stopOf_31 rfl rfl ?_
          refine G_isub dX0_stopOf_32 ?_
          refine G_istore_n (lv2 := [some (r_ b), some (i_ push), some (i_ slope), some (i_ (offI push slope sil dep (i + 1))), some (i_ i), some (i_ (mkf (offI push slope sil dep i) (sil i) (dep i)))]) dX0_stopOf_33 rfl (by decide) (by rw [offI_s _ _ _ _ a1]; rfl) ?_
          refine G_iinc dX0_stopOf_34 (by decide) rfl rfl ?_
          refine G_goto (tgt := 5) dX0_stopOf_37 (by decide) ?_
          refine G_forget 5 ?_
          exact ih (i + 1) (by omega) (by omega) (by rw [hst, stN_go a1 (by omega) hs16]) (by omega)
        · skip
          have hs16 : offI push slope sil dep i ≤ sil i := by omega
          refine G_iload dX0_stopOf_26 rfl ?_
          refine G_ireturn dX0_stopOf_28 rfl ?_
          exact ⟨by rw [hst, stN_hit a1 (by omega) hs16], rfl⟩
  refine G_iload_n dX0_stopOf_0 rfl rfl ?_
  refine G_istore_n dX0_stopOf_1 rfl (by decide) rfl ?_
  refine G_iconst dX0_stopOf_2 ?_
  refine G_istore dX0_stopOf_3 (by decide) rfl ?_
  exact L 41 0 (by omega) (by omega) rfl (by omega)
set_option maxRecDepth 100000 in
set_option maxHeartbeats 4000000 in
theorem c_X0_reasonOf (h : List PO) (b : Nat) (dep sil hei wet : Int → Int) (c push slope : Int) (hB : bedAt h b dep sil hei wet) (hrd : RG 1 60 40 dep) (hrs : RG 0 60 40 sil) (h0 : 0 ≤ c) (h1 : c < 40) (hp : -200 ≤ push ∧ push ≤ 200) (hl : 0 ≤ slope ∧ slope ≤ 9) : PM 4 yX0_reasonOf cX0_reasonOf 5 (some .int) h [r_ b, i_ c, i_ push, i_ slope] (fun r h2 => r = some (i_ (reasonR push slope sil dep c)) ∧ h = h2) := by
  refine PM_of_G RX0 [some (r_ b), some (i_ c), some (i_ push), some (i_ slope), none] rfl (by decide +kernel) (Nat.le_of_ble_eq_true rfl) rfl ?_
  obtain ⟨hB0, hB1, hB2, hB3, hB4⟩ := id hB
  have hs := stI_is push slope sil dep
  have hs1 := hs.1
  have hs2 := hs.2.1
  have ho := offI_rng hp hl hrs hrd (stI push slope sil dep) hs.1 hs.2.1
  refine G_aload_n dX0_reasonOf_0 rfl rfl ?_
  refine G_iload_n dX0_reasonOf_1 rfl rfl ?_
  refine G_iload_n dX0_reasonOf_2 rfl rfl ?_
  refine G_callV (ci := 0) (as := [_, _]) (c_X0_stopOf h b dep sil hei wet push slope hB hrd hrs hp hl) dX0_reasonOf_3 ml_X0_53 cv_X0_stopOf (by assumption) rfl rfl (Nat.le_of_ble_eq_true rfl) (Nat.le_of_ble_eq_true rfl) rfl (fun r h2 hp => ?_)
  obtain ⟨rfl, rfl⟩ := hp
  refine G_istore dX0_reasonOf_6 (by decide) rfl ?_
  refine G_iload_n dX0_reasonOf_8 rfl rfl ?_
  refine G_iload dX0_reasonOf_9 rfl ?_
  refine G_icmp_ge (tgt := 16) dX0_reasonOf_11 (by decide) (inR_of (by omega) (by omega)) (inR_of (by omega) (by omega)) (fun hc11 => ?_) (fun hc11 => ?_)
  · skip
    refine G_iload_n dX0_reasonOf_16 rfl rfl ?_
    refine G_if_gt (tgt := 22) dX0_reasonOf_17 (by decide) (inR_of (by omega) (by omega)) (fun hc17 => ?_) (fun hc17 => ?_)
    · skip
      refine G_aload_n dX0_reasonOf_22 rfl rfl ?_
      refine G_iload dX0_reasonOf_23 rfl ?_
      refine G_iload_n dX0_reasonOf_25 rfl rfl ?_
      refine G_iload_n dX0_reasonOf_26 rfl rfl ?_
      refine G_callV (ci := 0) (as := [_, _, _]) (c_X0_offeredTo h b dep sil hei wet _ push slope hB hrd hrs hs1 hs2 hp hl) dX0_reasonOf_27 ml_X0_49 cv_X0_offeredTo (by assumption) rfl rfl (Nat.le_of_ble_eq_true rfl) (Nat.le_of_ble_eq_true rfl) rfl (fun r h2 hp => ?_)
      obtain ⟨rfl, rfl⟩ := hp
      refine G_if_le (tgt := 37) dX0_reasonOf_30 (by decide) (inR_of (by omega) (by omega)) (fun hc30 => ?_) (fun hc30 => ?_)
      · skip
        refine G_iconst dX0_reasonOf_37 ?_
        refine G_ireturn dX0_reasonOf_38 rfl ?_
        exact ⟨by unfold reasonR; rw [if_neg (by omega), if_neg (by omega)]; first | rw [if_pos (by omega)] | rw [if_neg (by omega)], rfl⟩
      · skip
        refine G_iconst dX0_reasonOf_33 ?_
        refine G_goto (tgt := 38) dX0_reasonOf_34 (by decide) ?_
        refine G_ireturn dX0_reasonOf_38 rfl ?_
        exact ⟨by unfold reasonR; rw [if_neg (by omega), if_neg (by omega)]; first | rw [if_pos (by omega)] | rw [if_neg (by omega)], rfl⟩
    · skip
      refine G_iconst dX0_reasonOf_20 ?_
      refine G_ireturn dX0_reasonOf_21 rfl ?_
      exact ⟨by unfold reasonR; rw [if_neg (by omega), if_pos (by omega)], rfl⟩
  · skip
    refine G_iconst dX0_reasonOf_14 ?_
    refine G_ireturn dX0_reasonOf_15 rfl ?_
    exact ⟨by unfold reasonR; rw [if_pos (by omega)], rfl⟩
set_option maxRecDepth 100000 in
set_option maxHeartbeats 4000000 in
theorem c_X0_bestCellFor (h : List PO) (b : Nat) (dep sil hei wet : Int → Int) (k push slope : Int) (hB : bedAt h b dep sil hei wet) (hrd : RG 1 60 40 dep) (hrs : RG 0 60 40 sil) (hk : 1 ≤ k ∧ k ≤ 60) (hp : -200 ≤ push ∧ push ≤ 200) (hl : 0 ≤ slope ∧ slope ≤ 9) : PM 3 yX0_bestCellFor cX0_bestCellFor 7 (some .int) h [r_ b, i_ k, i_ push, i_ slope] (fun r h2 => r = some (i_ (bsN push slope sil dep k 40)) ∧ h = h2) := by
  refine PM_of_G RX0 [some (r_ b), some (i_ k), some (i_ push), some (i_ slope), none, none, none] rfl (by decide +kernel) (Nat.le_of_ble_eq_true rfl) rfl ?_
  obtain ⟨hB0, hB1, hB2, hB3, hB4⟩ := id hB
  have L : ∀ (n : Nat) (i : Int), 0 ≤ i → i ≤ 40 → bsN push slope sil dep k 40 = bsN push slope sil dep k (40 - i).toNat → 40 - i < n → G 3 cX0_bestCellFor RX0 7 (some .int) h 6 [some (r_ b), some (i_ k), some (i_ push), some (i_ slope), some (i_ (offI push slope sil dep i)), some (i_ i), none] [] (fun r h2 => r = some (i_ (bsN push slope sil dep k 40)) ∧ h = h2) := by
    intro n
    induction n with
    | zero => intro i a1 a2 hst hmeas; exfalso; omega
    | succ n ih =>
      intro i a1 a2 hst hmeas
      have ho := offI_rng hp hl hrs hrd i a1 a2
      refine G_iload dX0_bestCellFor_6 rfl ?_
      refine G_bipush dX0_bestCellFor_8 rfl ?_
      refine G_icmp_ge (tgt := 74) dX0_bestCellFor_10 (by decide) (inR_of (by omega) (by omega)) (inR_of (by omega) (by omega)) (fun hc10 => ?_) (fun hc10 => ?_)
      · skip
        have e : i = 40 := by omega
        subst e
        refine G_bipush dX0_bestCellFor_74 rfl ?_
        refine G_ireturn dX0_bestCellFor_76 rfl ?_
        exact ⟨by rw [hst]; rfl, rfl⟩
      · skip
        refine G_aload_n dX0_bestCellFor_13 rfl rfl ?_
        refine G_iload dX0_bestCellFor_14 rfl ?_
        refine G_iload dX0_bestCellFor_16 rfl ?_
        refine G_callV (ci := 0) (as := [_, _]) (c_X0_markFrom' h b dep sil hei wet i _ hB hrd hrs (by omega) (by omega) (by omega)) dX0_bestCellFor_18 ml_X0_46 cv_X0_markFrom (by assumption) rfl rfl (Nat.le_of_ble_eq_true rfl) (Nat.le_of_ble_eq_true rfl) rfl (fun r h2 hp => ?_)
        obtain ⟨rfl, rfl⟩ := hp
        have hmd := hrd i (by omega) (by omega)
        have hms := hrs i (by omega) (by omega)
        have hmz := mkf_0 (o := offI push slope sil dep i) hms.1 hmd.1
        have hmr := mkf_rng (o := offI push slope sil dep i) hms.1 hmd.1
        refine G_istore dX0_bestCellFor_21 (by decide) rfl ?_
        refine G_iload dX0_bestCellFor_23 rfl ?_
        refine G_if_ne (tgt := 31) dX0_bestCellFor_25 (by decide) (inR_of (by omega) (by omega)) (fun hc25 => ?_) (fun hc25 => ?_)
        · skip
          refine G_iload dX0_bestCellFor_31 rfl ?_
          refine G_iload_n dX0_bestCellFor_33 rfl rfl ?_
          refine G_icmp_gt (tgt := 62) dX0_bestCellFor_34 (by decide) (inR_of (by omega) (by omega)) (inR_of (by omega) (by omega)) (fun hc34 => ?_) (fun hc34 => ?_)
          · skip
            refine G_iload dX0_bestCellFor_62 rfl ?_
            refine G_iload_n dX0_bestCellFor_64 rfl rfl ?_
            refine G_isub dX0_bestCellFor_65 ?_
            refine G_istore (lv2 := [some (r_ b), some (i_ k), some (i_ push), some (i_ slope), some (i_ (offI push slope sil dep (i + 1))), some (i_ i), some (i_ (mkf (offI push slope sil dep i) (sil i) (dep i)))]) dX0_bestCellFor_66 (by decide) (by rw [offI_s _ _ _ _ a1]; rfl) ?_
            refine G_iinc dX0_bestCellFor_68 (by decide) rfl rfl ?_
            refine G_goto (tgt := 6) dX0_bestCellFor_71 (by decide) ?_
            refine G_forget 6 ?_
            exact ih (i + 1) (by omega) (by omega) (by rw [hst, bsN_step a1 (by omega), if_neg (by omega), if_neg (by omega)]) (by omega)
          · skip
            refine G_aload_n dX0_bestCellFor_37 rfl rfl ?_
            refine G_getf fl_X0_15 dX0_bestCellFor_38 (by assumption) rfl ?_
            refine G_iload dX0_bestCellFor_41 rfl ?_
            refine G_iald dX0_bestCellFor_43 (by assumption) (by omega) (by omega) (by decide) ?_
            refine G_iload_n dX0_bestCellFor_44 rfl rfl ?_
            refine G_icmp_ge (tgt := 62) dX0_bestCellFor_45 (by decide) (inR_of (by omega) (by omega)) (inR_of (by omega) (by omega)) (fun hc45 => ?_) (fun hc45 => ?_)
            · skip
              refine G_iload dX0_bestCellFor_62 rfl ?_
              refine G_iload_n dX0_bestCellFor_64 rfl rfl ?_
              refine G_isub dX0_bestCellFor_65 ?_
              refine G_istore (lv2 := [some (r_ b), some (i_ k), some (i_ push), some (i_ slope), some (i_ (offI push slope sil dep (i + 1))), some (i_ i), some (i_ (mkf (offI push slope sil dep i) (sil i) (dep i)))]) dX0_bestCellFor_66 (by decide) (by rw [offI_s _ _ _ _ a1]; rfl) ?_
              refine G_iinc dX0_bestCellFor_68 (by decide) rfl rfl ?_
              refine G_goto (tgt := 6) dX0_bestCellFor_71 (by decide) ?_
              refine G_forget 6 ?_
              exact ih (i + 1) (by omega) (by omega) (by rw [hst, bsN_step a1 (by omega), if_neg (by omega), if_neg (by omega)]) (by omega)
            · skip
              refine G_aload_n dX0_bestCellFor_48 rfl rfl ?_
              refine G_getf fl_X0_9 dX0_bestCellFor_49 (by assumption) rfl ?_
              refine G_iload dX0_bestCellFor_52 rfl ?_
              refine G_iald dX0_bestCellFor_54 (by assumption) (by omega) (by omega) (by decide) ?_
              refine G_iload_n dX0_bestCellFor_55 rfl rfl ?_
              refine G_icmp_lt (tgt := 62) dX0_bestCellFor_56 (by decide) (inR_of (by omega) (by omega)) (inR_of (by omega) (by omega)) (fun hc56 => ?_) (fun hc56 => ?_)
              · skip
                refine G_iload dX0_bestCellFor_62 rfl ?_
                refine G_iload_n dX0_bestCellFor_64 rfl rfl ?_
                refine G_isub dX0_bestCellFor_65 ?_
                refine G_istore (lv2 := [some (r_ b), some (i_ k), some (i_ push), some (i_ slope), some (i_ (offI push slope sil dep (i + 1))), some (i_ i), some (i_ (mkf (offI push slope sil dep i) (sil i) (dep i)))]) dX0_bestCellFor_66 (by decide) (by rw [offI_s _ _ _ _ a1]; rfl) ?_
                refine G_iinc dX0_bestCellFor_68 (by decide) rfl rfl ?_
                refine G_goto (tgt := 6) dX0_bestCellFor_71 (by decide) ?_
                refine G_forget 6 ?_
                exact ih (i + 1) (by omega) (by omega) (by rw [hst, bsN_step a1 (by omega), if_neg (by omega), if_neg (by omega)]) (by omega)
              · skip
                refine G_iload dX0_bestCellFor_59 rfl ?_
                refine G_ireturn dX0_bestCellFor_61 rfl ?_
                exact ⟨by rw [hst, bsN_step a1 (by omega), if_neg (by omega), if_pos (by omega)], rfl⟩
        · skip
          refine G_bipush dX0_bestCellFor_28 rfl ?_
          refine G_ireturn dX0_bestCellFor_30 rfl ?_
          exact ⟨by rw [hst, bsN_step a1 (by omega), if_pos (by omega)], rfl⟩
  refine G_iload_n dX0_bestCellFor_0 rfl rfl ?_
  refine G_istore dX0_bestCellFor_1 (by decide) rfl ?_
  refine G_iconst dX0_bestCellFor_3 ?_
  refine G_istore dX0_bestCellFor_4 (by decide) rfl ?_
  exact L 41 0 (by omega) (by omega) rfl (by omega)
set_option maxRecDepth 100000 in
set_option maxHeartbeats 4000000 in
theorem c_X0_moved (h : List PO) (q mk s : Int) (hq : 0 ≤ q ∧ q ≤ 60) (hm : 0 ≤ mk ∧ mk ≤ 60) (hs : 1 ≤ s ∧ s ≤ 60) : PM 1 yX0_moved cX0_moved 3 (some .int) h [i_ q, i_ mk, i_ s] (fun r h2 => r = some (i_ (moveI q mk s)) ∧ h = h2) := by
  refine PM_of_G RX0 [some (i_ q), some (i_ mk), some (i_ s)] rfl (by decide +kernel) (Nat.le_of_ble_eq_true rfl) rfl ?_
  refine G_iload_n dX0_moved_0 rfl rfl ?_
  refine G_iload_n dX0_moved_1 rfl rfl ?_
  refine G_icmp_le (tgt := 13) dX0_moved_2 (by decide) (inR_of (by omega) (by omega)) (inR_of (by omega) (by omega)) (fun hc2 => ?_) (fun hc2 => ?_)
  · skip
    refine G_iload_n dX0_moved_13 rfl rfl ?_
    refine G_iload_n dX0_moved_14 rfl rfl ?_
    refine G_iload_n dX0_moved_15 rfl rfl ?_
    refine G_isub dX0_moved_16 ?_
    refine G_max dX0_moved_17 mm_X0_59 (inR_of (by omega) (by omega)) (inR_of (by omega) (by omega)) (Nat.le_of_ble_eq_true rfl) (Nat.le_of_ble_eq_true rfl) ?_
    refine G_ireturn dX0_moved_20 rfl ?_
    exact ⟨by unfold moveI; rw [if_neg (by omega)], rfl⟩
  · skip
    refine G_iload_n dX0_moved_5 rfl rfl ?_
    refine G_iload_n dX0_moved_6 rfl rfl ?_
    refine G_iload_n dX0_moved_7 rfl rfl ?_
    refine G_iadd dX0_moved_8 ?_
    refine G_min dX0_moved_9 mm_X0_40 (inR_of (by omega) (by omega)) (inR_of (by omega) (by omega)) (Nat.le_of_ble_eq_true rfl) (Nat.le_of_ble_eq_true rfl) ?_
    refine G_ireturn dX0_moved_12 rfl ?_
    exact ⟨by unfold moveI; rw [if_pos (by omega)], rfl⟩
set_option maxRecDepth 100000 in
set_option maxHeartbeats 4000000 in
theorem c_X0_excess (h : List PO) (b : Nat) (dep sil hei wet : Int → Int) (c k : Int) (hB : bedAt h b dep sil hei wet) (hrd : RG 1 60 40 dep) (hrs : RG 0 60 40 sil) (hrh : RG 0 60 40 hei) (h0 : 0 ≤ c) (h1 : c < 40) : PM 1 yX0_excess cX0_excess 3 (some .int) h [r_ b, i_ c, i_ k] (fun r h2 => r = some (i_ (hei c + k - (dep c - sil c))) ∧ h = h2) := by
  refine PM_of_G RX0 [some (r_ b), some (i_ c), some (i_ k)] rfl (by decide +kernel) (Nat.le_of_ble_eq_true rfl) rfl ?_
  obtain ⟨hB0, hB1, hB2, hB3, hB4⟩ := id hB
  refine G_iload_n dX0_excess_0 rfl rfl ?_
  refine G_callSN (as := [_]) (c_X5_isCell h c (inR_of (by omega) (by omega))) dX0_excess_1 (fun _ _ E => E.2.1.1) cs_X5_isCell rfl (Nat.le_of_ble_eq_true rfl) (Nat.le_of_ble_eq_true rfl) rfl (fun r h2 hp => ?_)
  obtain ⟨z, rfl, rfl, hz⟩ := hp
  refine G_if_ne (tgt := 9) dX0_excess_4 (by decide) (inR_of (by omega) (by omega)) (fun hc4 => ?_) (fun hc4 => ?_)
  · skip
    refine G_aload_n dX0_excess_9 rfl rfl ?_
    refine G_getf fl_X0_18 dX0_excess_10 (by assumption) rfl ?_
    refine G_iload_n dX0_excess_13 rfl rfl ?_
    refine G_iald dX0_excess_14 (by assumption) (by omega) (by omega) (by decide) ?_
    refine G_iload_n dX0_excess_15 rfl rfl ?_
    refine G_iadd dX0_excess_16 ?_
    refine G_aload_n dX0_excess_17 rfl rfl ?_
    refine G_getf fl_X0_9 dX0_excess_18 (by assumption) rfl ?_
    refine G_iload_n dX0_excess_21 rfl rfl ?_
    refine G_iald dX0_excess_22 (by assumption) (by omega) (by omega) (by decide) ?_
    refine G_aload_n dX0_excess_23 rfl rfl ?_
    refine G_getf fl_X0_15 dX0_excess_24 (by assumption) rfl ?_
    refine G_iload_n dX0_excess_27 rfl rfl ?_
    refine G_iald dX0_excess_28 (by assumption) (by omega) (by omega) (by decide) ?_
    refine G_isub dX0_excess_29 ?_
    refine G_isub dX0_excess_30 ?_
    refine G_ireturn dX0_excess_31 rfl ?_
    exact ⟨rfl, rfl⟩
  · skip
    exfalso; omega
set_option maxRecDepth 100000 in
set_option maxHeartbeats 4000000 in
theorem c_X0_greatestSaltCell (h : List PO) (b : Nat) (dep sil hei wet : Int → Int) (hB : bedAt h b dep sil hei wet) (hrh : RG 0 60 40 hei) : PM 1 yX0_greatestSaltCell cX0_greatestSaltCell 2 (some .int) h [r_ b] (fun r h2 => r = some (i_ (reachN hei 40)) ∧ h = h2) := by
  refine PM_of_G RX0 [some (r_ b), none] rfl (by decide +kernel) (Nat.le_of_ble_eq_true rfl) rfl ?_
  obtain ⟨hB0, hB1, hB2, hB3, hB4⟩ := id hB
  have L : ∀ (n : Nat) (i : Int), -1 ≤ i → i ≤ 39 → reachN hei 40 = reachN hei (i + 1).toNat → i + 1 < n → G 1 cX0_greatestSaltCell RX0 2 (some .int) h 3 [some (r_ b), some (i_ i)] [] (fun r h2 => r = some (i_ (reachN hei 40)) ∧ h = h2) := by
    intro n
    induction n with
    | zero => intro i a1 a2 hst hmeas; exfalso; omega
    | succ n ih =>
      intro i a1 a2 hst hmeas
      refine G_iload_n dX0_greatestSaltCell_3 rfl rfl ?_
      refine G_if_lt (tgt := 24) dX0_greatestSaltCell_4 (by decide) (inR_of (by omega) (by omega)) (fun hc4 => ?_) (fun hc4 => ?_)
      · skip
        have e : i = -1 := by omega
        subst e
        refine G_bipush dX0_greatestSaltCell_24 rfl ?_
        refine G_ireturn dX0_greatestSaltCell_26 rfl ?_
        exact ⟨by rw [hst]; rfl, rfl⟩
      · skip
        have e1 : (i + 1).toNat = (i + -1 + 1).toNat + 1 := by omega
        have e2 : (((i + -1 + 1).toNat : Nat) : Int) = i := by omega
        refine G_aload_n dX0_greatestSaltCell_7 rfl rfl ?_
        refine G_getf fl_X0_18 dX0_greatestSaltCell_8 (by assumption) rfl ?_
        refine G_iload_n dX0_greatestSaltCell_11 rfl rfl ?_
        refine G_ialdR dX0_greatestSaltCell_12 (by assumption) (by assumption) (by omega) (by omega) (by decide) (fun _ _ => ?_)
        refine G_if_le (tgt := 18) dX0_greatestSaltCell_13 (by decide) (inR_of (by omega) (by omega)) (fun hc13 => ?_) (fun hc13 => ?_)
        · skip
          refine G_iinc dX0_greatestSaltCell_18 (by decide) rfl rfl ?_
          refine G_goto (tgt := 3) dX0_greatestSaltCell_21 (by decide) ?_
          exact ih (i + -1) (by omega) (by omega) (by rw [hst, e1]; show (if _ then _ else _) = _; rw [e2, if_neg (by omega)]) (by omega)
        · skip
          refine G_iload_n dX0_greatestSaltCell_16 rfl rfl ?_
          refine G_ireturn dX0_greatestSaltCell_17 rfl ?_
          exact ⟨by rw [hst, e1]; show _ = some (i_ (if _ then _ else _)); rw [e2, if_pos (by omega)], rfl⟩
  refine G_bipush dX0_greatestSaltCell_0 rfl ?_
  refine G_istore_n dX0_greatestSaltCell_2 rfl (by decide) rfl ?_
  exact L 41 39 (by omega) (by omega) rfl (by omega)
theorem sumN_s {q : Int → Int} {i : Int} (h : 0 ≤ i) : sumN q (i + 1).toNat = sumN q i.toNat + q i := by
  have e : (i + 1).toNat = i.toNat + 1 := by omega
  have e2 : ((i.toNat : Nat) : Int) = i := by omega
  rw [e]
  show _ + q ((i.toNat : Nat) : Int) = _
  rw [e2]
theorem wet_rng {q : Int → Int} : ∀ n : Nat, 0 ≤ sumN (wetI q) n ∧ sumN (wetI q) n ≤ n := by
  intro n
  induction n with
  | zero => simp [sumN]
  | succ n ih =>
    show 0 ≤ sumN (wetI q) n + wetI q n ∧ sumN (wetI q) n + wetI q n ≤ ((n + 1 : Nat) : Int)
    have e : 0 ≤ wetI q n ∧ wetI q n ≤ 1 := by unfold wetI; by_cases z : 0 < q n <;> simp [z]
    omega
theorem wetI_1 {q : Int → Int} {i : Int} (h : 0 < q i) : wetI q i = 1 := if_pos h
theorem wetI_0 {q : Int → Int} {i : Int} (h : q i ≤ 0) : wetI q i = 0 := if_neg (by omega)
set_option maxRecDepth 100000 in
set_option maxHeartbeats 4000000 in
theorem c_X0_saltCells (h : List PO) (b : Nat) (dep sil hei wet : Int → Int) (hB : bedAt h b dep sil hei wet) (hrh : RG 0 60 40 hei) : PM 1 yX0_saltCells cX0_saltCells 3 (some .int) h [r_ b] (fun r h2 => r = some (i_ (sumN (wetI hei) 40)) ∧ h = h2) := by
  refine PM_of_G RX0 [some (r_ b), none, none] rfl (by decide +kernel) (Nat.le_of_ble_eq_true rfl) rfl ?_
  obtain ⟨hB0, hB1, hB2, hB3, hB4⟩ := id hB
  have L : ∀ (n : Nat) (i : Int), 0 ≤ i → i ≤ 40 → 40 - i < n → G 1 cX0_saltCells RX0 3 (some .int) h 4 [some (r_ b), some (i_ (sumN (wetI hei) i.toNat)), some (i_ i)] [] (fun r h2 => r = some (i_ (sumN (wetI hei) 40)) ∧ h = h2) := by
    intro n
    induction n with
    | zero => intro i a1 a2 hmeas; exfalso; omega
    | succ n ih =>
      intro i a1 a2 hmeas
      refine G_iload_n dX0_saltCells_4 rfl rfl ?_
      refine G_bipush dX0_saltCells_5 rfl ?_
      refine G_icmp_ge (tgt := 28) dX0_saltCells_7 (by decide) (inR_of (by omega) (by omega)) (inR_of (by omega) (by omega)) (fun hc7 => ?_) (fun hc7 => ?_)
      · skip
        have e : i = 40 := by omega
        subst e
        refine G_iload_n dX0_saltCells_28 rfl rfl ?_
        refine G_ireturn dX0_saltCells_29 rfl ?_
        exact ⟨rfl, rfl⟩
      · skip
        refine G_aload_n dX0_saltCells_10 rfl rfl ?_
        refine G_getf fl_X0_18 dX0_saltCells_11 (by assumption) rfl ?_
        refine G_iload_n dX0_saltCells_14 rfl rfl ?_
        refine G_ialdR dX0_saltCells_15 (by assumption) (by assumption) (by omega) (by omega) (by decide) (fun _ _ => ?_)
        refine G_if_le (tgt := 22) dX0_saltCells_16 (by decide) (inR_of (by omega) (by omega)) (fun hc16 => ?_) (fun hc16 => ?_)
        · skip
          refine G_iinc dX0_saltCells_22 (by decide) rfl rfl ?_
          refine G_goto (tgt := 4) dX0_saltCells_25 (by decide) ?_
          have e : sumN (wetI hei) (i + 1).toNat = _ := sumN_s a1
          first | rw [wetI_1 (by omega)] at e | rw [wetI_0 (by omega), Int.add_zero] at e
          rw [← e]
          exact ih (i + 1) (by omega) (by omega) (by omega)
        · skip
          refine G_iinc dX0_saltCells_19 (by decide) rfl rfl ?_
          refine G_iinc dX0_saltCells_22 (by decide) rfl rfl ?_
          refine G_goto (tgt := 4) dX0_saltCells_25 (by decide) ?_
          have e : sumN (wetI hei) (i + 1).toNat = _ := sumN_s a1
          first | rw [wetI_1 (by omega)] at e | rw [wetI_0 (by omega), Int.add_zero] at e
          rw [← e]
          exact ih (i + 1) (by omega) (by omega) (by omega)
  refine G_iconst dX0_saltCells_0 ?_
  refine G_istore_n dX0_saltCells_1 rfl (by decide) rfl ?_
  refine G_iconst dX0_saltCells_2 ?_
  refine G_istore_n dX0_saltCells_3 rfl (by decide) rfl ?_
  exact L 41 0 (by omega) (by omega) (by omega)
set_option maxRecDepth 100000 in
set_option maxHeartbeats 4000000 in
theorem c_X0_sumOfHeights (h : List PO) (b : Nat) (dep sil hei wet : Int → Int) (hB : bedAt h b dep sil hei wet) : PM 1 yX0_sumOfHeights cX0_sumOfHeights 3 (some .int) h [r_ b] (fun r h2 => r = some (i_ (sumN hei 40)) ∧ h = h2) := by
  refine PM_of_G RX0 [some (r_ b), none, none] rfl (by decide +kernel) (Nat.le_of_ble_eq_true rfl) rfl ?_
  obtain ⟨hB0, hB1, hB2, hB3, hB4⟩ := id hB
  have L : ∀ (n : Nat) (i : Int), 0 ≤ i → i ≤ 40 → 40 - i < n → G 1 cX0_sumOfHeights RX0 3 (some .int) h 4 [some (r_ b), some (i_ (sumN hei i.toNat)), some (i_ i)] [] (fun r h2 => r = some (i_ (sumN hei 40)) ∧ h = h2) := by
    intro n
    induction n with
    | zero => intro i a1 a2 hmeas; exfalso; omega
    | succ n ih =>
      intro i a1 a2 hmeas
      refine G_iload_n dX0_sumOfHeights_4 rfl rfl ?_
      refine G_bipush dX0_sumOfHeights_5 rfl ?_
      refine G_icmp_ge (tgt := 25) dX0_sumOfHeights_7 (by decide) (inR_of (by omega) (by omega)) (inR_of (by omega) (by omega)) (fun hc7 => ?_) (fun hc7 => ?_)
      · skip
        have e : i = 40 := by omega
        subst e
        refine G_iload_n dX0_sumOfHeights_25 rfl rfl ?_
        refine G_ireturn dX0_sumOfHeights_26 rfl ?_
        exact ⟨rfl, rfl⟩
      · skip
        refine G_iload_n dX0_sumOfHeights_10 rfl rfl ?_
        refine G_aload_n dX0_sumOfHeights_11 rfl rfl ?_
        refine G_getf fl_X0_18 dX0_sumOfHeights_12 (by assumption) rfl ?_
        refine G_iload_n dX0_sumOfHeights_15 rfl rfl ?_
        refine G_iald dX0_sumOfHeights_16 (by assumption) (by omega) (by omega) (by decide) ?_
        refine G_iadd dX0_sumOfHeights_17 ?_
        refine G_istore_n dX0_sumOfHeights_18 rfl (by decide) rfl ?_
        refine G_iinc dX0_sumOfHeights_19 (by decide) rfl rfl ?_
        refine G_goto (tgt := 4) dX0_sumOfHeights_22 (by decide) ?_
        rw [← sumN_s a1]
        exact ih (i + 1) (by omega) (by omega) (by omega)
  refine G_iconst dX0_sumOfHeights_0 ?_
  refine G_istore_n dX0_sumOfHeights_1 rfl (by decide) rfl ?_
  refine G_iconst dX0_sumOfHeights_2 ?_
  refine G_istore_n dX0_sumOfHeights_3 rfl (by decide) rfl ?_
  exact L 41 0 (by omega) (by omega) (by omega)
