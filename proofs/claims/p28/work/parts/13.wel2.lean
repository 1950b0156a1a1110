def sinkR (c : Int → Int) (n k q : Int) : Int := if ¬ (0 ≤ k ∧ k < 40) then -1 else if ¬ (1 ≤ q ∧ q ≤ 30) then -2 else if besN c k n.toNat ≠ -5 then -4 else if 6 ≤ n then -3 else n
def fillR (s : Int → Int) (n w : Int) : Int := if 0 ≤ w ∧ w < n then s w else -1
def rateR (r : Int → Int) (n w q : Int) : Int := if ¬ (0 ≤ w ∧ w < n) then -1 else if ¬ (1 ≤ q ∧ q ≤ 30) then -2 else if r w = q then -5 else r w
def tellR (c r s z d t : Int → Int) (n w k : Int) : Int := if ¬ (0 ≤ w ∧ w < n) then -1 else if k = 0 then c w else if k = 1 then r w else if k = 2 then s w else if k = 3 then z w else if k = 4 then conI c r z n w else if k = 5 then d w else if k = 6 then t w else -2
set_option maxRecDepth 100000 in
set_option maxHeartbeats 4000000 in
theorem c_X4_add (h : List PO) (b : Nat) (c r s z d t : Int → Int) (n : Int) (k q : Int) (hW : welF h b c r s z d t n) (hn : 0 ≤ n ∧ n ≤ 6) (hc : RG 0 39 n c) (hdi : ∀ w u : Int, 0 ≤ w → w < n → 0 ≤ u → u < n → c w = c u → w = u) (hk : inR k) (hq : inR q) : PM 2 yX4_add cX4_add 4 (some .int) h [r_ b, i_ k, i_ q] (fun r0 h2 => r0 = some (i_ (sinkR c n k q)) ∧ Fr h h2 b (b + 7) ∧ (if 0 ≤ sinkR c n k q then welF h2 b (fup c n k) (fup r n q) (fup s n 0) (fup z n 0) (fup d n 0) (fup t n 0) (n + 1) else h = h2)) := by
  refine PM_of_G RX4 [some (r_ b), some (i_ k), some (i_ q), none] rfl (by decide +kernel) (Nat.le_of_ble_eq_true rfl) rfl ?_
  obtain ⟨hW0, hW1, hW2, hW3, hW4, hW5, hW6⟩ := id hW
  have hk1 := hk.1
  have hk2 := hk.2
  have hq1 := hq.1
  have hq2 := hq.2
  have hF : Fr h h b (b + 7) := Fr.rf
  have hbr := besN_rng (q := c) (c := k) n.toNat
  refine G_iload_n dX4_add_0 rfl rfl ?_
  refine G_callSN (as := [_]) (c_X5_isCell h k hk) dX4_add_1 (fun _ _ E => E.2.1.2.1) cs_X5_isCell rfl (Nat.le_of_ble_eq_true rfl) (Nat.le_of_ble_eq_true rfl) rfl (fun r h2 hp => ?_)
  obtain ⟨y, rfl, rfl, hy⟩ := hp
  refine G_if_ne (tgt := 9) dX4_add_4 (by decide) (inR_of (by omega) (by omega)) (fun hc4 => ?_) (fun hc4 => ?_)
  · skip
    refine G_iload_n dX4_add_9 rfl rfl ?_
    refine G_callS (as := [_]) (c_X4_isRate h q hq) dX4_add_10 ml_X4_47 cs_X4_isRate rfl (Nat.le_of_ble_eq_true rfl) (Nat.le_of_ble_eq_true rfl) rfl (fun r h2 hp => ?_)
    obtain ⟨x, rfl, rfl, hx⟩ := hp
    refine G_if_ne (tgt := 19) dX4_add_13 (by decide) (inR_of (by omega) (by omega)) (fun hc13 => ?_) (fun hc13 => ?_)
    · skip
      refine G_aload_n dX4_add_19 rfl rfl ?_
      refine G_iload_n dX4_add_20 rfl rfl ?_
      refine G_callV (ci := 4) (as := [_]) (c_X4_beside h b c r s z d t n k hW hn hc hdi hk) dX4_add_21 ml_X4_50 cv_X4_beside (by assumption) rfl rfl (Nat.le_of_ble_eq_true rfl) (Nat.le_of_ble_eq_true rfl) rfl (fun r h2 hp => ?_)
      obtain ⟨rfl, rfl⟩ := hp
      refine G_bipush dX4_add_24 rfl ?_
      refine G_icmp_eq (tgt := 32) dX4_add_26 (by decide) (inR_of (by omega) (by omega)) (inR_of (by omega) (by omega)) (fun hc26 => ?_) (fun hc26 => ?_)
      · skip
        refine G_aload_n dX4_add_32 rfl rfl ?_
        refine G_getf fl_X4_36 dX4_add_33 (by assumption) rfl ?_
        refine G_istore_n dX4_add_36 rfl (by decide) rfl ?_
        refine G_iload_n dX4_add_37 rfl rfl ?_
        refine G_if_lt (tgt := 47) dX4_add_38 (by decide) (inR_of (by omega) (by omega)) (fun hc38 => ?_) (fun hc38 => ?_)
        · skip
          exfalso; omega
        · skip
          refine G_iload_n dX4_add_41 rfl rfl ?_
          refine G_bipush dX4_add_42 rfl ?_
          refine G_icmp_lt (tgt := 50) dX4_add_44 (by decide) (inR_of (by omega) (by omega)) (inR_of (by omega) (by omega)) (fun hc44 => ?_) (fun hc44 => ?_)
          · skip
            refine G_aload_n dX4_add_50 rfl rfl ?_
            refine G_getf fl_X4_9 dX4_add_51 (by assumption) rfl ?_
            refine G_iload_n dX4_add_54 rfl rfl ?_
            refine G_iload_n dX4_add_55 rfl rfl ?_
            refine G_iast dX4_add_56 (by assumption) (by omega) (by omega) (by decide) rfl ?_
            have hW := hW.set1 (fup c n k)
            obtain ⟨hW0, hW1, hW2, hW3, hW4, hW5, hW6⟩ := id hW
            have hF := hF.tr (Fr.set (o := oI 6 (fup c n k)) (show b ≤ b + 1 by omega) (show b + 1 < b + 7 by omega))
            refine G_aload_n dX4_add_57 rfl rfl ?_
            refine G_getf fl_X4_15 dX4_add_58 (by assumption) rfl ?_
            refine G_iload_n dX4_add_61 rfl rfl ?_
            refine G_iload_n dX4_add_62 rfl rfl ?_
            refine G_iast dX4_add_63 (by assumption) (by omega) (by omega) (by decide) rfl ?_
            have hW := hW.set2 (fup r n q)
            obtain ⟨hW0, hW1, hW2, hW3, hW4, hW5, hW6⟩ := id hW
            have hF := hF.tr (Fr.set (o := oI 6 (fup r n q)) (show b ≤ b + 2 by omega) (show b + 2 < b + 7 by omega))
            refine G_aload_n dX4_add_64 rfl rfl ?_
            refine G_getf fl_X4_18 dX4_add_65 (by assumption) rfl ?_
            refine G_iload_n dX4_add_68 rfl rfl ?_
            refine G_iconst dX4_add_69 ?_
            refine G_iast dX4_add_70 (by assumption) (by omega) (by omega) (by decide) rfl ?_
            have hW := hW.set3 (fup s n 0)
            obtain ⟨hW0, hW1, hW2, hW3, hW4, hW5, hW6⟩ := id hW
            have hF := hF.tr (Fr.set (o := oI 6 (fup s n 0)) (show b ≤ b + 3 by omega) (show b + 3 < b + 7 by omega))
            refine G_aload_n dX4_add_71 rfl rfl ?_
            refine G_getf fl_X4_21 dX4_add_72 (by assumption) rfl ?_
            refine G_iload_n dX4_add_75 rfl rfl ?_
            refine G_iconst dX4_add_76 ?_
            refine G_iast dX4_add_77 (by assumption) (by omega) (by omega) (by decide) rfl ?_
            have hW := hW.set4 (fup z n 0)
            obtain ⟨hW0, hW1, hW2, hW3, hW4, hW5, hW6⟩ := id hW
            have hF := hF.tr (Fr.set (o := oI 6 (fup z n 0)) (show b ≤ b + 4 by omega) (show b + 4 < b + 7 by omega))
            refine G_aload_n dX4_add_78 rfl rfl ?_
            refine G_getf fl_X4_24 dX4_add_79 (by assumption) rfl ?_
            refine G_iload_n dX4_add_82 rfl rfl ?_
            refine G_iconst dX4_add_83 ?_
            refine G_iast dX4_add_84 (by assumption) (by omega) (by omega) (by decide) rfl ?_
            have hW := hW.set5 (fup d n 0)
            obtain ⟨hW0, hW1, hW2, hW3, hW4, hW5, hW6⟩ := id hW
            have hF := hF.tr (Fr.set (o := oI 6 (fup d n 0)) (show b ≤ b + 5 by omega) (show b + 5 < b + 7 by omega))
            refine G_aload_n dX4_add_85 rfl rfl ?_
            refine G_getf fl_X4_27 dX4_add_86 (by assumption) rfl ?_
            refine G_iload_n dX4_add_89 rfl rfl ?_
            refine G_iconst dX4_add_90 ?_
            refine G_iast dX4_add_91 (by assumption) (by omega) (by omega) (by decide) rfl ?_
            have hW := hW.set6 (fup t n 0)
            obtain ⟨hW0, hW1, hW2, hW3, hW4, hW5, hW6⟩ := id hW
            have hF := hF.tr (Fr.set (o := oI 6 (fup t n 0)) (show b ≤ b + 6 by omega) (show b + 6 < b + 7 by omega))
            refine G_aload_n dX4_add_92 rfl rfl ?_
            refine G_iload_n dX4_add_93 rfl rfl ?_
            refine G_iconst dX4_add_94 ?_
            refine G_iadd dX4_add_95 ?_
            refine G_putI fp_X4_36 dX4_add_96 (by assumption) (Nat.le_of_ble_eq_true rfl) rfl ?_
            have hW := hW.set0 (n + 1)
            have hF := hF.tr (Fr.set (o := oWel b (n + 1)) (show b ≤ b by omega) (show b < b + 7 by omega))
            refine G_iload_n dX4_add_99 rfl rfl ?_
            refine G_ireturn dX4_add_100 rfl ?_
            have e : sinkR c n k q = n := by unfold sinkR; rw [if_neg (by omega), if_neg (by omega), if_neg (by omega), if_neg (by omega)]
            exact ⟨by rw [e], hF, by rw [e, if_pos (by omega)]; exact hW⟩
          · skip
            refine G_bipush dX4_add_47 rfl ?_
            refine G_ireturn dX4_add_49 rfl ?_
            have e : sinkR c n k q = -3 := by unfold sinkR; rw [if_neg (by omega), if_neg (by omega), if_neg (by omega), if_pos (by omega)]
            exact ⟨by rw [e], Fr.rf, by rw [e, if_neg (by omega)]⟩
      · skip
        refine G_bipush dX4_add_29 rfl ?_
        refine G_ireturn dX4_add_31 rfl ?_
        have e : sinkR c n k q = -4 := by unfold sinkR; rw [if_neg (by omega), if_neg (by omega), if_pos (by omega)]
        exact ⟨by rw [e], Fr.rf, by rw [e, if_neg (by omega)]⟩
    · skip
      refine G_bipush dX4_add_16 rfl ?_
      refine G_ireturn dX4_add_18 rfl ?_
      have e : sinkR c n k q = -2 := by unfold sinkR; rw [if_neg (by omega), if_pos (by omega)]
      exact ⟨by rw [e], Fr.rf, by rw [e, if_neg (by omega)]⟩
  · skip
    refine G_iconst dX4_add_7 ?_
    refine G_ireturn dX4_add_8 rfl ?_
    have e : sinkR c n k q = -1 := by unfold sinkR; rw [if_pos (by omega)]
    exact ⟨by rw [e], Fr.rf, by rw [e, if_neg (by omega)]⟩
set_option maxRecDepth 100000 in
set_option maxHeartbeats 4000000 in
theorem c_X4_remove (h : List PO) (b : Nat) (c r s z d t : Int → Int) (n : Int) (w : Int) (hW : welF h b c r s z d t n) (hn : 0 ≤ n ∧ n ≤ 6) (hw : inR w) : PM 2 yX4_remove cX4_remove 3 (some .int) h [r_ b, i_ w] (fun r0 h2 => r0 = some (i_ (fillR s n w)) ∧ Fr h h2 b (b + 7) ∧ (if 0 ≤ w ∧ w < n then welF h2 b (gapF c w) (gapF r w) (gapF s w) (gapF z w) (gapF d w) (gapF t w) (n - 1) else h = h2)) := by
  refine PM_of_G RX4 [some (r_ b), some (i_ w), none] rfl (by decide +kernel) (Nat.le_of_ble_eq_true rfl) rfl ?_
  obtain ⟨hW0, hW1, hW2, hW3, hW4, hW5, hW6⟩ := id hW
  have hw1 := hw.1
  have hw2 := hw.2
  have hF : Fr h h b (b + 7) := Fr.rf
  refine G_aload_n dX4_remove_0 rfl rfl ?_
  refine G_iload_n dX4_remove_1 rfl rfl ?_
  refine G_callV (ci := 4) (as := [_]) (c_X4_has h b c r s z d t n w hW hn (inR_of (by omega) (by omega))) dX4_remove_2 ml_X4_40 cv_X4_has (by assumption) rfl rfl (Nat.le_of_ble_eq_true rfl) (Nat.le_of_ble_eq_true rfl) rfl (fun r h2 hp => ?_)
  obtain ⟨y, rfl, rfl, hy⟩ := hp
  refine G_if_ne (tgt := 10) dX4_remove_5 (by decide) (inR_of (by omega) (by omega)) (fun hc5 => ?_) (fun hc5 => ?_)
  · skip
    refine G_aload_n dX4_remove_10 rfl rfl ?_
    refine G_getf fl_X4_18 dX4_remove_11 (by assumption) rfl ?_
    refine G_iload_n dX4_remove_14 rfl rfl ?_
    refine G_iald dX4_remove_15 (by assumption) (by omega) (by omega) (by decide) ?_
    refine G_istore_n dX4_remove_16 rfl (by decide) rfl ?_
    refine G_aload_n dX4_remove_17 rfl rfl ?_
    refine G_getf fl_X4_9 dX4_remove_18 (by assumption) rfl ?_
    refine G_iload_n dX4_remove_21 rfl rfl ?_
    refine G_callS (as := [_, _]) (c_X4_closeGap _ (b + 1) c w (by assumption) ⟨by omega, by omega⟩) dX4_remove_22 ml_X4_54 cs_X4_closeGap rfl (Nat.le_of_ble_eq_true rfl) (Nat.le_of_ble_eq_true rfl) rfl (fun r h2 hp => ?_)
    obtain ⟨rfl, rfl⟩ := hp
    have hW := hW.set1 (gapF c w)
    obtain ⟨hW0, hW1, hW2, hW3, hW4, hW5, hW6⟩ := id hW
    have hF := hF.tr (Fr.set (o := oI 6 (gapF c w)) (show b ≤ b + 1 by omega) (show b + 1 < b + 7 by omega))
    refine G_aload_n dX4_remove_25 rfl rfl ?_
    refine G_getf fl_X4_15 dX4_remove_26 (by assumption) rfl ?_
    refine G_iload_n dX4_remove_29 rfl rfl ?_
    refine G_callS (as := [_, _]) (c_X4_closeGap _ (b + 2) r w (by assumption) ⟨by omega, by omega⟩) dX4_remove_30 ml_X4_54 cs_X4_closeGap rfl (Nat.le_of_ble_eq_true rfl) (Nat.le_of_ble_eq_true rfl) rfl (fun r h2 hp => ?_)
    obtain ⟨rfl, rfl⟩ := hp
    have hW := hW.set2 (gapF r w)
    obtain ⟨hW0, hW1, hW2, hW3, hW4, hW5, hW6⟩ := id hW
    have hF := hF.tr (Fr.set (o := oI 6 (gapF r w)) (show b ≤ b + 2 by omega) (show b + 2 < b + 7 by omega))
    refine G_aload_n dX4_remove_33 rfl rfl ?_
    refine G_getf fl_X4_18 dX4_remove_34 (by assumption) rfl ?_
    refine G_iload_n dX4_remove_37 rfl rfl ?_
    refine G_callS (as := [_, _]) (c_X4_closeGap _ (b + 3) s w (by assumption) ⟨by omega, by omega⟩) dX4_remove_38 ml_X4_54 cs_X4_closeGap rfl (Nat.le_of_ble_eq_true rfl) (Nat.le_of_ble_eq_true rfl) rfl (fun r h2 hp => ?_)
    obtain ⟨rfl, rfl⟩ := hp
    have hW := hW.set3 (gapF s w)
    obtain ⟨hW0, hW1, hW2, hW3, hW4, hW5, hW6⟩ := id hW
    have hF := hF.tr (Fr.set (o := oI 6 (gapF s w)) (show b ≤ b + 3 by omega) (show b + 3 < b + 7 by omega))
    refine G_aload_n dX4_remove_41 rfl rfl ?_
    refine G_getf fl_X4_21 dX4_remove_42 (by assumption) rfl ?_
    refine G_iload_n dX4_remove_45 rfl rfl ?_
    refine G_callS (as := [_, _]) (c_X4_closeGap _ (b + 4) z w (by assumption) ⟨by omega, by omega⟩) dX4_remove_46 ml_X4_54 cs_X4_closeGap rfl (Nat.le_of_ble_eq_true rfl) (Nat.le_of_ble_eq_true rfl) rfl (fun r h2 hp => ?_)
    obtain ⟨rfl, rfl⟩ := hp
    have hW := hW.set4 (gapF z w)
    obtain ⟨hW0, hW1, hW2, hW3, hW4, hW5, hW6⟩ := id hW
    have hF := hF.tr (Fr.set (o := oI 6 (gapF z w)) (show b ≤ b + 4 by omega) (show b + 4 < b + 7 by omega))
    refine G_aload_n dX4_remove_49 rfl rfl ?_
    refine G_getf fl_X4_24 dX4_remove_50 (by assumption) rfl ?_
    refine G_iload_n dX4_remove_53 rfl rfl ?_
    refine G_callS (as := [_, _]) (c_X4_closeGap _ (b + 5) d w (by assumption) ⟨by omega, by omega⟩) dX4_remove_54 ml_X4_54 cs_X4_closeGap rfl (Nat.le_of_ble_eq_true rfl) (Nat.le_of_ble_eq_true rfl) rfl (fun r h2 hp => ?_)
    obtain ⟨rfl, rfl⟩ := hp
    have hW := hW.set5 (gapF d w)
    obtain ⟨hW0, hW1, hW2, hW3, hW4, hW5, hW6⟩ := id hW
    have hF := hF.tr (Fr.set (o := oI 6 (gapF d w)) (show b ≤ b + 5 by omega) (show b + 5 < b + 7 by omega))
    refine G_aload_n dX4_remove_57 rfl rfl ?_
    refine G_getf fl_X4_27 dX4_remove_58 (by assumption) rfl ?_
    refine G_iload_n dX4_remove_61 rfl rfl ?_
    refine G_callS (as := [_, _]) (c_X4_closeGap _ (b + 6) t w (by assumption) ⟨by omega, by omega⟩) dX4_remove_62 ml_X4_54 cs_X4_closeGap rfl (Nat.le_of_ble_eq_true rfl) (Nat.le_of_ble_eq_true rfl) rfl (fun r h2 hp => ?_)
    obtain ⟨rfl, rfl⟩ := hp
    have hW := hW.set6 (gapF t w)
    obtain ⟨hW0, hW1, hW2, hW3, hW4, hW5, hW6⟩ := id hW
    have hF := hF.tr (Fr.set (o := oI 6 (gapF t w)) (show b ≤ b + 6 by omega) (show b + 6 < b + 7 by omega))
    refine G_aload_n dX4_remove_65 rfl rfl ?_
    refine G_dup dX4_remove_66 ?_
    refine G_getf fl_X4_36 dX4_remove_67 (by assumption) rfl ?_
    refine G_iconst dX4_remove_70 ?_
    refine G_isub dX4_remove_71 ?_
    refine G_putI fp_X4_36 dX4_remove_72 (by assumption) (Nat.le_of_ble_eq_true rfl) rfl ?_
    have hW := hW.set0 (n - 1)
    have hF := hF.tr (Fr.set (o := oWel b (n - 1)) (show b ≤ b by omega) (show b < b + 7 by omega))
    refine G_iload_n dX4_remove_75 rfl rfl ?_
    refine G_ireturn dX4_remove_76 rfl ?_
    exact ⟨by unfold fillR; rw [if_pos (by omega)], hF, by rw [if_pos (by omega)]; exact hW⟩
  · skip
    refine G_iconst dX4_remove_8 ?_
    refine G_ireturn dX4_remove_9 rfl ?_
    exact ⟨by unfold fillR; rw [if_neg (by omega)], Fr.rf, by rw [if_neg (by omega)]⟩
set_option maxRecDepth 100000 in
set_option maxHeartbeats 4000000 in
theorem c_X4_changeRate (h : List PO) (b : Nat) (c r s z d t : Int → Int) (n : Int) (w q : Int) (hW : welF h b c r s z d t n) (hn : 0 ≤ n ∧ n ≤ 6) (hr : RG 1 30 n r) (hw : inR w) (hq : inR q) : PM 1 yX4_changeRate cX4_changeRate 4 (some .int) h [r_ b, i_ w, i_ q] (fun r0 h2 => r0 = some (i_ (rateR r n w q)) ∧ (if 0 ≤ rateR r n w q then h.set (b + 2) (oI 6 (fup r w q)) else h) = h2) := by
  refine PM_of_G RX4 [some (r_ b), some (i_ w), some (i_ q), none] rfl (by decide +kernel) (Nat.le_of_ble_eq_true rfl) rfl ?_
  obtain ⟨hW0, hW1, hW2, hW3, hW4, hW5, hW6⟩ := id hW
  have hw1 := hw.1
  have hw2 := hw.2
  have hq1 := hq.1
  have hq2 := hq.2
  refine G_aload_n dX4_changeRate_0 rfl rfl ?_
  refine G_iload_n dX4_changeRate_1 rfl rfl ?_
  refine G_callV (ci := 4) (as := [_]) (c_X4_has h b c r s z d t n w hW hn (inR_of (by omega) (by omega))) dX4_changeRate_2 ml_X4_40 cv_X4_has (by assumption) rfl rfl (Nat.le_of_ble_eq_true rfl) (Nat.le_of_ble_eq_true rfl) rfl (fun r h2 hp => ?_)
  obtain ⟨y, rfl, rfl, hy⟩ := hp
  refine G_if_ne (tgt := 10) dX4_changeRate_5 (by decide) (inR_of (by omega) (by omega)) (fun hc5 => ?_) (fun hc5 => ?_)
  · skip
    refine G_iload_n dX4_changeRate_10 rfl rfl ?_
    refine G_callS (as := [_]) (c_X4_isRate h q hq) dX4_changeRate_11 ml_X4_47 cs_X4_isRate rfl (Nat.le_of_ble_eq_true rfl) (Nat.le_of_ble_eq_true rfl) rfl (fun r h2 hp => ?_)
    obtain ⟨x, rfl, rfl, hx⟩ := hp
    refine G_if_ne (tgt := 20) dX4_changeRate_14 (by decide) (inR_of (by omega) (by omega)) (fun hc14 => ?_) (fun hc14 => ?_)
    · skip
      refine G_aload_n dX4_changeRate_20 rfl rfl ?_
      refine G_getf fl_X4_15 dX4_changeRate_21 (by assumption) rfl ?_
      refine G_iload_n dX4_changeRate_24 rfl rfl ?_
      refine G_iald dX4_changeRate_25 (by assumption) (by omega) (by omega) (by decide) ?_
      have hrw := hr w (by omega) (by omega)
      refine G_istore_n dX4_changeRate_26 rfl (by decide) rfl ?_
      refine G_aload_n dX4_changeRate_27 rfl rfl ?_
      refine G_getf fl_X4_15 dX4_changeRate_28 (by assumption) rfl ?_
      refine G_iload_n dX4_changeRate_31 rfl rfl ?_
      refine G_iload_n dX4_changeRate_32 rfl rfl ?_
      refine G_iast dX4_changeRate_33 (by assumption) (by omega) (by omega) (by decide) rfl ?_
      refine G_iload_n dX4_changeRate_34 rfl rfl ?_
      refine G_iload_n dX4_changeRate_35 rfl rfl ?_
      refine G_icmp_ne (tgt := 44) dX4_changeRate_36 (by decide) (inR_of (by omega) (by omega)) (inR_of (by omega) (by omega)) (fun hc36 => ?_) (fun hc36 => ?_)
      · skip
        refine G_iload_n dX4_changeRate_44 rfl rfl ?_
        refine G_ireturn dX4_changeRate_45 rfl ?_
        first
          | (have e : rateR r n w q = -5 := by unfold rateR; rw [if_neg (by omega), if_neg (by omega), if_pos (by omega)]
             exact ⟨by rw [e], by rw [e, if_neg (by omega), fup_same (by omega)]; exact (set_same hW2).symm⟩)
          | (have e : rateR r n w q = r w := by unfold rateR; rw [if_neg (by omega), if_neg (by omega), if_neg (by omega)]
             exact ⟨by rw [e], by rw [e, if_pos (by omega)]⟩)
      · skip
        refine G_bipush dX4_changeRate_39 rfl ?_
        refine G_goto (tgt := 45) dX4_changeRate_41 (by decide) ?_
        refine G_ireturn dX4_changeRate_45 rfl ?_
        first
          | (have e : rateR r n w q = -5 := by unfold rateR; rw [if_neg (by omega), if_neg (by omega), if_pos (by omega)]
             exact ⟨by rw [e], by rw [e, if_neg (by omega), fup_same (by omega)]; exact (set_same hW2).symm⟩)
          | (have e : rateR r n w q = r w := by unfold rateR; rw [if_neg (by omega), if_neg (by omega), if_neg (by omega)]
             exact ⟨by rw [e], by rw [e, if_pos (by omega)]⟩)
    · skip
      refine G_bipush dX4_changeRate_17 rfl ?_
      refine G_ireturn dX4_changeRate_19 rfl ?_
      have e : rateR r n w q = -2 := by unfold rateR; rw [if_neg (by omega), if_pos (by omega)]
      exact ⟨by rw [e], by rw [e, if_neg (by omega)]⟩
  · skip
    refine G_iconst dX4_changeRate_8 ?_
    refine G_ireturn dX4_changeRate_9 rfl ?_
    have e : rateR r n w q = -1 := by unfold rateR; rw [if_pos (by omega)]
    exact ⟨by rw [e], by rw [e, if_neg (by omega)]⟩
set_option maxRecDepth 100000 in
set_option maxHeartbeats 4000000 in
theorem c_X4_tell (h : List PO) (b : Nat) (c r s z d t : Int → Int) (n : Int) (w k : Int) (hW : welF h b c r s z d t n) (hn : 0 ≤ n ∧ n ≤ 6) (hc : RG 0 39 n c) (hr : RG 1 30 n r) (hz : RG 0 1 n z) (hw : inR w) (hk : inR k) : PM 2 yX4_tell cX4_tell 3 (some .int) h [r_ b, i_ w, i_ k] (fun r0 h2 => r0 = some (i_ (tellR c r s z d t n w k)) ∧ h = h2) := by
  refine PM_of_G RX4 [some (r_ b), some (i_ w), some (i_ k)] rfl (by decide +kernel) (Nat.le_of_ble_eq_true rfl) rfl ?_
  obtain ⟨hW0, hW1, hW2, hW3, hW4, hW5, hW6⟩ := id hW
  have hw1 := hw.1
  have hw2 := hw.2
  have hk1 := hk.1
  have hk2 := hk.2
  refine G_aload_n dX4_tell_0 rfl rfl ?_
  refine G_iload_n dX4_tell_1 rfl rfl ?_
  refine G_callV (ci := 4) (as := [_]) (c_X4_has h b c r s z d t n w hW hn (inR_of (by omega) (by omega))) dX4_tell_2 ml_X4_40 cv_X4_has (by assumption) rfl rfl (Nat.le_of_ble_eq_true rfl) (Nat.le_of_ble_eq_true rfl) rfl (fun r h2 hp => ?_)
  obtain ⟨y, rfl, rfl, hy⟩ := hp
  refine G_if_ne (tgt := 10) dX4_tell_5 (by decide) (inR_of (by omega) (by omega)) (fun hc5 => ?_) (fun hc5 => ?_)
  · skip
    refine G_iload_n dX4_tell_10 rfl rfl ?_
    rcases (show (k < 0 ∨ 6 < k) ∨ k = 0 ∨ k = 1 ∨ k = 2 ∨ k = 3 ∨ k = 4 ∨ k = 5 ∨ k = 6 from by omega) with hsw | hsw | hsw | hsw | hsw | hsw | hsw | hsw
    · skip
      refine G_tblOut (tgt := 100) dX4_tell_11 (inR_of (by omega) (by omega)) hsw (by decide) ?_
      refine G_bipush dX4_tell_100 rfl ?_
      refine G_ireturn dX4_tell_102 rfl ?_
      exact ⟨by unfold tellR; rw [if_neg (by omega), if_neg (by omega), if_neg (by omega), if_neg (by omega), if_neg (by omega), if_neg (by omega), if_neg (by omega), if_neg (by omega)], rfl⟩
    · skip
      subst hsw
      refine G_tblIn (tgt := 52) dX4_tell_11 (inR_of (by omega) (by omega)) (by omega) (by omega) rfl (by decide) ?_
      refine G_aload_n dX4_tell_52 rfl rfl ?_
      refine G_getf fl_X4_9 dX4_tell_53 (by assumption) rfl ?_
      refine G_iload_n dX4_tell_56 rfl rfl ?_
      refine G_iald dX4_tell_57 (by assumption) (by omega) (by omega) (by decide) ?_
      refine G_ireturn dX4_tell_58 rfl ?_
      exact ⟨by unfold tellR; rw [if_neg (by omega), if_pos (by omega)], rfl⟩
    · skip
      subst hsw
      refine G_tblIn (tgt := 59) dX4_tell_11 (inR_of (by omega) (by omega)) (by omega) (by omega) rfl (by decide) ?_
      refine G_aload_n dX4_tell_59 rfl rfl ?_
      refine G_getf fl_X4_15 dX4_tell_60 (by assumption) rfl ?_
      refine G_iload_n dX4_tell_63 rfl rfl ?_
      refine G_iald dX4_tell_64 (by assumption) (by omega) (by omega) (by decide) ?_
      refine G_ireturn dX4_tell_65 rfl ?_
      exact ⟨by unfold tellR; rw [if_neg (by omega), if_neg (by omega), if_pos (by omega)], rfl⟩
    · skip
      subst hsw
      refine G_tblIn (tgt := 66) dX4_tell_11 (inR_of (by omega) (by omega)) (by omega) (by omega) rfl (by decide) ?_
      refine G_aload_n dX4_tell_66 rfl rfl ?_
      refine G_getf fl_X4_18 dX4_tell_67 (by assumption) rfl ?_
      refine G_iload_n dX4_tell_70 rfl rfl ?_
      refine G_iald dX4_tell_71 (by assumption) (by omega) (by omega) (by decide) ?_
      refine G_ireturn dX4_tell_72 rfl ?_
      exact ⟨by unfold tellR; rw [if_neg (by omega), if_neg (by omega), if_neg (by omega), if_pos (by omega)], rfl⟩
    · skip
      subst hsw
      refine G_tblIn (tgt := 73) dX4_tell_11 (inR_of (by omega) (by omega)) (by omega) (by omega) rfl (by decide) ?_
      refine G_aload_n dX4_tell_73 rfl rfl ?_
      refine G_getf fl_X4_21 dX4_tell_74 (by assumption) rfl ?_
      refine G_iload_n dX4_tell_77 rfl rfl ?_
      refine G_iald dX4_tell_78 (by assumption) (by omega) (by omega) (by decide) ?_
      refine G_ireturn dX4_tell_79 rfl ?_
      exact ⟨by unfold tellR; rw [if_neg (by omega), if_neg (by omega), if_neg (by omega), if_neg (by omega), if_pos (by omega)], rfl⟩
    · skip
      subst hsw
      refine G_tblIn (tgt := 80) dX4_tell_11 (inR_of (by omega) (by omega)) (by omega) (by omega) rfl (by decide) ?_
      refine G_aload_n dX4_tell_80 rfl rfl ?_
      refine G_iload_n dX4_tell_81 rfl rfl ?_
      refine G_callV (ci := 4) (as := [_]) (c_X4_coneOf h b c r s z d t n w hW hn hc hr hz hw) dX4_tell_82 ml_X4_64 cv_X4_coneOf (by assumption) rfl rfl (Nat.le_of_ble_eq_true rfl) (Nat.le_of_ble_eq_true rfl) rfl (fun r h2 hp => ?_)
      obtain ⟨rfl, rfl⟩ := hp
      refine G_ireturn dX4_tell_85 rfl ?_
      exact ⟨by unfold tellR; rw [if_neg (by omega), if_neg (by omega), if_neg (by omega), if_neg (by omega), if_neg (by omega), if_pos (by omega)], rfl⟩
    · skip
      subst hsw
      refine G_tblIn (tgt := 86) dX4_tell_11 (inR_of (by omega) (by omega)) (by omega) (by omega) rfl (by decide) ?_
      refine G_aload_n dX4_tell_86 rfl rfl ?_
      refine G_getf fl_X4_24 dX4_tell_87 (by assumption) rfl ?_
      refine G_iload_n dX4_tell_90 rfl rfl ?_
      refine G_iald dX4_tell_91 (by assumption) (by omega) (by omega) (by decide) ?_
      refine G_ireturn dX4_tell_92 rfl ?_
      exact ⟨by unfold tellR; rw [if_neg (by omega), if_neg (by omega), if_neg (by omega), if_neg (by omega), if_neg (by omega), if_neg (by omega), if_pos (by omega)], rfl⟩
    · skip
      subst hsw
      refine G_tblIn (tgt := 93) dX4_tell_11 (inR_of (by omega) (by omega)) (by omega) (by omega) rfl (by decide) ?_
      refine G_aload_n dX4_tell_93 rfl rfl ?_
      refine G_getf fl_X4_27 dX4_tell_94 (by assumption) rfl ?_
      refine G_iload_n dX4_tell_97 rfl rfl ?_
      refine G_iald dX4_tell_98 (by assumption) (by omega) (by omega) (by decide) ?_
      refine G_ireturn dX4_tell_99 rfl ?_
      exact ⟨by unfold tellR; rw [if_neg (by omega), if_neg (by omega), if_neg (by omega), if_neg (by omega), if_neg (by omega), if_neg (by omega), if_neg (by omega), if_pos (by omega)], rfl⟩
  · skip
    refine G_iconst dX4_tell_8 ?_
    refine G_ireturn dX4_tell_9 rfl ?_
    exact ⟨by unfold tellR; rw [if_pos (by omega)], rfl⟩
set_option maxRecDepth 100000 in
set_option maxHeartbeats 4000000 in
theorem c_X4_sumOf (h : List PO) (b : Nat) (c r s z d t : Int → Int) (n : Int) (a : Nat) (q : Int → Int) (hW : welF h b c r s z d t n) (hn : 0 ≤ n ∧ n ≤ 6) (ha : h[a]? = some (oI 6 q)) : PM 0 yX4_sumOf cX4_sumOf 4 (some .int) h [r_ b, r_ a] (fun r0 h2 => r0 = some (i_ (sumN q n.toNat)) ∧ h = h2) := by
  refine PM_of_G RX4 [some (r_ b), some (r_ a), none, none] rfl (by decide +kernel) (Nat.le_of_ble_eq_true rfl) rfl ?_
  obtain ⟨hW0, hW1, hW2, hW3, hW4, hW5, hW6⟩ := id hW
  have L : ∀ (fu : Nat) (i : Int), 0 ≤ i → i ≤ n → n - i < fu → G 0 cX4_sumOf RX4 4 (some .int) h 4 [some (r_ b), some (r_ a), some (i_ (sumN q i.toNat)), some (i_ i)] [] (fun r0 h2 => r0 = some (i_ (sumN q n.toNat)) ∧ h = h2) := by
    intro fu
    induction fu with
    | zero => intro i a1 a2 hmeas; exfalso; omega
    | succ fu ih =>
      intro i a1 a2 hmeas
      refine G_iload_n dX4_sumOf_4 rfl rfl ?_
      refine G_aload_n dX4_sumOf_5 rfl rfl ?_
      refine G_getf fl_X4_36 dX4_sumOf_6 (by assumption) rfl ?_
      refine G_icmp_ge (tgt := 30) dX4_sumOf_9 (by decide) (inR_of (by omega) (by omega)) (inR_of (by omega) (by omega)) (fun hc9 => ?_) (fun hc9 => ?_)
      · skip
        have e : i = n := by omega
        subst e
        refine G_iload_n dX4_sumOf_30 rfl rfl ?_
        refine G_ireturn dX4_sumOf_31 rfl ?_
        exact ⟨rfl, rfl⟩
      · skip
        refine G_iload_n dX4_sumOf_12 rfl rfl ?_
        refine G_aload_n dX4_sumOf_13 rfl rfl ?_
        refine G_alen dX4_sumOf_14 (by assumption) ?_
        refine G_icmp_ge (tgt := 30) dX4_sumOf_15 (by decide) (inR_of (by omega) (by omega)) (inR_of (by omega) (by omega)) (fun hc15 => ?_) (fun hc15 => ?_)
        · skip
          exfalso; omega
        · skip
          refine G_iload_n dX4_sumOf_18 rfl rfl ?_
          refine G_aload_n dX4_sumOf_19 rfl rfl ?_
          refine G_iload_n dX4_sumOf_20 rfl rfl ?_
          refine G_iald dX4_sumOf_21 (by assumption) (by omega) (by omega) (by decide) ?_
          refine G_iadd dX4_sumOf_22 ?_
          refine G_istore_n dX4_sumOf_23 rfl (by decide) rfl ?_
          refine G_iinc dX4_sumOf_24 (by decide) rfl rfl ?_
          refine G_goto (tgt := 4) dX4_sumOf_27 (by decide) ?_
          rw [← sumN_s a1]
          exact ih (i + 1) (by omega) (by omega) (by omega)
  refine G_iconst dX4_sumOf_0 ?_
  refine G_istore_n dX4_sumOf_1 rfl (by decide) rfl ?_
  refine G_iconst dX4_sumOf_2 ?_
  refine G_istore_n dX4_sumOf_3 rfl (by decide) rfl ?_
  exact L (n.toNat + 1) 0 (by omega) (by omega) (by omega)
set_option maxRecDepth 100000 in
set_option maxHeartbeats 4000000 in
theorem c_X4_copyFrom (h : List PO) (b a : Nat) (c r s z d t : Int → Int) (n : Int) (c2 r2 s2 z2 d2 t2 : Int → Int) (n2 : Int) (hT : welF h b c2 r2 s2 z2 d2 t2 n2) (hO : welF h a c r s z d t n) (hab : a + 7 ≤ b ∨ b + 7 ≤ a) : PM 2 yX4_copyFrom cX4_copyFrom 2 none h [r_ b, r_ a] (fun r0 h2 => r0 = none ∧ Fr h h2 b (b + 7) ∧ welF h2 b c r s z d t n) := by
  refine PM_of_G RX4 [some (r_ b), some (r_ a)] rfl (by decide +kernel) (Nat.le_of_ble_eq_true rfl) rfl ?_
  obtain ⟨hT0, hT1, hT2, hT3, hT4, hT5, hT6⟩ := id hT
  obtain ⟨hO0, hO1, hO2, hO3, hO4, hO5, hO6⟩ := id hO
  have hF : Fr h h b (b + 7) := Fr.rf
  refine G_aload_n dX4_copyFrom_0 rfl rfl ?_
  refine G_getf fl_X4_9 dX4_copyFrom_1 (by assumption) rfl ?_
  refine G_iconst dX4_copyFrom_4 ?_
  refine G_aload_n dX4_copyFrom_5 rfl rfl ?_
  refine G_getf fl_X4_9 dX4_copyFrom_6 (by assumption) rfl ?_
  refine G_iconst dX4_copyFrom_9 ?_
  refine G_bipush dX4_copyFrom_10 rfl ?_
  refine G_copy dX4_copyFrom_12 mc_X4_30 (by assumption) (by assumption) rfl (by decide) (Nat.le_of_ble_eq_true rfl) (Nat.le_of_ble_eq_true rfl) ?_
  have hT := hT.set1 c
  obtain ⟨hT0, hT1, hT2, hT3, hT4, hT5, hT6⟩ := id hT
  have hF := hF.tr (Fr.set (o := oI 6 c) (show b ≤ b + 1 by omega) (show b + 1 < b + 7 by omega))
  have hO := hO.fr (Fr.set (lo := b) (hi := b + 7) (o := oI 6 c) (show b ≤ b + 1 by omega) (show b + 1 < b + 7 by omega)) (by omega)
  obtain ⟨hO0, hO1, hO2, hO3, hO4, hO5, hO6⟩ := id hO
  refine G_aload_n dX4_copyFrom_15 rfl rfl ?_
  refine G_getf fl_X4_15 dX4_copyFrom_16 (by assumption) rfl ?_
  refine G_iconst dX4_copyFrom_19 ?_
  refine G_aload_n dX4_copyFrom_20 rfl rfl ?_
  refine G_getf fl_X4_15 dX4_copyFrom_21 (by assumption) rfl ?_
  refine G_iconst dX4_copyFrom_24 ?_
  refine G_bipush dX4_copyFrom_25 rfl ?_
  refine G_copy dX4_copyFrom_27 mc_X4_30 (by assumption) (by assumption) rfl (by decide) (Nat.le_of_ble_eq_true rfl) (Nat.le_of_ble_eq_true rfl) ?_
  have hT := hT.set2 r
  obtain ⟨hT0, hT1, hT2, hT3, hT4, hT5, hT6⟩ := id hT
  have hF := hF.tr (Fr.set (o := oI 6 r) (show b ≤ b + 2 by omega) (show b + 2 < b + 7 by omega))
  have hO := hO.fr (Fr.set (lo := b) (hi := b + 7) (o := oI 6 r) (show b ≤ b + 2 by omega) (show b + 2 < b + 7 by omega)) (by omega)
  obtain ⟨hO0, hO1, hO2, hO3, hO4, hO5, hO6⟩ := id hO
  refine G_aload_n dX4_copyFrom_30 rfl rfl ?_
  refine G_getf fl_X4_18 dX4_copyFrom_31 (by assumption) rfl ?_
  refine G_iconst dX4_copyFrom_34 ?_
  refine G_aload_n dX4_copyFrom_35 rfl rfl ?_
  refine G_getf fl_X4_18 dX4_copyFrom_36 (by assumption) rfl ?_
  refine G_iconst dX4_copyFrom_39 ?_
  refine G_bipush dX4_copyFrom_40 rfl ?_
  refine G_copy dX4_copyFrom_42 mc_X4_30 (by assumption) (by assumption) rfl (by decide) (Nat.le_of_ble_eq_true rfl) (Nat.le_of_ble_eq_true rfl) ?_
  have hT := hT.set3 s
  obtain ⟨hT0, hT1, hT2, hT3, hT4, hT5, hT6⟩ := id hT
  have hF := hF.tr (Fr.set (o := oI 6 s) (show b ≤ b + 3 by omega) (show b + 3 < b + 7 by omega))
  have hO := hO.fr (Fr.set (lo := b) (hi := b + 7) (o := oI 6 s) (show b ≤ b + 3 by omega) (show b + 3 < b + 7 by omega)) (by omega)
  obtain ⟨hO0, hO1, hO2, hO3, hO4, hO5, hO6⟩ := id hO
  refine G_aload_n dX4_copyFrom_45 rfl rfl ?_
  refine G_getf fl_X4_21 dX4_copyFrom_46 (by assumption) rfl ?_
  refine G_iconst dX4_copyFrom_49 ?_
  refine G_aload_n dX4_copyFrom_50 rfl rfl ?_
  refine G_getf fl_X4_21 dX4_copyFrom_51 (by assumption) rfl ?_
  refine G_iconst dX4_copyFrom_54 ?_
  refine G_bipush dX4_copyFrom_55 rfl ?_
  refine G_copy dX4_copyFrom_57 mc_X4_30 (by assumption) (by assumption) rfl (by decide) (Nat.le_of_ble_eq_true rfl) (Nat.le_of_ble_eq_true rfl) ?_
  have hT := hT.set4 z
  obtain ⟨hT0, hT1, hT2, hT3, hT4, hT5, hT6⟩ := id hT
  have hF := hF.tr (Fr.set (o := oI 6 z) (show b ≤ b + 4 by omega) (show b + 4 < b + 7 by omega))
  have hO := hO.fr (Fr.set (lo := b) (hi := b + 7) (o := oI 6 z) (show b ≤ b + 4 by omega) (show b + 4 < b + 7 by omega)) (by omega)
  obtain ⟨hO0, hO1, hO2, hO3, hO4, hO5, hO6⟩ := id hO
  refine G_aload_n dX4_copyFrom_60 rfl rfl ?_
  refine G_getf fl_X4_24 dX4_copyFrom_61 (by assumption) rfl ?_
  refine G_iconst dX4_copyFrom_64 ?_
  refine G_aload_n dX4_copyFrom_65 rfl rfl ?_
  refine G_getf fl_X4_24 dX4_copyFrom_66 (by assumption) rfl ?_
  refine G_iconst dX4_copyFrom_69 ?_
  refine G_bipush dX4_copyFrom_70 rfl ?_
  refine G_copy dX4_copyFrom_72 mc_X4_30 (by assumption) (by assumption) rfl (by decide) (Nat.le_of_ble_eq_true rfl) (Nat.le_of_ble_eq_true rfl) ?_
  have hT := hT.set5 d
  obtain ⟨hT0, hT1, hT2, hT3, hT4, hT5, hT6⟩ := id hT
  have hF := hF.tr (Fr.set (o := oI 6 d) (show b ≤ b + 5 by omega) (show b + 5 < b + 7 by omega))
  have hO := hO.fr (Fr.set (lo := b) (hi := b + 7) (o := oI 6 d) (show b ≤ b + 5 by omega) (show b + 5 < b + 7 by omega)) (by omega)
  obtain ⟨hO0, hO1, hO2, hO3, hO4, hO5, hO6⟩ := id hO
  refine G_aload_n dX4_copyFrom_75 rfl rfl ?_
  refine G_getf fl_X4_27 dX4_copyFrom_76 (by assumption) rfl ?_
  refine G_iconst dX4_copyFrom_79 ?_
  refine G_aload_n dX4_copyFrom_80 rfl rfl ?_
  refine G_getf fl_X4_27 dX4_copyFrom_81 (by assumption) rfl ?_
  refine G_iconst dX4_copyFrom_84 ?_
  refine G_bipush dX4_copyFrom_85 rfl ?_
  refine G_copy dX4_copyFrom_87 mc_X4_30 (by assumption) (by assumption) rfl (by decide) (Nat.le_of_ble_eq_true rfl) (Nat.le_of_ble_eq_true rfl) ?_
  have hT := hT.set6 t
  obtain ⟨hT0, hT1, hT2, hT3, hT4, hT5, hT6⟩ := id hT
  have hF := hF.tr (Fr.set (o := oI 6 t) (show b ≤ b + 6 by omega) (show b + 6 < b + 7 by omega))
  have hO := hO.fr (Fr.set (lo := b) (hi := b + 7) (o := oI 6 t) (show b ≤ b + 6 by omega) (show b + 6 < b + 7 by omega)) (by omega)
  obtain ⟨hO0, hO1, hO2, hO3, hO4, hO5, hO6⟩ := id hO
  refine G_aload_n dX4_copyFrom_90 rfl rfl ?_
  refine G_aload_n dX4_copyFrom_91 rfl rfl ?_
  refine G_getf fl_X4_36 dX4_copyFrom_92 (by assumption) rfl ?_
  refine G_putI fp_X4_36 dX4_copyFrom_95 (by assumption) (Nat.le_of_ble_eq_true rfl) rfl ?_
  have hT := hT.set0 n
  have hF := hF.tr (Fr.set (o := oWel b n) (show b ≤ b by omega) (show b < b + 7 by omega))
  refine G_return dX4_copyFrom_98 rfl ?_
  exact ⟨rfl, hF, hT⟩
set_option maxRecDepth 100000 in
set_option maxHeartbeats 4000000 in
theorem c_X4_turnOrRecover (h : List PO) (b : Nat) (c r s z d t : Int → Int) (n : Int) (hW : welF h b c r s z d t n) (hn : 0 ≤ n ∧ n ≤ 6) (hs : RG 0 600 n s) (hz : RG 0 1 n z) : PM 0 yX4_turnOrRecover cX4_turnOrRecover 2 none h [r_ b] (fun r0 h2 => r0 = none ∧ Fr h h2 b (b + 7) ∧ welF h2 b c r s (resF s n z) d (turF s z n t) n) := by
  refine PM_of_G RX4 [some (r_ b), none] rfl (by decide +kernel) (Nat.le_of_ble_eq_true rfl) rfl ?_
  have L : ∀ (fu : Nat) (i : Int) (hh : List PO) (zi : Int → Int) (ti : Int → Int), 0 ≤ i → i ≤ n → welF hh b c r s zi d ti n → Fr h hh b (b + 7) → (∀ j : Int, 0 ≤ j → j < 6 → zi j = if j < i then resF s n z j else z j) → (∀ j : Int, 0 ≤ j → j < 6 → ti j = if j < i then turF s z n t j else t j) → n - i < fu → G 0 cX4_turnOrRecover RX4 2 none hh 2 [some (r_ b), some (i_ i)] [] (fun r0 h2 => r0 = none ∧ Fr h h2 b (b + 7) ∧ welF h2 b c r s (resF s n z) d (turF s z n t) n) := by
    intro fu
    induction fu with
    | zero => intro i hh zi ti a1 a2 hWW hF hz1 ht1 hmeas; exfalso; omega
    | succ fu ih =>
      intro i hh zi ti a1 a2 hWW hF hz1 ht1 hmeas
      obtain ⟨hV0, hV1, hV2, hV3, hV4, hV5, hV6⟩ := id hWW
      refine G_iload_n dX4_turnOrRecover_2 rfl rfl ?_
      refine G_aload_n dX4_turnOrRecover_3 rfl rfl ?_
      refine G_getf fl_X4_36 dX4_turnOrRecover_4 (by assumption) rfl ?_
      refine G_icmp_ge (tgt := 78) dX4_turnOrRecover_7 (by decide) (inR_of (by omega) (by omega)) (inR_of (by omega) (by omega)) (fun hc7 => ?_) (fun hc7 => ?_)
      · skip
        have e : i = n := by omega
        subst e
        refine G_norm (resF s i z) hV4 (fun j j0 j1 => ?_) ?_
        · rw [hz1 j j0 j1]
          by_cases e2 : j < i
          · rw [if_pos e2]
          · rw [if_neg e2]; unfold resF; rw [if_neg (by omega)]
        have hWW := hWW.set4 (resF s i z)
        obtain ⟨hV0, hV1, hV2, hV3, hV4, hV5, hV6⟩ := id hWW
        refine G_norm (turF s z i t) hV6 (fun j j0 j1 => ?_) ?_
        · rw [ht1 j j0 j1]
          by_cases e2 : j < i
          · rw [if_pos e2]
          · rw [if_neg e2]; unfold turF; rw [if_neg (by omega)]
        refine G_return dX4_turnOrRecover_78 rfl ?_
        exact ⟨rfl, (hF.tr (Fr.set (by omega) (by omega))).tr (Fr.set (by omega) (by omega)), hWW.set6 _⟩
      · skip
        refine G_iload_n dX4_turnOrRecover_10 rfl rfl ?_
        refine G_bipush dX4_turnOrRecover_11 rfl ?_
        refine G_icmp_ge (tgt := 78) dX4_turnOrRecover_13 (by decide) (inR_of (by omega) (by omega)) (inR_of (by omega) (by omega)) (fun hc13 => ?_) (fun hc13 => ?_)
        · skip
          exfalso; omega
        · skip
          refine G_aload_n dX4_turnOrRecover_16 rfl rfl ?_
          refine G_getf fl_X4_21 dX4_turnOrRecover_17 (by assumption) rfl ?_
          refine G_iload_n dX4_turnOrRecover_20 rfl rfl ?_
          refine G_iald dX4_turnOrRecover_21 (by assumption) (by omega) (by omega) (by decide) ?_
          have hsi := hs i (by omega) (by omega)
          have hzi := hz i (by omega) (by omega)
          have hz_i : zi i = z i := by rw [hz1 i a1 (by omega), if_neg (by omega)]
          have ht_i : ti i = t i := by rw [ht1 i a1 (by omega), if_neg (by omega)]
          refine G_if_ne (tgt := 56) dX4_turnOrRecover_22 (by decide) (inR_of (by omega) (by omega)) (fun hc22 => ?_) (fun hc22 => ?_)
          · skip
            refine G_aload_n dX4_turnOrRecover_56 rfl rfl ?_
            refine G_getf fl_X4_18 dX4_turnOrRecover_57 (by assumption) rfl ?_
            refine G_iload_n dX4_turnOrRecover_60 rfl rfl ?_
            refine G_iald dX4_turnOrRecover_61 (by assumption) (by omega) (by omega) (by decide) ?_
            refine G_if_ne (tgt := 72) dX4_turnOrRecover_62 (by decide) (inR_of (by omega) (by omega)) (fun hc62 => ?_) (fun hc62 => ?_)
            · skip
              refine G_iinc dX4_turnOrRecover_72 (by decide) rfl rfl ?_
              refine G_goto (tgt := 2) dX4_turnOrRecover_75 (by decide) ?_
              refine ih (i + 1) _ _ _ (by omega) (by omega) (by assumption) (by assumption) ?_ ?_ (by omega)
              · intro j j0 j1
                by_cases e : j = i
                · rw [e, if_pos (by omega), hz1 i a1 (by omega), if_neg (by omega)]; unfold resF; rw [if_pos (by omega), if_neg (by omega), if_neg (by omega)]
                · rw [hz1 j j0 j1]
                  by_cases e2 : j < i
                  · rw [if_pos e2, if_pos (by omega)]
                  · rw [if_neg e2, if_neg (by omega)]
              · intro j j0 j1
                by_cases e : j = i
                · rw [e, if_pos (by omega), ht1 i a1 (by omega), if_neg (by omega)]; unfold turF; rw [if_neg (by omega)]
                · rw [ht1 j j0 j1]
                  by_cases e2 : j < i
                  · rw [if_pos e2, if_pos (by omega)]
                  · rw [if_neg e2, if_neg (by omega)]
            · skip
              refine G_aload_n dX4_turnOrRecover_65 rfl rfl ?_
              refine G_getf fl_X4_21 dX4_turnOrRecover_66 (by assumption) rfl ?_
              refine G_iload_n dX4_turnOrRecover_69 rfl rfl ?_
              refine G_iconst dX4_turnOrRecover_70 ?_
              refine G_iast dX4_turnOrRecover_71 (by assumption) (by omega) (by omega) (by decide) rfl ?_
              have hWW := hWW.set4 (fup zi i 0)
              obtain ⟨hV0, hV1, hV2, hV3, hV4, hV5, hV6⟩ := id hWW
              have hF := hF.tr (Fr.set (o := oI 6 (fup zi i 0)) (show b ≤ b + 4 by omega) (show b + 4 < b + 7 by omega))
              refine G_iinc dX4_turnOrRecover_72 (by decide) rfl rfl ?_
              refine G_goto (tgt := 2) dX4_turnOrRecover_75 (by decide) ?_
              refine ih (i + 1) _ _ _ (by omega) (by omega) (by assumption) (by assumption) ?_ ?_ (by omega)
              · intro j j0 j1
                by_cases e : j = i
                · rw [e, fup_eq, if_pos (by omega)]; unfold resF; rw [if_pos (by omega), if_neg (by omega), if_pos (by omega)]
                · rw [fup_ne e, hz1 j j0 j1]
                  by_cases e2 : j < i
                  · rw [if_pos e2, if_pos (by omega)]
                  · rw [if_neg e2, if_neg (by omega)]
              · intro j j0 j1
                by_cases e : j = i
                · rw [e, if_pos (by omega), ht1 i a1 (by omega), if_neg (by omega)]; unfold turF; rw [if_neg (by omega)]
                · rw [ht1 j j0 j1]
                  by_cases e2 : j < i
                  · rw [if_pos e2, if_pos (by omega)]
                  · rw [if_neg e2, if_neg (by omega)]
          · skip
            refine G_aload_n dX4_turnOrRecover_25 rfl rfl ?_
            refine G_getf fl_X4_18 dX4_turnOrRecover_26 (by assumption) rfl ?_
            refine G_iload_n dX4_turnOrRecover_29 rfl rfl ?_
            refine G_iald dX4_turnOrRecover_30 (by assumption) (by omega) (by omega) (by decide) ?_
            refine G_bipush dX4_turnOrRecover_31 rfl ?_
            refine G_icmp_lt (tgt := 56) dX4_turnOrRecover_33 (by decide) (inR_of (by omega) (by omega)) (inR_of (by omega) (by omega)) (fun hc33 => ?_) (fun hc33 => ?_)
            · skip
              refine G_aload_n dX4_turnOrRecover_56 rfl rfl ?_
              refine G_getf fl_X4_18 dX4_turnOrRecover_57 (by assumption) rfl ?_
              refine G_iload_n dX4_turnOrRecover_60 rfl rfl ?_
              refine G_iald dX4_turnOrRecover_61 (by assumption) (by omega) (by omega) (by decide) ?_
              refine G_if_ne (tgt := 72) dX4_turnOrRecover_62 (by decide) (inR_of (by omega) (by omega)) (fun hc62 => ?_) (fun hc62 => ?_)
              · skip
                refine G_iinc dX4_turnOrRecover_72 (by decide) rfl rfl ?_
                refine G_goto (tgt := 2) dX4_turnOrRecover_75 (by decide) ?_
                refine ih (i + 1) _ _ _ (by omega) (by omega) (by assumption) (by assumption) ?_ ?_ (by omega)
                · intro j j0 j1
                  by_cases e : j = i
                  · rw [e, if_pos (by omega), hz1 i a1 (by omega), if_neg (by omega)]; unfold resF; rw [if_pos (by omega), if_neg (by omega), if_neg (by omega)]
                  · rw [hz1 j j0 j1]
                    by_cases e2 : j < i
                    · rw [if_pos e2, if_pos (by omega)]
                    · rw [if_neg e2, if_neg (by omega)]
                · intro j j0 j1
                  by_cases e : j = i
                  · rw [e, if_pos (by omega), ht1 i a1 (by omega), if_neg (by omega)]; unfold turF; rw [if_neg (by omega)]
                  · rw [ht1 j j0 j1]
                    by_cases e2 : j < i
                    · rw [if_pos e2, if_pos (by omega)]
                    · rw [if_neg e2, if_neg (by omega)]
              · skip
                refine G_aload_n dX4_turnOrRecover_65 rfl rfl ?_
                refine G_getf fl_X4_21 dX4_turnOrRecover_66 (by assumption) rfl ?_
                refine G_iload_n dX4_turnOrRecover_69 rfl rfl ?_
                refine G_iconst dX4_turnOrRecover_70 ?_
                refine G_iast dX4_turnOrRecover_71 (by assumption) (by omega) (by omega) (by decide) rfl ?_
                have hWW := hWW.set4 (fup zi i 0)
                obtain ⟨hV0, hV1, hV2, hV3, hV4, hV5, hV6⟩ := id hWW
                have hF := hF.tr (Fr.set (o := oI 6 (fup zi i 0)) (show b ≤ b + 4 by omega) (show b + 4 < b + 7 by omega))
                refine G_iinc dX4_turnOrRecover_72 (by decide) rfl rfl ?_
                refine G_goto (tgt := 2) dX4_turnOrRecover_75 (by decide) ?_
                refine ih (i + 1) _ _ _ (by omega) (by omega) (by assumption) (by assumption) ?_ ?_ (by omega)
                · intro j j0 j1
                  by_cases e : j = i
                  · rw [e, fup_eq, if_pos (by omega)]; unfold resF; rw [if_pos (by omega), if_neg (by omega), if_pos (by omega)]
                  · rw [fup_ne e, hz1 j j0 j1]
                    by_cases e2 : j < i
                    · rw [if_pos e2, if_pos (by omega)]
                    · rw [if_neg e2, if_neg (by omega)]
                · intro j j0 j1
                  by_cases e : j = i
                  · rw [e, if_pos (by omega), ht1 i a1 (by omega), if_neg (by omega)]; unfold turF; rw [if_neg (by omega)]
                  · rw [ht1 j j0 j1]
                    by_cases e2 : j < i
                    · rw [if_pos e2, if_pos (by omega)]
                    · rw [if_neg e2, if_neg (by omega)]
            · skip
              refine G_aload_n dX4_turnOrRecover_36 rfl rfl ?_
              refine G_getf fl_X4_21 dX4_turnOrRecover_37 (by assumption) rfl ?_
              refine G_iload_n dX4_turnOrRecover_40 rfl rfl ?_
              refine G_iconst dX4_turnOrRecover_41 ?_
              refine G_iast dX4_turnOrRecover_42 (by assumption) (by omega) (by omega) (by decide) rfl ?_
              have hWW := hWW.set4 (fup zi i 1)
              obtain ⟨hV0, hV1, hV2, hV3, hV4, hV5, hV6⟩ := id hWW
              have hF := hF.tr (Fr.set (o := oI 6 (fup zi i 1)) (show b ≤ b + 4 by omega) (show b + 4 < b + 7 by omega))
              refine G_aload_n dX4_turnOrRecover_43 rfl rfl ?_
              refine G_getf fl_X4_27 dX4_turnOrRecover_44 (by assumption) rfl ?_
              refine G_iload_n dX4_turnOrRecover_47 rfl rfl ?_
              refine G_dup2 dX4_turnOrRecover_48 ?_
              refine G_iald dX4_turnOrRecover_49 (by assumption) (by omega) (by omega) (by decide) ?_
              refine G_iconst dX4_turnOrRecover_50 ?_
              refine G_iadd dX4_turnOrRecover_51 ?_
              refine G_iast dX4_turnOrRecover_52 (by assumption) (by omega) (by omega) (by decide) rfl ?_
              have hWW := hWW.set6 (fup ti i (ti i + 1))
              obtain ⟨hV0, hV1, hV2, hV3, hV4, hV5, hV6⟩ := id hWW
              have hF := hF.tr (Fr.set (o := oI 6 (fup ti i (ti i + 1))) (show b ≤ b + 6 by omega) (show b + 6 < b + 7 by omega))
              refine G_goto (tgt := 72) dX4_turnOrRecover_53 (by decide) ?_
              refine G_iinc dX4_turnOrRecover_72 (by decide) rfl rfl ?_
              refine G_goto (tgt := 2) dX4_turnOrRecover_75 (by decide) ?_
              refine ih (i + 1) _ _ _ (by omega) (by omega) (by assumption) (by assumption) ?_ ?_ (by omega)
              · intro j j0 j1
                by_cases e : j = i
                · rw [e, fup_eq, if_pos (by omega)]; unfold resF; rw [if_pos (by omega), if_pos (by omega)]
                · rw [fup_ne e, hz1 j j0 j1]
                  by_cases e2 : j < i
                  · rw [if_pos e2, if_pos (by omega)]
                  · rw [if_neg e2, if_neg (by omega)]
              · intro j j0 j1
                by_cases e : j = i
                · rw [e, fup_eq, if_pos (by omega)]; rw [ht_i]; unfold turF; rw [if_pos (by omega)]
                · rw [fup_ne e, ht1 j j0 j1]
                  by_cases e2 : j < i
                  · rw [if_pos e2, if_pos (by omega)]
                  · rw [if_neg e2, if_neg (by omega)]
  refine G_iconst dX4_turnOrRecover_0 ?_
  refine G_istore_n dX4_turnOrRecover_1 rfl (by decide) rfl ?_
  exact L (n.toNat + 1) 0 h z t (by omega) (by omega) hW Fr.rf (fun j j0 j1 => by rw [if_neg (by omega)]) (fun j j0 j1 => by rw [if_neg (by omega)]) (by omega)
theorem sbI_rng {s g : Int} (hs : 0 ≤ s ∧ s ≤ 300) (hg : g ≤ 200) : 0 ≤ sbI s g ∧ sbI s g ≤ 600 := by
  unfold sbI
  by_cases q : 0 < g
  · rw [if_pos q]; omega
  · rw [if_neg q]; omega
theorem salF_rng {dep sil hei c r z s : Int → Int} {n : Int} (hrd : RG 1 60 40 dep) (hrs : RG 0 60 40 sil) (hrh : RG 0 60 40 hei) (hc : RG 0 39 n c) (hr : RG 1 30 n r) (hz : RG 0 1 n z) (hs : RG 0 300 n s) : RG 0 600 n (salF dep sil hei c r z n s) := by
  intro j j0 j1
  unfold salF
  rw [if_pos ⟨j0, j1⟩]
  refine sbI_rng (hs j j0 j1) ?_
  by_cases q : z j = 0
  · rw [if_pos q]
    unfold exF
    have a := hc j j0 j1
    have b := conI_rng (c := c) (z := z) (w := j) hr
    have d := hrd (c j) (by omega) (by omega)
    have e := hrs (c j) (by omega) (by omega)
    have f := hrh (c j) (by omega) (by omega)
    omega
  · rw [if_neg q]; omega
set_option maxRecDepth 100000 in
set_option maxHeartbeats 4000000 in
theorem c_X4_drawFrom (h : List PO) (b : Nat) (c r s z d t : Int → Int) (n : Int) (b2 : Nat) (dep sil hei wet : Int → Int) (hW : welF h b c r s z d t n) (hn : 0 ≤ n ∧ n ≤ 6) (hB : bedAt h b2 dep sil hei wet) (hbb : b2 + 5 ≤ b ∨ b + 7 ≤ b2) (hrd : RG 1 60 40 dep) (hrs : RG 0 60 40 sil) (hrh : RG 0 60 40 hei) (hc : RG 0 39 n c) (hr : RG 1 30 n r) (hs : RG 0 300 n s) (hz : RG 0 1 n z) : PM 2 yX4_drawFrom cX4_drawFrom 4 none h [r_ b, r_ b2] (fun r0 h2 => r0 = none ∧ Fr h h2 b (b + 7) ∧ welF h2 b c r (salF dep sil hei c r z n s) (resF (salF dep sil hei c r z n s) n z) (draF r z n d) (turF (salF dep sil hei c r z n s) z n t) n) := by
  refine PM_of_G RX4 [some (r_ b), some (r_ b2), none, none] rfl (by decide +kernel) (Nat.le_of_ble_eq_true rfl) rfl ?_
  have L : ∀ (fu : Nat) (i : Int) (hh : List PO) (si : Int → Int) (di : Int → Int), 0 ≤ i → i ≤ n → welF hh b c r si z di t n → Fr h hh b (b + 7) → (∀ j : Int, 0 ≤ j → j < 6 → si j = if j < i then salF dep sil hei c r z n s j else s j) → (∀ j : Int, 0 ≤ j → j < 6 → di j = if j < i then draF r z n d j else d j) → n - i < fu → G 2 cX4_drawFrom RX4 4 none hh 2 [some (r_ b), some (r_ b2), some (i_ i), none] [] (fun r0 h2 => r0 = none ∧ Fr h h2 b (b + 7) ∧ welF h2 b c r (salF dep sil hei c r z n s) (resF (salF dep sil hei c r z n s) n z) (draF r z n d) (turF (salF dep sil hei c r z n s) z n t) n) := by
    intro fu
    induction fu with
    | zero => intro i hh si di a1 a2 hWW hF hs1 hd1 hmeas; exfalso; omega
    | succ fu ih =>
      intro i hh si di a1 a2 hWW hF hs1 hd1 hmeas
      obtain ⟨hV0, hV1, hV2, hV3, hV4, hV5, hV6⟩ := id hWW
      have hBB := hB.fr hF (by omega)
      obtain ⟨hB0, hB1, hB2, hB3, hB4⟩ := id hBB
      refine G_iload_n dX4_drawFrom_2 rfl rfl ?_
      refine G_aload_n dX4_drawFrom_3 rfl rfl ?_
      refine G_getf fl_X4_36 dX4_drawFrom_4 (by assumption) rfl ?_
      refine G_icmp_ge (tgt := 80) dX4_drawFrom_7 (by decide) (inR_of (by omega) (by omega)) (inR_of (by omega) (by omega)) (fun hc7 => ?_) (fun hc7 => ?_)
      · skip
        have e : i = n := by omega
        subst e
        refine G_norm (salF dep sil hei c r z i s) hV3 (fun j j0 j1 => ?_) ?_
        · rw [hs1 j j0 j1]
          by_cases e2 : j < i
          · rw [if_pos e2]
          · rw [if_neg e2]; unfold salF; rw [if_neg (by omega)]
        have hWW := hWW.set3 (salF dep sil hei c r z i s)
        obtain ⟨hV0, hV1, hV2, hV3, hV4, hV5, hV6⟩ := id hWW
        refine G_norm (draF r z i d) hV5 (fun j j0 j1 => ?_) ?_
        · rw [hd1 j j0 j1]
          by_cases e2 : j < i
          · rw [if_pos e2]
          · rw [if_neg e2]; unfold draF; rw [if_neg (by omega)]
        have hWW := hWW.set5 (draF r z i d)
        obtain ⟨hV0, hV1, hV2, hV3, hV4, hV5, hV6⟩ := id hWW
        have hsF := salF_rng hrd hrs hrh hc hr hz hs
        refine G_aload_n dX4_drawFrom_80 rfl rfl ?_
        refine G_callV (ci := 4) (as := []) (c_X4_turnOrRecover _ b c r (salF dep sil hei c r z i s) z (draF r z i d) t i hWW hn hsF hz) dX4_drawFrom_81 ml_X4_75 cv_X4_turnOrRecover (by assumption) rfl rfl (Nat.le_of_ble_eq_true rfl) (Nat.le_of_ble_eq_true rfl) rfl (fun r h2 hp => ?_)
        obtain ⟨rfl, hF2, hW2⟩ := hp
        refine G_return dX4_drawFrom_84 rfl ?_
        exact ⟨rfl, ((hF.tr (Fr.set (by omega) (by omega))).tr (Fr.set (by omega) (by omega))).tr hF2, hW2⟩
      · skip
        refine G_iload_n dX4_drawFrom_10 rfl rfl ?_
        refine G_bipush dX4_drawFrom_11 rfl ?_
        refine G_icmp_ge (tgt := 80) dX4_drawFrom_13 (by decide) (inR_of (by omega) (by omega)) (inR_of (by omega) (by omega)) (fun hc13 => ?_) (fun hc13 => ?_)
        · skip
          exfalso; omega
        · skip
          refine G_iconst dX4_drawFrom_16 ?_
          refine G_istore_n dX4_drawFrom_17 rfl (by decide) rfl ?_
          refine G_aload_n dX4_drawFrom_18 rfl rfl ?_
          refine G_getf fl_X4_21 dX4_drawFrom_19 (by assumption) rfl ?_
          refine G_iload_n dX4_drawFrom_22 rfl rfl ?_
          refine G_iald dX4_drawFrom_23 (by assumption) (by omega) (by omega) (by decide) ?_
          have hsi := hs i (by omega) (by omega)
          have hzi := hz i (by omega) (by omega)
          have hri := hr i (by omega) (by omega)
          have hci := hc i (by omega) (by omega)
          have hcn := conI_rng (c := c) (z := z) (w := i) hr
          have hdp := hrd (c i) (by omega) (by omega)
          have hsl := hrs (c i) (by omega) (by omega)
          have hhe := hrh (c i) (by omega) (by omega)
          have hs_i : si i = s i := by rw [hs1 i a1 (by omega), if_neg (by omega)]
          have hd_i : di i = d i := by rw [hd1 i a1 (by omega), if_neg (by omega)]
          refine G_if_ne (tgt := 58) dX4_drawFrom_24 (by decide) (inR_of (by omega) (by omega)) (fun hc24 => ?_) (fun hc24 => ?_)
          · skip
            refine G_aload_n dX4_drawFrom_58 rfl rfl ?_
            refine G_getf fl_X4_18 dX4_drawFrom_59 (by assumption) rfl ?_
            refine G_iload_n dX4_drawFrom_62 rfl rfl ?_
            refine G_aload_n dX4_drawFrom_63 rfl rfl ?_
            refine G_getf fl_X4_18 dX4_drawFrom_64 (by assumption) rfl ?_
            refine G_iload_n dX4_drawFrom_67 rfl rfl ?_
            refine G_iald dX4_drawFrom_68 (by assumption) (by omega) (by omega) (by decide) ?_
            rw [hs_i]
            refine G_iload_n dX4_drawFrom_69 rfl rfl ?_
            refine G_callS (as := [_, _]) (c_X4_saltBehind _ (s i) _ ⟨by omega, by omega⟩ ⟨by omega, by omega⟩) dX4_drawFrom_70 ml_X4_72 cs_X4_saltBehind rfl (Nat.le_of_ble_eq_true rfl) (Nat.le_of_ble_eq_true rfl) rfl (fun r h2 hp => ?_)
            obtain ⟨rfl, rfl⟩ := hp
            refine G_iast dX4_drawFrom_73 (by assumption) (by omega) (by omega) (by decide) rfl ?_
            have hWW := hWW.set3 (fup si i (sbI (s i) 0))
            obtain ⟨hV0, hV1, hV2, hV3, hV4, hV5, hV6⟩ := id hWW
            have hF := hF.tr (Fr.set (o := oI 6 (fup si i (sbI (s i) 0))) (show b ≤ b + 3 by omega) (show b + 3 < b + 7 by omega))
            refine G_iinc dX4_drawFrom_74 (by decide) rfl rfl ?_
            refine G_goto (tgt := 2) dX4_drawFrom_77 (by decide) ?_
            refine G_forget 3 ?_
            refine ih (i + 1) _ _ _ (by omega) (by omega) (by assumption) (by assumption) ?_ ?_ (by omega)
            · intro j j0 j1
              by_cases e : j = i
              · rw [e, fup_eq, if_pos (by omega)]; unfold salF; rw [if_pos (by omega), if_neg (by omega)]
              · rw [fup_ne e, hs1 j j0 j1]
                by_cases e2 : j < i
                · rw [if_pos e2, if_pos (by omega)]
                · rw [if_neg e2, if_neg (by omega)]
            · intro j j0 j1
              by_cases e : j = i
              · rw [e, if_pos (by omega), hd1 i a1 (by omega), if_neg (by omega)]; unfold draF; rw [if_neg (by omega)]
              · rw [hd1 j j0 j1]
                by_cases e2 : j < i
                · rw [if_pos e2, if_pos (by omega)]
                · rw [if_neg e2, if_neg (by omega)]
          · skip
            refine G_aload_n dX4_drawFrom_27 rfl rfl ?_
            refine G_getf fl_X4_24 dX4_drawFrom_28 (by assumption) rfl ?_
            refine G_iload_n dX4_drawFrom_31 rfl rfl ?_
            refine G_dup2 dX4_drawFrom_32 ?_
            refine G_iald dX4_drawFrom_33 (by assumption) (by omega) (by omega) (by decide) ?_
            refine G_aload_n dX4_drawFrom_34 rfl rfl ?_
            refine G_getf fl_X4_15 dX4_drawFrom_35 (by assumption) rfl ?_
            refine G_iload_n dX4_drawFrom_38 rfl rfl ?_
            refine G_iald dX4_drawFrom_39 (by assumption) (by omega) (by omega) (by decide) ?_
            refine G_iadd dX4_drawFrom_40 ?_
            refine G_iast dX4_drawFrom_41 (by assumption) (by omega) (by omega) (by decide) rfl ?_
            have hWW := hWW.set5 (fup di i (di i + r i))
            obtain ⟨hV0, hV1, hV2, hV3, hV4, hV5, hV6⟩ := id hWW
            have hF := hF.tr (Fr.set (o := oI 6 (fup di i (di i + r i))) (show b ≤ b + 5 by omega) (show b + 5 < b + 7 by omega))
            have hBB := hBB.fr (Fr.set (lo := b) (hi := b + 7) (o := oI 6 (fup di i (di i + r i))) (show b ≤ b + 5 by omega) (show b + 5 < b + 7 by omega)) (by omega)
            obtain ⟨hB0, hB1, hB2, hB3, hB4⟩ := id hBB
            refine G_aload_n dX4_drawFrom_42 rfl rfl ?_
            refine G_aload_n dX4_drawFrom_43 rfl rfl ?_
            refine G_getf fl_X4_9 dX4_drawFrom_44 (by assumption) rfl ?_
            refine G_iload_n dX4_drawFrom_47 rfl rfl ?_
            refine G_iald dX4_drawFrom_48 (by assumption) (by omega) (by omega) (by decide) ?_
            refine G_aload_n dX4_drawFrom_49 rfl rfl ?_
            refine G_iload_n dX4_drawFrom_50 rfl rfl ?_
            refine G_callV (ci := 4) (as := [_]) (c_X4_coneOf _ b c r si z _ t n i hWW hn hc hr hz (inR_of (by omega) (by omega))) dX4_drawFrom_51 ml_X4_64 cv_X4_coneOf (by assumption) rfl rfl (Nat.le_of_ble_eq_true rfl) (Nat.le_of_ble_eq_true rfl) rfl (fun r h2 hp => ?_)
            obtain ⟨rfl, rfl⟩ := hp
            refine G_callV (ci := 0) (as := [_, _]) (c_X0_excess _ b2 dep sil hei wet (c i) _ hBB hrd hrs hrh (by omega) (by omega)) dX4_drawFrom_54 ml_X4_67 cv_X0_excess (by assumption) rfl rfl (Nat.le_of_ble_eq_true rfl) (Nat.le_of_ble_eq_true rfl) rfl (fun r h2 hp => ?_)
            obtain ⟨rfl, rfl⟩ := hp
            refine G_istore_n dX4_drawFrom_57 rfl (by decide) rfl ?_
            refine G_aload_n dX4_drawFrom_58 rfl rfl ?_
            refine G_getf fl_X4_18 dX4_drawFrom_59 (by assumption) rfl ?_
            refine G_iload_n dX4_drawFrom_62 rfl rfl ?_
            refine G_aload_n dX4_drawFrom_63 rfl rfl ?_
            refine G_getf fl_X4_18 dX4_drawFrom_64 (by assumption) rfl ?_
            refine G_iload_n dX4_drawFrom_67 rfl rfl ?_
            refine G_iald dX4_drawFrom_68 (by assumption) (by omega) (by omega) (by decide) ?_
            rw [hs_i]
            refine G_iload_n dX4_drawFrom_69 rfl rfl ?_
            refine G_callS (as := [_, _]) (c_X4_saltBehind _ (s i) _ ⟨by omega, by omega⟩ ⟨by omega, by omega⟩) dX4_drawFrom_70 ml_X4_72 cs_X4_saltBehind rfl (Nat.le_of_ble_eq_true rfl) (Nat.le_of_ble_eq_true rfl) rfl (fun r h2 hp => ?_)
            obtain ⟨rfl, rfl⟩ := hp
            refine G_iast dX4_drawFrom_73 (by assumption) (by omega) (by omega) (by decide) rfl ?_
            have hWW := hWW.set3 (fup si i (sbI (s i) (hei (c i) + conI c r z n i - (dep (c i) - sil (c i)))))
            obtain ⟨hV0, hV1, hV2, hV3, hV4, hV5, hV6⟩ := id hWW
            have hF := hF.tr (Fr.set (o := oI 6 (fup si i (sbI (s i) (hei (c i) + conI c r z n i - (dep (c i) - sil (c i)))))) (show b ≤ b + 3 by omega) (show b + 3 < b + 7 by omega))
            refine G_iinc dX4_drawFrom_74 (by decide) rfl rfl ?_
            refine G_goto (tgt := 2) dX4_drawFrom_77 (by decide) ?_
            refine G_forget 3 ?_
            refine ih (i + 1) _ _ _ (by omega) (by omega) (by assumption) (by assumption) ?_ ?_ (by omega)
            · intro j j0 j1
              by_cases e : j = i
              · rw [e, fup_eq, if_pos (by omega)]; unfold salF; rw [if_pos (by omega), if_pos (by omega)]; rfl
              · rw [fup_ne e, hs1 j j0 j1]
                by_cases e2 : j < i
                · rw [if_pos e2, if_pos (by omega)]
                · rw [if_neg e2, if_neg (by omega)]
            · intro j j0 j1
              by_cases e : j = i
              · rw [e, fup_eq, if_pos (by omega)]; rw [hd_i]; unfold draF; rw [if_pos (by omega)]
              · rw [fup_ne e, hd1 j j0 j1]
                by_cases e2 : j < i
                · rw [if_pos e2, if_pos (by omega)]
                · rw [if_neg e2, if_neg (by omega)]
  refine G_iconst dX4_drawFrom_0 ?_
  refine G_istore_n dX4_drawFrom_1 rfl (by decide) rfl ?_
  exact L (n.toNat + 1) 0 h s d (by omega) (by omega) hW Fr.rf (fun j j0 j1 => by rw [if_neg (by omega)]) (fun j j0 j1 => by rw [if_neg (by omega)]) (by omega)
