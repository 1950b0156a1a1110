set_option maxRecDepth 100000 in
set_option maxHeartbeats 4000000 in
theorem c_X0_deepen (h : List PO) (b : Nat) (v : SV) (c d : Int) (hB : bedAt h b (v 0) (v 1) (v 2) (v 3)) (hrd : RG 1 60 40 (v 0)) (hrs : RG 0 60 40 (v 1)) (hrh : RG 0 60 40 (v 2)) (hc : inR c) (hd : inR d) : PM 1 yX0_deepen cX0_deepen 4 (some .int) h [r_ b, i_ c, i_ d] (fun r h2 => r = some (i_ (digR v c d)) ∧ (if 0 ≤ digR v c d then h.set (b + 1) (oI 40 (fup (v 0) c d)) else h) = h2) := by
  refine PM_of_G RX0 [some (r_ b), some (i_ c), some (i_ d), none] rfl (by decide +kernel) (Nat.le_of_ble_eq_true rfl) rfl ?_
  obtain ⟨hB0, hB1, hB2, hB3, hB4⟩ := id hB
  have hc1 := hc.1
  have hc2 := hc.2
  have hd1 := hd.1
  have hd2 := hd.2
  refine G_iload_n dX0_deepen_0 rfl rfl ?_
  refine G_callSN (as := [_]) (c_X5_isCell h c hc) dX0_deepen_1 (fun _ _ E => E.2.1.1) cs_X5_isCell rfl (Nat.le_of_ble_eq_true rfl) (Nat.le_of_ble_eq_true rfl) rfl (fun r h2 hp => ?_)
  obtain ⟨z, rfl, rfl, hz⟩ := hp
  refine G_if_ne (tgt := 9) dX0_deepen_4 (by decide) (inR_of (by omega) (by omega)) (fun hc4 => ?_) (fun hc4 => ?_)
  · skip
    refine G_iload_n dX0_deepen_9 rfl rfl ?_
    refine G_iconst dX0_deepen_10 ?_
    refine G_icmp_lt (tgt := 20) dX0_deepen_11 (by decide) (inR_of (by omega) (by omega)) (inR_of (by omega) (by omega)) (fun hc11 => ?_) (fun hc11 => ?_)
    · skip
      refine G_bipush dX0_deepen_20 rfl ?_
      refine G_ireturn dX0_deepen_22 rfl ?_
      have e : digR v c d = -2 := by unfold digR; rw [if_neg (by omega), if_pos (by omega)]
      exact ⟨by rw [e], by rw [e, if_neg (by omega)]⟩
    · skip
      refine G_iload_n dX0_deepen_14 rfl rfl ?_
      refine G_bipush dX0_deepen_15 rfl ?_
      refine G_icmp_le (tgt := 23) dX0_deepen_17 (by decide) (inR_of (by omega) (by omega)) (inR_of (by omega) (by omega)) (fun hc17 => ?_) (fun hc17 => ?_)
      · skip
        refine G_aload_n dX0_deepen_23 rfl rfl ?_
        refine G_getf fl_X0_18 dX0_deepen_24 (by assumption) rfl ?_
        refine G_iload_n dX0_deepen_27 rfl rfl ?_
        refine G_ialdR dX0_deepen_28 (by assumption) (by assumption) (by omega) (by omega) (by decide) (fun _ _ => ?_)
        refine G_iload_n dX0_deepen_29 rfl rfl ?_
        refine G_icmp_gt (tgt := 43) dX0_deepen_30 (by decide) (inR_of (by omega) (by omega)) (inR_of (by omega) (by omega)) (fun hc30 => ?_) (fun hc30 => ?_)
        · skip
          refine G_bipush dX0_deepen_43 rfl ?_
          refine G_ireturn dX0_deepen_45 rfl ?_
          have e : digR v c d = -4 := by unfold digR; rw [if_neg (by omega), if_neg (by omega), if_pos (by omega)]
          exact ⟨by rw [e], by rw [e, if_neg (by omega)]⟩
        · skip
          refine G_aload_n dX0_deepen_33 rfl rfl ?_
          refine G_getf fl_X0_15 dX0_deepen_34 (by assumption) rfl ?_
          refine G_iload_n dX0_deepen_37 rfl rfl ?_
          refine G_ialdR dX0_deepen_38 (by assumption) (by assumption) (by omega) (by omega) (by decide) (fun _ _ => ?_)
          refine G_iload_n dX0_deepen_39 rfl rfl ?_
          refine G_icmp_le (tgt := 46) dX0_deepen_40 (by decide) (inR_of (by omega) (by omega)) (inR_of (by omega) (by omega)) (fun hc40 => ?_) (fun hc40 => ?_)
          · skip
            refine G_aload_n dX0_deepen_46 rfl rfl ?_
            refine G_getf fl_X0_9 dX0_deepen_47 (by assumption) rfl ?_
            refine G_iload_n dX0_deepen_50 rfl rfl ?_
            refine G_ialdR dX0_deepen_51 (by assumption) (by assumption) (by omega) (by omega) (by decide) (fun _ _ => ?_)
            refine G_istore_n dX0_deepen_52 rfl (by decide) rfl ?_
            refine G_aload_n dX0_deepen_53 rfl rfl ?_
            refine G_getf fl_X0_9 dX0_deepen_54 (by assumption) rfl ?_
            refine G_iload_n dX0_deepen_57 rfl rfl ?_
            refine G_iload_n dX0_deepen_58 rfl rfl ?_
            refine G_iast dX0_deepen_59 (by assumption) (by omega) (by omega) (by decide) rfl ?_
            refine G_iload_n dX0_deepen_60 rfl rfl ?_
            refine G_iload_n dX0_deepen_61 rfl rfl ?_
            refine G_icmp_ne (tgt := 70) dX0_deepen_62 (by decide) (inR_of (by omega) (by omega)) (inR_of (by omega) (by omega)) (fun hc62 => ?_) (fun hc62 => ?_)
            · skip
              refine G_iload_n dX0_deepen_70 rfl rfl ?_
              refine G_ireturn dX0_deepen_71 rfl ?_
              first
                | (have e : digR v c d = -5 := by unfold digR; rw [if_neg (by omega), if_neg (by omega), if_neg (by omega), if_pos (by omega)]
                   exact ⟨by rw [e], by rw [e, if_neg (by omega), fup_same (by omega)]; exact (set_same hB1).symm⟩)
                | (have e : digR v c d = v 0 c := by unfold digR; rw [if_neg (by omega), if_neg (by omega), if_neg (by omega), if_neg (by omega)]
                   exact ⟨by rw [e], by rw [e, if_pos (by omega)]⟩)
            · skip
              refine G_bipush dX0_deepen_65 rfl ?_
              refine G_goto (tgt := 71) dX0_deepen_67 (by decide) ?_
              refine G_ireturn dX0_deepen_71 rfl ?_
              first
                | (have e : digR v c d = -5 := by unfold digR; rw [if_neg (by omega), if_neg (by omega), if_neg (by omega), if_pos (by omega)]
                   exact ⟨by rw [e], by rw [e, if_neg (by omega), fup_same (by omega)]; exact (set_same hB1).symm⟩)
                | (have e : digR v c d = v 0 c := by unfold digR; rw [if_neg (by omega), if_neg (by omega), if_neg (by omega), if_neg (by omega)]
                   exact ⟨by rw [e], by rw [e, if_pos (by omega)]⟩)
          · skip
            refine G_bipush dX0_deepen_43 rfl ?_
            refine G_ireturn dX0_deepen_45 rfl ?_
            have e : digR v c d = -4 := by unfold digR; rw [if_neg (by omega), if_neg (by omega), if_pos (by omega)]
            exact ⟨by rw [e], by rw [e, if_neg (by omega)]⟩
      · skip
        refine G_bipush dX0_deepen_20 rfl ?_
        refine G_ireturn dX0_deepen_22 rfl ?_
        have e : digR v c d = -2 := by unfold digR; rw [if_neg (by omega), if_pos (by omega)]
        exact ⟨by rw [e], by rw [e, if_neg (by omega)]⟩
  · skip
    refine G_iconst dX0_deepen_7 ?_
    refine G_ireturn dX0_deepen_8 rfl ?_
    have e : digR v c d = -1 := by unfold digR; rw [if_pos (by omega)]
    exact ⟨by rw [e], by rw [e, if_neg (by omega)]⟩
set_option maxRecDepth 100000 in
set_option maxHeartbeats 4000000 in
theorem c_X0_raiseSill (h : List PO) (b : Nat) (v : SV) (c d : Int) (hB : bedAt h b (v 0) (v 1) (v 2) (v 3)) (hrd : RG 1 60 40 (v 0)) (hrs : RG 0 60 40 (v 1)) (hrh : RG 0 60 40 (v 2)) (hc : inR c) (hd : inR d) : PM 1 yX0_raiseSill cX0_raiseSill 4 (some .int) h [r_ b, i_ c, i_ d] (fun r h2 => r = some (i_ (buildR v c d)) ∧ (if 0 ≤ buildR v c d then h.set (b + 2) (oI 40 (fup (v 1) c d)) else h) = h2) := by
  refine PM_of_G RX0 [some (r_ b), some (i_ c), some (i_ d), none] rfl (by decide +kernel) (Nat.le_of_ble_eq_true rfl) rfl ?_
  obtain ⟨hB0, hB1, hB2, hB3, hB4⟩ := id hB
  have hc1 := hc.1
  have hc2 := hc.2
  have hd1 := hd.1
  have hd2 := hd.2
  refine G_iload_n dX0_raiseSill_0 rfl rfl ?_
  refine G_callSN (as := [_]) (c_X5_isCell h c hc) dX0_raiseSill_1 (fun _ _ E => E.2.1.1) cs_X5_isCell rfl (Nat.le_of_ble_eq_true rfl) (Nat.le_of_ble_eq_true rfl) rfl (fun r h2 hp => ?_)
  obtain ⟨z, rfl, rfl, hz⟩ := hp
  refine G_if_ne (tgt := 9) dX0_raiseSill_4 (by decide) (inR_of (by omega) (by omega)) (fun hc4 => ?_) (fun hc4 => ?_)
  · skip
    refine G_iload_n dX0_raiseSill_9 rfl rfl ?_
    refine G_if_lt (tgt := 19) dX0_raiseSill_10 (by decide) (inR_of (by omega) (by omega)) (fun hc10 => ?_) (fun hc10 => ?_)
    · skip
      refine G_bipush dX0_raiseSill_19 rfl ?_
      refine G_ireturn dX0_raiseSill_21 rfl ?_
      have e : buildR v c d = -2 := by unfold buildR; rw [if_neg (by omega), if_pos (by omega)]
      exact ⟨by rw [e], by rw [e, if_neg (by omega)]⟩
    · skip
      refine G_iload_n dX0_raiseSill_13 rfl rfl ?_
      refine G_bipush dX0_raiseSill_14 rfl ?_
      refine G_icmp_le (tgt := 22) dX0_raiseSill_16 (by decide) (inR_of (by omega) (by omega)) (inR_of (by omega) (by omega)) (fun hc16 => ?_) (fun hc16 => ?_)
      · skip
        refine G_iload_n dX0_raiseSill_22 rfl rfl ?_
        refine G_aload_n dX0_raiseSill_23 rfl rfl ?_
        refine G_getf fl_X0_9 dX0_raiseSill_24 (by assumption) rfl ?_
        refine G_iload_n dX0_raiseSill_27 rfl rfl ?_
        refine G_ialdR dX0_raiseSill_28 (by assumption) (by assumption) (by omega) (by omega) (by decide) (fun _ _ => ?_)
        refine G_icmp_le (tgt := 35) dX0_raiseSill_29 (by decide) (inR_of (by omega) (by omega)) (inR_of (by omega) (by omega)) (fun hc29 => ?_) (fun hc29 => ?_)
        · skip
          refine G_aload_n dX0_raiseSill_35 rfl rfl ?_
          refine G_getf fl_X0_15 dX0_raiseSill_36 (by assumption) rfl ?_
          refine G_iload_n dX0_raiseSill_39 rfl rfl ?_
          refine G_ialdR dX0_raiseSill_40 (by assumption) (by assumption) (by omega) (by omega) (by decide) (fun _ _ => ?_)
          refine G_istore_n dX0_raiseSill_41 rfl (by decide) rfl ?_
          refine G_aload_n dX0_raiseSill_42 rfl rfl ?_
          refine G_getf fl_X0_15 dX0_raiseSill_43 (by assumption) rfl ?_
          refine G_iload_n dX0_raiseSill_46 rfl rfl ?_
          refine G_iload_n dX0_raiseSill_47 rfl rfl ?_
          refine G_iast dX0_raiseSill_48 (by assumption) (by omega) (by omega) (by decide) rfl ?_
          refine G_iload_n dX0_raiseSill_49 rfl rfl ?_
          refine G_iload_n dX0_raiseSill_50 rfl rfl ?_
          refine G_icmp_ne (tgt := 59) dX0_raiseSill_51 (by decide) (inR_of (by omega) (by omega)) (inR_of (by omega) (by omega)) (fun hc51 => ?_) (fun hc51 => ?_)
          · skip
            refine G_iload_n dX0_raiseSill_59 rfl rfl ?_
            refine G_ireturn dX0_raiseSill_60 rfl ?_
            first
              | (have e : buildR v c d = -5 := by unfold buildR; rw [if_neg (by omega), if_neg (by omega), if_neg (by omega), if_pos (by omega)]
                 exact ⟨by rw [e], by rw [e, if_neg (by omega), fup_same (by omega)]; exact (set_same hB2).symm⟩)
              | (have e : buildR v c d = v 1 c := by unfold buildR; rw [if_neg (by omega), if_neg (by omega), if_neg (by omega), if_neg (by omega)]
                 exact ⟨by rw [e], by rw [e, if_pos (by omega)]⟩)
          · skip
            refine G_bipush dX0_raiseSill_54 rfl ?_
            refine G_goto (tgt := 60) dX0_raiseSill_56 (by decide) ?_
            refine G_ireturn dX0_raiseSill_60 rfl ?_
            first
              | (have e : buildR v c d = -5 := by unfold buildR; rw [if_neg (by omega), if_neg (by omega), if_neg (by omega), if_pos (by omega)]
                 exact ⟨by rw [e], by rw [e, if_neg (by omega), fup_same (by omega)]; exact (set_same hB2).symm⟩)
              | (have e : buildR v c d = v 1 c := by unfold buildR; rw [if_neg (by omega), if_neg (by omega), if_neg (by omega), if_neg (by omega)]
                 exact ⟨by rw [e], by rw [e, if_pos (by omega)]⟩)
        · skip
          refine G_bipush dX0_raiseSill_32 rfl ?_
          refine G_ireturn dX0_raiseSill_34 rfl ?_
          have e : buildR v c d = -4 := by unfold buildR; rw [if_neg (by omega), if_neg (by omega), if_pos (by omega)]
          exact ⟨by rw [e], by rw [e, if_neg (by omega)]⟩
      · skip
        refine G_bipush dX0_raiseSill_19 rfl ?_
        refine G_ireturn dX0_raiseSill_21 rfl ?_
        have e : buildR v c d = -2 := by unfold buildR; rw [if_neg (by omega), if_pos (by omega)]
        exact ⟨by rw [e], by rw [e, if_neg (by omega)]⟩
  · skip
    refine G_iconst dX0_raiseSill_7 ?_
    refine G_ireturn dX0_raiseSill_8 rfl ?_
    have e : buildR v c d = -1 := by unfold buildR; rw [if_pos (by omega)]
    exact ⟨by rw [e], by rw [e, if_neg (by omega)]⟩
def heiF (push slope step : Int) (dep sil hei : Int → Int) : Int → Int := fun j => moveI (hei j) (mkI push slope sil dep j) step
def wetF (hei2 wet : Int → Int) : Int → Int := fun j => wet j + wetI hei2 j
theorem mkI_rng {push slope : Int} {sil dep : Int → Int} (hs : RG 0 60 40 sil) (hd : RG 1 60 40 dep) {c : Int} (h0 : 0 ≤ c) (h1 : c < 40) : 0 ≤ mkI push slope sil dep c ∧ mkI push slope sil dep c ≤ 60 := by
  have a := mkf_rng (o := offI push slope sil dep c) (hs c h0 h1).1 (hd c h0 h1).1
  have b := (hd c h0 h1).2
  unfold mkI; omega
theorem moveI_rng {q mk s : Int} (hq : 0 ≤ q ∧ q ≤ 60) (hm : 0 ≤ mk ∧ mk ≤ 60) (hs : 1 ≤ s) : 0 ≤ moveI q mk s ∧ moveI q mk s ≤ 60 := by
  unfold moveI
  by_cases z : q < mk
  · rw [if_pos z]; omega
  · rw [if_neg z]; omega
theorem heiF_rng {push slope step : Int} {dep sil hei : Int → Int} (hd : RG 1 60 40 dep) (hs : RG 0 60 40 sil) (hh : RG 0 60 40 hei) (h1 : 1 ≤ step) : RG 0 60 40 (heiF push slope step dep sil hei) :=
  fun j a b => moveI_rng (hh j a b) (mkI_rng hs hd a b) h1
set_option maxRecDepth 100000 in
set_option maxHeartbeats 4000000 in
theorem c_X0_follow (h : List PO) (b : Nat) (dep sil hei wet : Int → Int) (push slope step : Int) (hB : bedAt h b dep sil hei wet) (hrd : RG 1 60 40 dep) (hrs : RG 0 60 40 sil) (hrh : RG 0 60 40 hei) (hp : -200 ≤ push ∧ push ≤ 200) (hl : 0 ≤ slope ∧ slope ≤ 9) (hst : 1 ≤ step ∧ step ≤ 60) : PM 2 yX0_follow cX0_follow 7 none h [r_ b, i_ push, i_ slope, i_ step] (fun r h2 => r = none ∧ Fr h h2 b (b + 5) ∧ bedAt h2 b dep sil (heiF push slope step dep sil hei) (wetF (heiF push slope step dep sil hei) wet)) := by
  refine PM_of_G RX0 [some (r_ b), some (i_ push), some (i_ slope), some (i_ step), none, none, none] rfl (by decide +kernel) (Nat.le_of_ble_eq_true rfl) rfl ?_
  have L : ∀ (n : Nat) (i : Int) (hh : List PO) (he : Int → Int) (we : Int → Int), 0 ≤ i → i ≤ 40 → bedAt hh b dep sil he we → Fr h hh b (b + 5) → (∀ j : Int, 0 ≤ j → j < 40 → he j = if j < i then heiF push slope step dep sil hei j else hei j) → (∀ j : Int, 0 ≤ j → j < 40 → we j = if j < i then wetF (heiF push slope step dep sil hei) wet j else wet j) → 40 - i < n → G 2 cX0_follow RX0 7 none hh 6 [some (r_ b), some (i_ push), some (i_ slope), some (i_ step), some (i_ (offI push slope sil dep i)), some (i_ i), none] [] (fun r h2 => r = none ∧ Fr h h2 b (b + 5) ∧ bedAt h2 b dep sil (heiF push slope step dep sil hei) (wetF (heiF push slope step dep sil hei) wet)) := by
    intro n
    induction n with
    | zero => intro i hh he we a1 a2 hBB hF he1 hw1 hmeas; exfalso; omega
    | succ n ih =>
      intro i hh he we a1 a2 hBB hF he1 hw1 hmeas
      have ho := offI_rng hp hl hrs hrd i a1 a2
      obtain ⟨hHH0, hHH1, hHH2, hHH3, hHH4⟩ := id hBB
      refine G_iload dX0_follow_6 rfl ?_
      refine G_bipush dX0_follow_8 rfl ?_
      refine G_icmp_ge (tgt := 76) dX0_follow_10 (by decide) (inR_of (by omega) (by omega)) (inR_of (by omega) (by omega)) (fun hc10 => ?_) (fun hc10 => ?_)
      · skip
        have e : i = 40 := by omega
        subst e
        refine G_norm (heiF push slope step dep sil hei) hHH3 (fun j j0 j1 => by rw [he1 j j0 j1, if_pos (by exact j1)]) ?_
        have hBx := hBB.set3 (heiF push slope step dep sil hei)
        obtain ⟨hX0, hX1, hX2, hX3, hX4⟩ := id hBx
        refine G_norm (wetF (heiF push slope step dep sil hei) wet) hX4 (fun j j0 j1 => by rw [hw1 j j0 j1, if_pos (by exact j1)]) ?_
        refine G_return dX0_follow_76 rfl ?_
        exact ⟨rfl, (hF.tr (Fr.set (by omega) (by omega))).tr (Fr.set (by omega) (by omega)), hBx.set4 _⟩
      · skip
        refine G_aload_n dX0_follow_13 rfl rfl ?_
        refine G_iload dX0_follow_14 rfl ?_
        refine G_iload dX0_follow_16 rfl ?_
        refine G_callV (ci := 0) (as := [_, _]) (c_X0_markFrom' hh b dep sil he we i _ hBB hrd hrs (by omega) (by omega) (by omega)) dX0_follow_18 ml_X0_46 cv_X0_markFrom (by assumption) rfl rfl (Nat.le_of_ble_eq_true rfl) (Nat.le_of_ble_eq_true rfl) rfl (fun r h2 hp => ?_)
        obtain ⟨rfl, rfl⟩ := hp
        refine G_istore dX0_follow_21 (by decide) rfl ?_
        refine G_aload_n dX0_follow_23 rfl rfl ?_
        refine G_getf fl_X0_18 dX0_follow_24 (by assumption) rfl ?_
        refine G_iload dX0_follow_27 rfl ?_
        refine G_aload_n dX0_follow_29 rfl rfl ?_
        refine G_getf fl_X0_18 dX0_follow_30 (by assumption) rfl ?_
        refine G_iload dX0_follow_33 rfl ?_
        refine G_iald dX0_follow_35 (by assumption) (by omega) (by omega) (by decide) ?_
        have hei_i : he i = hei i := by rw [he1 i a1 (by omega), if_neg (by omega)]
        have hrhi := hrh i a1 (by omega)
        refine G_iload dX0_follow_36 rfl ?_
        refine G_iload_n dX0_follow_38 rfl rfl ?_
        refine G_callS (as := [_, _, _]) (c_X0_moved hh (he i) _ step (by omega) (by have := mkI_rng (push := push) (slope := slope) hrs hrd a1 (by omega); unfold mkI at this; omega) hst) dX0_follow_39 ml_X0_56 cs_X0_moved rfl (Nat.le_of_ble_eq_true rfl) (Nat.le_of_ble_eq_true rfl) rfl (fun r h2 hp => ?_)
        obtain ⟨rfl, rfl⟩ := hp
        refine G_iast dX0_follow_42 (by assumption) (by omega) (by omega) (by decide) (by rw [hei_i]) ?_
        have hBx := hBB.set3 (fup he i (heiF push slope step dep sil hei i))
        obtain ⟨hX0, hX1, hX2, hX3, hX4⟩ := id hBx
        have hFx : Fr h (hh.set (b + 3) (oI 40 (fup he i (heiF push slope step dep sil hei i)))) b (b + 5) := hF.tr (Fr.set (by omega) (by omega))
        have hni := heiF_rng (push := push) (slope := slope) hrd hrs hrh hst.1 i a1 (by omega)
        refine G_aload_n dX0_follow_43 rfl rfl ?_
        refine G_getf fl_X0_18 dX0_follow_44 (by assumption) rfl ?_
        refine G_iload dX0_follow_47 rfl ?_
        refine G_iald dX0_follow_49 (by assumption) (by omega) (by omega) (by decide) ?_
        rw [fup_eq]
        refine G_if_le (tgt := 64) dX0_follow_50 (by decide) (inR_of (by omega) (by omega)) (fun hc50 => ?_) (fun hc50 => ?_)
        · skip
          refine G_iload dX0_follow_64 rfl ?_
          refine G_iload_n dX0_follow_66 rfl rfl ?_
          refine G_isub dX0_follow_67 ?_
          refine G_istore (lv2 := [some (r_ b), some (i_ push), some (i_ slope), some (i_ step), some (i_ (offI push slope sil dep (i + 1))), some (i_ i), some (i_ (mkf (offI push slope sil dep i) (sil i) (dep i)))]) dX0_follow_68 (by decide) (by rw [offI_s _ _ _ _ a1]; rfl) ?_
          refine G_iinc dX0_follow_70 (by decide) rfl rfl ?_
          refine G_goto (tgt := 6) dX0_follow_73 (by decide) ?_
          have hwi : we i = wet i := by rw [hw1 i a1 (by omega), if_neg (by omega)]
          refine G_forget 6 ?_
          refine ih (i + 1) _ _ _ (by omega) (by omega) (by assumption) (by assumption) ?_ ?_ (by omega)
          · intro j j0 j1
            by_cases z : j = i
            · rw [z, fup_eq, if_pos (by omega)]
            · rw [fup_ne z, he1 j j0 j1]
              by_cases z2 : j < i
              · rw [if_pos z2, if_pos (by omega)]
              · rw [if_neg z2, if_neg (by omega)]
          · intro j j0 j1
            by_cases z : j = i
            · rw [z, if_pos (by omega), hwi]; unfold wetF; rw [wetI_0 (by omega), Int.add_zero]
            · rw [hw1 j j0 j1]
              by_cases z2 : j < i
              · rw [if_pos z2, if_pos (by omega)]
              · rw [if_neg z2, if_neg (by omega)]
        · skip
          refine G_aload_n dX0_follow_53 rfl rfl ?_
          refine G_getf fl_X0_21 dX0_follow_54 (by assumption) rfl ?_
          refine G_iload dX0_follow_57 rfl ?_
          refine G_dup2 dX0_follow_59 ?_
          refine G_iald dX0_follow_60 (by assumption) (by omega) (by omega) (by decide) ?_
          have hwi : we i = wet i := by rw [hw1 i a1 (by omega), if_neg (by omega)]
          refine G_iconst dX0_follow_61 ?_
          refine G_iadd dX0_follow_62 ?_
          refine G_iast dX0_follow_63 (by assumption) (by omega) (by omega) (by decide) rfl ?_
          have hBy := hBx.set4 (fup we i (we i + 1))
          have hFy := hFx.tr (Fr.set (o := oI 40 (fup we i (we i + 1))) (show b ≤ b + 4 by omega) (show b + 4 < b + 5 by omega))
          refine G_iload dX0_follow_64 rfl ?_
          refine G_iload_n dX0_follow_66 rfl rfl ?_
          refine G_isub dX0_follow_67 ?_
          refine G_istore (lv2 := [some (r_ b), some (i_ push), some (i_ slope), some (i_ step), some (i_ (offI push slope sil dep (i + 1))), some (i_ i), some (i_ (mkf (offI push slope sil dep i) (sil i) (dep i)))]) dX0_follow_68 (by decide) (by rw [offI_s _ _ _ _ a1]; rfl) ?_
          refine G_iinc dX0_follow_70 (by decide) rfl rfl ?_
          refine G_goto (tgt := 6) dX0_follow_73 (by decide) ?_
          refine G_forget 6 ?_
          refine ih (i + 1) _ _ _ (by omega) (by omega) (by assumption) (by assumption) ?_ ?_ (by omega)
          · intro j j0 j1
            by_cases z : j = i
            · rw [z, fup_eq, if_pos (by omega)]
            · rw [fup_ne z, he1 j j0 j1]
              by_cases z2 : j < i
              · rw [if_pos z2, if_pos (by omega)]
              · rw [if_neg z2, if_neg (by omega)]
          · intro j j0 j1
            by_cases z : j = i
            · rw [z, fup_eq, if_pos (by omega), hwi]; unfold wetF; rw [wetI_1 (by omega)]
            · rw [fup_ne z, hw1 j j0 j1]
              by_cases z2 : j < i
              · rw [if_pos z2, if_pos (by omega)]
              · rw [if_neg z2, if_neg (by omega)]
  refine G_iload_n dX0_follow_0 rfl rfl ?_
  refine G_istore dX0_follow_1 (by decide) rfl ?_
  refine G_iconst dX0_follow_3 ?_
  refine G_istore dX0_follow_4 (by decide) rfl ?_
  exact L 41 0 h hei wet (by omega) (by omega) hB Fr.rf (fun j j0 j1 => by rw [if_neg (by omega)]) (fun j j0 j1 => by rw [if_neg (by omega)]) (by omega)
set_option maxRecDepth 100000 in
set_option maxHeartbeats 4000000 in
theorem c_X0_copyFrom (h : List PO) (b a : Nat) (dep sil hei wet d2 s2 e2 w2 : Int → Int) (hT : bedAt h b d2 s2 e2 w2) (hO : bedAt h a dep sil hei wet) (hab : a + 5 ≤ b ∨ b + 5 ≤ a) : PM 2 yX0_copyFrom cX0_copyFrom 2 none h [r_ b, r_ a] (fun r h2 => r = none ∧ Fr h h2 b (b + 5) ∧ bedAt h2 b dep sil hei wet) := by
  refine PM_of_G RX0 [some (r_ b), some (r_ a)] rfl (by decide +kernel) (Nat.le_of_ble_eq_true rfl) rfl ?_
  obtain ⟨hT0, hT1, hT2, hT3, hT4⟩ := id hT
  obtain ⟨hO0, hO1, hO2, hO3, hO4⟩ := id hO
  have hF : Fr h h b (b + 5) := Fr.rf
  refine G_aload_n dX0_copyFrom_0 rfl rfl ?_
  refine G_getf fl_X0_9 dX0_copyFrom_1 (by assumption) rfl ?_
  refine G_iconst dX0_copyFrom_4 ?_
  refine G_aload_n dX0_copyFrom_5 rfl rfl ?_
  refine G_getf fl_X0_9 dX0_copyFrom_6 (by assumption) rfl ?_
  refine G_iconst dX0_copyFrom_9 ?_
  refine G_bipush dX0_copyFrom_10 rfl ?_
  refine G_copy dX0_copyFrom_12 mc_X0_30 (by assumption) (by assumption) rfl (by decide) (Nat.le_of_ble_eq_true rfl) (Nat.le_of_ble_eq_true rfl) ?_
  have hT := hT.set1 dep
  obtain ⟨hT0, hT1, hT2, hT3, hT4⟩ := id hT
  have hF := hF.tr (Fr.set (o := oI 40 dep) (show b ≤ b + 1 by omega) (show b + 1 < b + 5 by omega))
  have hO := hO.fr (Fr.set (lo := b) (hi := b + 5) (o := oI 40 dep) (show b ≤ b + 1 by omega) (show b + 1 < b + 5 by omega)) (by omega)
  obtain ⟨hO0, hO1, hO2, hO3, hO4⟩ := id hO
  refine G_aload_n dX0_copyFrom_15 rfl rfl ?_
  refine G_getf fl_X0_15 dX0_copyFrom_16 (by assumption) rfl ?_
  refine G_iconst dX0_copyFrom_19 ?_
  refine G_aload_n dX0_copyFrom_20 rfl rfl ?_
  refine G_getf fl_X0_15 dX0_copyFrom_21 (by assumption) rfl ?_
  refine G_iconst dX0_copyFrom_24 ?_
  refine G_bipush dX0_copyFrom_25 rfl ?_
  refine G_copy dX0_copyFrom_27 mc_X0_30 (by assumption) (by assumption) rfl (by decide) (Nat.le_of_ble_eq_true rfl) (Nat.le_of_ble_eq_true rfl) ?_
  have hT := hT.set2 sil
  obtain ⟨hT0, hT1, hT2, hT3, hT4⟩ := id hT
  have hF := hF.tr (Fr.set (o := oI 40 sil) (show b ≤ b + 2 by omega) (show b + 2 < b + 5 by omega))
  have hO := hO.fr (Fr.set (lo := b) (hi := b + 5) (o := oI 40 sil) (show b ≤ b + 2 by omega) (show b + 2 < b + 5 by omega)) (by omega)
  obtain ⟨hO0, hO1, hO2, hO3, hO4⟩ := id hO
  refine G_aload_n dX0_copyFrom_30 rfl rfl ?_
  refine G_getf fl_X0_18 dX0_copyFrom_31 (by assumption) rfl ?_
  refine G_iconst dX0_copyFrom_34 ?_
  refine G_aload_n dX0_copyFrom_35 rfl rfl ?_
  refine G_getf fl_X0_18 dX0_copyFrom_36 (by assumption) rfl ?_
  refine G_iconst dX0_copyFrom_39 ?_
  refine G_bipush dX0_copyFrom_40 rfl ?_
  refine G_copy dX0_copyFrom_42 mc_X0_30 (by assumption) (by assumption) rfl (by decide) (Nat.le_of_ble_eq_true rfl) (Nat.le_of_ble_eq_true rfl) ?_
  have hT := hT.set3 hei
  obtain ⟨hT0, hT1, hT2, hT3, hT4⟩ := id hT
  have hF := hF.tr (Fr.set (o := oI 40 hei) (show b ≤ b + 3 by omega) (show b + 3 < b + 5 by omega))
  have hO := hO.fr (Fr.set (lo := b) (hi := b + 5) (o := oI 40 hei) (show b ≤ b + 3 by omega) (show b + 3 < b + 5 by omega)) (by omega)
  obtain ⟨hO0, hO1, hO2, hO3, hO4⟩ := id hO
  refine G_aload_n dX0_copyFrom_45 rfl rfl ?_
  refine G_getf fl_X0_21 dX0_copyFrom_46 (by assumption) rfl ?_
  refine G_iconst dX0_copyFrom_49 ?_
  refine G_aload_n dX0_copyFrom_50 rfl rfl ?_
  refine G_getf fl_X0_21 dX0_copyFrom_51 (by assumption) rfl ?_
  refine G_iconst dX0_copyFrom_54 ?_
  refine G_bipush dX0_copyFrom_55 rfl ?_
  refine G_copy dX0_copyFrom_57 mc_X0_30 (by assumption) (by assumption) rfl (by decide) (Nat.le_of_ble_eq_true rfl) (Nat.le_of_ble_eq_true rfl) ?_
  have hT := hT.set4 wet
  obtain ⟨hT0, hT1, hT2, hT3, hT4⟩ := id hT
  have hF := hF.tr (Fr.set (o := oI 40 wet) (show b ≤ b + 4 by omega) (show b + 4 < b + 5 by omega))
  have hO := hO.fr (Fr.set (lo := b) (hi := b + 5) (o := oI 40 wet) (show b ≤ b + 4 by omega) (show b + 4 < b + 5 by omega)) (by omega)
  obtain ⟨hO0, hO1, hO2, hO3, hO4⟩ := id hO
  refine G_return dX0_copyFrom_60 rfl ?_
  exact ⟨rfl, hF, hT⟩
