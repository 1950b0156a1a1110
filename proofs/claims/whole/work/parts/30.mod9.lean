theorem off_put {push slope : Int} {si d : Int → Int} {i k : Int} : ∀ n : Nat, ((n : Int) ≤ i ∨ (si i < offI push slope si d i ∧ k < offI push slope si d i)) → off push slope (fup si i k) d n = off push slope si d n := by
  intro n
  induction n with
  | zero => intro _; rfl
  | succ n ih =>
    intro h
    have e := ih (by omega)
    show mkf (off push slope (fup si i k) d n) (fup si i k (n : Int)) (d (n : Int)) - slope = mkf (off push slope si d n) (si (n : Int)) (d (n : Int)) - slope
    rw [e]
    by_cases q : (n : Int) = i
    · have h2 : si i < offI push slope si d i ∧ k < offI push slope si d i := by omega
      have e2 : offI push slope si d i = off push slope si d n := by
        unfold offI
        rw [show i.toNat = n from by omega]
      rw [e2] at h2
      rw [q, fup_eq, mkf_gt h2.2, mkf_gt h2.1]
    · rw [fup_ne q]
theorem offI_put {push slope : Int} {si d : Int → Int} {i k j : Int} (hj : 0 ≤ j) (h : j ≤ i ∨ (si i < offI push slope si d i ∧ k < offI push slope si d i)) : offI push slope (fup si i k) d j = offI push slope si d j := by
  unfold offI
  exact off_put j.toNat (by unfold offI at h ⊢; omega)
/-- one more sill stops a tide in its own cell, or changes nothing -/
theorem stI_put {push slope : Int} {si d : Int → Int} {i k t : Int} (ht : IsStop push slope si d t) (h0 : 0 ≤ i) (h1 : i < 40) (hk : si i < k) : stI push slope (fup si i k) d = if i < t ∧ offI push slope si d i ≤ k then i else t := by
  refine (stI_is push slope (fup si i k) d).uniq ?_
  obtain ⟨t0, t1, t2, t3⟩ := ht
  by_cases q : i < t ∧ offI push slope si d i ≤ k
  · rw [if_pos q]
    refine ⟨h0, by omega, fun c c0 c1 => ?_, fun _ => ?_⟩
    · rw [offI_put c0 (Or.inl (by omega)), fup_ne (by omega)]
      exact t2 c c0 (by omega)
    · rw [offI_put h0 (Or.inl (Int.le_refl i)), fup_eq]
      exact q.2
  · rw [if_neg q]
    have key : ∀ c : Int, 0 ≤ c → c ≤ t → offI push slope (fup si i k) d c = offI push slope si d c := fun c c0 c1 => by
      by_cases z : i < t
      · have a := t2 i h0 z
        exact offI_put c0 (Or.inr ⟨a, by omega⟩)
      · exact offI_put c0 (Or.inl (by omega))
    refine ⟨t0, t1, fun c c0 c1 => ?_, fun h40 => ?_⟩
    · rw [key c c0 (by omega)]
      by_cases z : c = i
      · rw [z, fup_eq]
        have : i < t := by omega
        omega
      · rw [fup_ne z]
        exact t2 c c0 c1
    · rw [key t t0 (Int.le_refl t)]
      have a := t3 h40
      by_cases z : t = i
      · rw [z] at a ⊢
        rw [fup_eq]
        omega
      · rw [fup_ne z]
        exact a
def bsInv (push slope : Int) (si d : Int → Int) (k t i best least : Int) : Prop := best = -5 ∧ least = t ∧ (i ≤ t → bsN push slope si d k 40 = bsN push slope si d k (40 - i).toNat) ∧ (t < i → bsN push slope si d k 40 = -5) ∨ (0 ≤ best ∧ best < i ∧ best < t) ∧ least = best ∧ bsN push slope si d k 40 = best
theorem bsInv_no {push slope : Int} {si d : Int → Int} {k t i best least : Int} (ht : IsStop push slope si d t) (h0 : 0 ≤ i) (h1 : i < 40) (h : bsInv push slope si d k t i best least) (hn : ¬ (i < t ∧ offI push slope si d i ≤ k ∧ si i < k ∧ k ≤ d i)) : bsInv push slope si d k t (i + 1) best least := by
  rcases h with ⟨a, b, c, e⟩ | ⟨a, b, c⟩
  · refine Or.inl ⟨a, b, fun q => ?_, fun q => ?_⟩
    · have g := ht.2.2.1 i h0 (by omega)
      rw [c (by omega), bsN_step h0 h1, if_neg (by omega), if_neg (by omega)]
    · by_cases z : i = t
      · have g := ht.2.2.2 (by omega)
        rw [← z] at g
        rw [c (by omega), bsN_step h0 h1, if_pos g]
      · exact e (by omega)
  · exact Or.inr ⟨by omega, b, c⟩
theorem bsInv_hit {push slope : Int} {si d : Int → Int} {k t i best least : Int} (ht : IsStop push slope si d t) (h0 : 0 ≤ i) (h1 : i < 40) (h : bsInv push slope si d k t i best least) (hy : i < t ∧ offI push slope si d i ≤ k ∧ si i < k ∧ k ≤ d i) : bsInv push slope si d k t (i + 1) (if i < least then i else best) (min i least) := by
  rcases h with ⟨a, b, c, e⟩ | ⟨a, b, c⟩
  · have g := ht.2.2.1 i h0 hy.1
    rw [if_pos (by omega), Int.min_eq_left (by omega)]
    refine Or.inr ⟨by omega, rfl, ?_⟩
    rw [c (by omega), bsN_step h0 h1, if_neg (by omega), if_pos hy.2]
  · rw [if_neg (by omega), Int.min_eq_right (by omega)]
    exact Or.inr ⟨by omega, b, c⟩
theorem bsInv_same {push slope : Int} {si d : Int → Int} {k t i best least : Int} (h : bsInv push slope si d k t i best least) : (if t < least then i else best) = best ∧ min t least = least := by
  rcases h with ⟨a, b, c, e⟩ | ⟨a, b, c⟩
  · exact ⟨if_neg (by omega), Int.min_eq_right (by omega)⟩
  · exact ⟨if_neg (by omega), Int.min_eq_right (by omega)⟩
theorem bsInv_rng {push slope : Int} {si d : Int → Int} {k t i best least : Int} (h : bsInv push slope si d k t i best least) (ht : 0 ≤ t ∧ t ≤ 40) (hi : i ≤ 40) : (0 ≤ least ∧ least ≤ 40) ∧ (-5 ≤ best ∧ best ≤ 40) := by
  rcases h with ⟨a, b, c, e⟩ | ⟨a, b, c⟩ <;> omega
theorem bsInv_end {push slope : Int} {si d : Int → Int} {k t best least : Int} (h : bsInv push slope si d k t 40 best least) (ht : t ≤ 40) : bsN push slope si d k 40 = best := by
  rcases h with ⟨a, b, c, e⟩ | ⟨a, b, c⟩
  · rw [a]
    by_cases q : t < 40
    · exact e q
    · rw [c (by omega)]
      rfl
  · exact c
set_option maxRecDepth 100000 in
set_option maxHeartbeats 4000000 in
theorem c_X6_stop (h : List PO) (m : Nat) (s tx mk co : Int → Int) (st kp ty sn se fi ca sp le on tw : Int) (b r : Int) (D S H T C R A Z W U : Int → Int) (N : Int) (E : Int → Int) (X Y F : Int) (hM : moAt h m s tx mk co st kp ty sn se fi ca sp le on tw) (b0 : 0 ≤ b) (b1 : b ≤ 1421) (hR : rwF s b D S H T C R A Z W U N E X Y F) (hD : RG 1 60 40 D) (hS : RG 0 60 40 S) (hH : RG 0 60 40 H) (hE : (0 ≤ E 0 ∧ E 0 ≤ 60) ∧ (0 ≤ E 1 ∧ E 1 ≤ 9) ∧ (1 ≤ E 2 ∧ E 2 ≤ 60)) (hX : 0 ≤ X ∧ X ≤ 99) (hr : -30 ≤ r ∧ r ≤ 30) : PM 2 yX6_stop cX6_stop 3 (some .int) h [r_ m, i_ b, i_ r] (fun r0 h2 => r0 = some (i_ (stI (E 0 + r - X) (E 1) S D)) ∧ Fr h h2 m (m + 5) ∧ ∃ (mk2 : Int → Int) (fi2 ca2 : Int), moAt h2 m s tx mk2 co st kp ty sn se fi2 ca2 sp le on tw) := by
  refine PM_of_G RX6 [some (r_ m), some (i_ b), some (i_ r)] rfl (by decide +kernel) (Nat.le_of_ble_eq_true rfl) rfl ?_
  obtain ⟨hM0, hM1, hM2, hM3, hM4⟩ := id hM
  have hIs := stI_is (E 0 + r - X) (E 1) S D
  have hI0 := hIs.1
  have hI1 := hIs.2.1
  have hfo := fiI_or (stI (E 0 + r - X) (E 1) S D) 40
  refine G_aload_n dX6_stop_0 rfl rfl ?_
  refine G_iload_n dX6_stop_1 rfl rfl ?_
  refine G_iload_n dX6_stop_2 rfl rfl ?_
  refine G_callV (ci := 6) (as := [_, _]) (c_X6_findsMarks h m s tx mk co st kp ty sn se fi ca sp le on tw b r D S H T C R A Z W U N E X Y F hM b0 b1 hR hD hS hH hE hX hr) dX6_stop_3 ml_X6_57 cv_X6_findsMarks (by assumption) rfl rfl (Nat.le_of_ble_eq_true rfl) (Nat.le_of_ble_eq_true rfl) rfl (fun r h2 hp => ?_)
  obtain ⟨rfl, hF, mk2, hM, hmk⟩ := hp
  obtain ⟨hM0, hM1, hM2, hM3, hM4⟩ := id hM
  refine G_aload_n dX6_stop_6 rfl rfl ?_
  refine G_getf fl_X6_36 dX6_stop_7 (by assumption) rfl ?_
  refine G_bipush dX6_stop_10 rfl ?_
  refine G_icmp_ne (tgt := 20) dX6_stop_12 (by decide) (inR_of (by omega) (by omega)) (inR_of (by omega) (by omega)) (fun hc12 => ?_) (fun hc12 => ?_)
  · skip
    refine G_aload_n dX6_stop_20 rfl rfl ?_
    refine G_getf fl_X6_36 dX6_stop_21 (by assumption) rfl ?_
    refine G_ireturn dX6_stop_24 rfl ?_
    first
      | (have e : (40 : Int) = stI (E 0 + r - X) (E 1) S D := by omega
         exact ⟨by rw [e], hF, _, _, _, hM⟩)
      | (have e : fiI (stI (E 0 + r - X) (E 1) S D) 40 = stI (E 0 + r - X) (E 1) S D := by omega
         exact ⟨by rw [e], hF, _, _, _, hM⟩)
  · skip
    refine G_bipush dX6_stop_15 rfl ?_
    refine G_goto (tgt := 24) dX6_stop_17 (by decide) ?_
    refine G_ireturn dX6_stop_24 rfl ?_
    first
      | (have e : (40 : Int) = stI (E 0 + r - X) (E 1) S D := by omega
         exact ⟨by rw [e], hF, _, _, _, hM⟩)
      | (have e : fiI (stI (E 0 + r - X) (E 1) S D) 40 = stI (E 0 + r - X) (E 1) S D := by omega
         exact ⟨by rw [e], hF, _, _, _, hM⟩)
theorem fup_fup {q : Int → Int} {x a b : Int} : fup (fup q x a) x b = fup q x b := by
  funext j
  by_cases e : j = x
  · rw [e, fup_eq, fup_eq]
  · rw [fup_ne e, fup_ne e, fup_ne e]
set_option maxRecDepth 100000 in
set_option maxHeartbeats 4000000 in
theorem c_X6_bestSill (h : List PO) (m : Nat) (v : SV) (hv : Int → SV) (sz ks : Int) (sw : SV) (tx : Int → Int) (len sn se : Int) (c d : Int) (hA : mdA h m v hv sz ks sw tx len sn se) (hI : INV v hv sz ks sw tx len) (hc : inR c) (hd : inR d) : PM 7 yX6_bestSill cX6_bestSill 9 (some .int) h [r_ m, i_ c, i_ d] (fun r0 h2 => r0 = some (i_ (bestR v c d)) ∧ Fr h h2 m (m + 5) ∧ mdA h2 m (v) (hv) (sz) (ks) (sw) (tx) (len) (sn) (se)) := by
  refine PM_of_G RX6 [some (r_ m), some (i_ c), some (i_ d), none, none, none, none, none, none] rfl (by decide +kernel) (Nat.le_of_ble_eq_true rfl) rfl ?_
  obtain ⟨s, mk, co, fi, ca, sp, le, on, tw, hM, hR, hX⟩ := id hA
  obtain ⟨⟨hV, hT⟩, hsz, hhv, hks, hx, hl⟩ := id hI
  obtain ⟨⟨hrd, hrs, hrh⟩, ⟨hs0, hs1, hs2⟩, ⟨hn, hf, hfa⟩, ⟨hc0, hrr, hs, hz⟩, h49, hdi⟩ := id hV
  have hF : Fr h h m (m + 5) := Fr.rf
  obtain ⟨hM0, hM1, hM2, hM3, hM4⟩ := id hM
  have hc1 := hc.1
  have hc2 := hc.2
  have hd1 := hd.1
  have hd2 := hd.2
  refine G_iload_n dX6_bestSill_0 rfl rfl ?_
  refine G_iconst dX6_bestSill_1 ?_
  refine G_bipush dX6_bestSill_2 rfl ?_
  refine G_callS (as := [_, _, _]) (c_X6_in _ (c) (1) (60) (inR_of (by omega) (by omega)) (inR_of (by omega) (by omega)) (inR_of (by omega) (by omega))) dX6_bestSill_4 ml_X6_70 cs_X6_in rfl (Nat.le_of_ble_eq_true rfl) (Nat.le_of_ble_eq_true rfl) rfl (fun r h2 hp => ?_)
  obtain ⟨y1, rfl, rfl, hy1⟩ := hp
  refine G_if_eq (tgt := 17) dX6_bestSill_7 (by decide) (inR_of (by omega) (by omega)) (fun hc7 => ?_) (fun hc7 => ?_)
  · skip
    refine G_bipush dX6_bestSill_17 rfl ?_
    refine G_ireturn dX6_bestSill_19 rfl ?_
    have e9 : bestR v c d = -2 := by unfold bestR; rw [if_pos (by omega)]
    rw [e9]
    exact ⟨rfl, hF, _, _, _, _, _, _, _, _, _, hM, hR, hX⟩
  · skip
    refine G_iload_n dX6_bestSill_10 rfl rfl ?_
    refine G_callS (as := [_]) (c_X6_isRise _ (d) (inR_of (by omega) (by omega))) dX6_bestSill_11 ml_X6_87 cs_X6_isRise rfl (Nat.le_of_ble_eq_true rfl) (Nat.le_of_ble_eq_true rfl) rfl (fun r h2 hp => ?_)
    obtain ⟨yr, rfl, rfl, hyr⟩ := hp
    refine G_if_ne (tgt := 20) dX6_bestSill_14 (by decide) (inR_of (by omega) (by omega)) (fun hc14 => ?_) (fun hc14 => ?_)
    · skip
      refine G_aload_n dX6_bestSill_20 rfl rfl ?_
      refine G_iconst dX6_bestSill_21 ?_
      refine G_bipush dX6_bestSill_22 rfl ?_
      refine G_callV (ci := 6) (as := [_, _]) (c_X6_copies h m s tx mk co sz ks len sn se fi ca sp le on tw 0 7 hM (by omega) (by omega) (by omega)) dX6_bestSill_24 ml_X6_32 cv_X6_copies (by assumption) rfl rfl (Nat.le_of_ble_eq_true rfl) (Nat.le_of_ble_eq_true rfl) rfl (fun r h2 hp => ?_)
      obtain ⟨rfl, hF1, hM⟩ := hp
      have hF := hF.tr hF1
      have hR1 : rwR (cpR s 0 7) 0 v := hR.fr cpR_fr (by omega) hV
      have hX1 : roX (cpR s 0 7) hv sz ks sw := hX.fr hI cpR_fr (by omega)
      have hB1 : rwR (cpR s 0 7) 1421 v := cp_to (a := 0) (b := 7) hR hV
      have hIs := stI_is (v 10 0 + d - v 11 1) (v 10 1) (v 1) (v 0)
      have hI0 := hIs.1
      have hI1 := hIs.2.1
      obtain ⟨hM0, hM1, hM2, hM3, hM4⟩ := id hM
      refine G_sipush dX6_bestSill_27 rfl ?_
      refine G_istore_n dX6_bestSill_30 rfl (by decide) rfl ?_
      refine G_bipush dX6_bestSill_31 rfl ?_
      refine G_istore dX6_bestSill_33 (by decide) rfl ?_
      refine G_aload_n dX6_bestSill_35 rfl rfl ?_
      refine G_iload_n dX6_bestSill_36 rfl rfl ?_
      refine G_iload_n dX6_bestSill_37 rfl rfl ?_
      refine G_callV (ci := 6) (as := [_, _]) (c_X6_stop _ m (cpR s 0 7) tx mk co sz ks len sn se fi ca sp le on tw 1421 d (v 0) (v 1) (v 2) (v 3) (v 4) (v 5) (v 6) (v 7) (v 8) (v 9) (v 11 0) (v 10) (v 11 1) (v 11 2) (v 11 3) hM (by omega) (by omega) hB1 hrd hrs hrh ⟨hs0, hs1, hs2⟩ hf (by omega)) dX6_bestSill_38 ml_X6_170 cv_X6_stop (by assumption) rfl rfl (Nat.le_of_ble_eq_true rfl) (Nat.le_of_ble_eq_true rfl) rfl (fun r h2 hp => ?_)
      obtain ⟨rfl, hG, mk3, fi3, ca3, hM⟩ := hp
      have hF := hF.tr hG
      obtain ⟨hM0, hM1, hM2, hM3, hM4⟩ := id hM
      refine G_istore dX6_bestSill_41 (by decide) rfl ?_
      refine G_iconst dX6_bestSill_43 ?_
      refine G_istore dX6_bestSill_44 (by decide) rfl ?_
      have L : ∀ (fu : Nat) (i : Int) (hh : List PO) (mk2 : Int → Int) (fi2 : Int) (ca2 : Int) (best : Int) (least : Int), 0 ≤ i → i ≤ 40 → moAt hh m (cpR s 0 7) tx mk2 co sz ks len sn se fi2 ca2 sp le on tw → Fr h hh m (m + 5) → bsInv (v 10 0 + d - v 11 1) (v 10 1) (v 1) (v 0) c (stI (v 10 0 + d - v 11 1) (v 10 1) (v 1) (v 0)) i best least → 40 - i < fu → G 7 cX6_bestSill RX6 9 (some .int) hh 46 [some (r_ m), some (i_ c), some (i_ d), some (i_ 1421), some (i_ best), some (i_ least), some (i_ i), none, none] [] (fun r0 h2 => r0 = some (i_ (bestR v c d)) ∧ Fr h h2 m (m + 5) ∧ mdA h2 m (v) (hv) (sz) (ks) (sw) (tx) (len) (sn) (se)) := by
        intro fu
        induction fu with
        | zero => intro i hh mk2 fi2 ca2 best least a1 a2 hM hF hinv hmeas; exfalso; omega
        | succ fu ih =>
          intro i hh mk2 fi2 ca2 best least a1 a2 hM hF hinv hmeas
          obtain ⟨hM0, hM1, hM2, hM3, hM4⟩ := id hM
          obtain ⟨hRc, ⟨hR0, hR1z, hR2, hR3, hR4, hR5, hR6⟩, hRw⟩ := rwF.zero hR1
          have hbr := bsInv_rng hinv ⟨hI0, hI1⟩ a2
          refine G_iload dX6_bestSill_46 rfl ?_
          refine G_bipush dX6_bestSill_48 rfl ?_
          refine G_icmp_ge (tgt := 151) dX6_bestSill_50 (by decide) (inR_of (by omega) (by omega)) (inR_of (by omega) (by omega)) (fun hc50 => ?_) (fun hc50 => ?_)
          · skip
            have e : i = 40 := by omega
            subst e
            refine G_iload dX6_bestSill_151 rfl ?_
            refine G_ireturn dX6_bestSill_153 rfl ?_
            have e9 : bestR v c d = bsN (v 10 0 + d - v 11 1) (v 10 1) (v 1) (v 0) c 40 := by unfold bestR pushI; rw [if_neg (by omega)]
            have e8 := bsInv_end hinv hI1
            rw [e9, e8]
            exact ⟨rfl, hF, _, _, _, _, _, _, _, _, _, hM, hR1, hX1⟩
          · skip
            have hi40 : i < 40 := by omega
            have hs9 := hrs i a1 hi40
            have hd9 := hrd i a1 hi40
            have hor := offI_rng (push := (v 10 0 + d - v 11 1)) (slope := v 10 1) (by omega) hs1 hrs hrd i a1 (by omega)
            refine G_aload_n dX6_bestSill_53 rfl rfl ?_
            refine G_getf fl_X6_7 dX6_bestSill_54 (by assumption) rfl ?_
            refine G_bipush dX6_bestSill_57 rfl ?_
            refine G_iload dX6_bestSill_59 rfl ?_
            refine G_iadd dX6_bestSill_61 ?_
            refine G_iald dX6_bestSill_62 (by assumption) (by omega) (by omega) (by decide) ?_
            refine G_top (((hRc (i) (by omega) (by omega)).2.1)) ?_
            refine G_istore dX6_bestSill_63 (by decide) rfl ?_
            refine G_iload dX6_bestSill_65 rfl ?_
            refine G_iload_n dX6_bestSill_67 rfl rfl ?_
            refine G_icmp_ge (tgt := 145) dX6_bestSill_68 (by decide) (inR_of (by omega) (by omega)) (inR_of (by omega) (by omega)) (fun hc68 => ?_) (fun hc68 => ?_)
            · skip
              refine G_iinc dX6_bestSill_145 (by decide) rfl rfl ?_
              refine G_goto (tgt := 46) dX6_bestSill_148 (by decide) ?_
              refine G_forget 7 ?_
              refine G_forget 8 ?_
              exact ih (i + 1) _ _ _ _ _ _ (by omega) (by omega) hM hF (bsInv_no hIs a1 hi40 hinv (by omega)) (by omega)
            · skip
              refine G_aload_n dX6_bestSill_71 rfl rfl ?_
              refine G_getf fl_X6_7 dX6_bestSill_72 (by assumption) rfl ?_
              refine G_bipush dX6_bestSill_75 rfl ?_
              refine G_iload dX6_bestSill_77 rfl ?_
              refine G_iadd dX6_bestSill_79 ?_
              refine G_iald dX6_bestSill_80 (by assumption) (by omega) (by omega) (by decide) ?_
              refine G_top (((hRc (i) (by omega) (by omega)).1)) ?_
              refine G_iload_n dX6_bestSill_81 rfl rfl ?_
              refine G_icmp_lt (tgt := 145) dX6_bestSill_82 (by decide) (inR_of (by omega) (by omega)) (inR_of (by omega) (by omega)) (fun hc82 => ?_) (fun hc82 => ?_)
              · skip
                refine G_iinc dX6_bestSill_145 (by decide) rfl rfl ?_
                refine G_goto (tgt := 46) dX6_bestSill_148 (by decide) ?_
                refine G_forget 7 ?_
                refine G_forget 8 ?_
                exact ih (i + 1) _ _ _ _ _ _ (by omega) (by omega) hM hF (bsInv_no hIs a1 hi40 hinv (by omega)) (by omega)
              · skip
                refine G_aload_n dX6_bestSill_85 rfl rfl ?_
                refine G_getf fl_X6_7 dX6_bestSill_86 (by assumption) rfl ?_
                refine G_iload_n dX6_bestSill_89 rfl rfl ?_
                refine G_bipush dX6_bestSill_90 rfl ?_
                refine G_iadd dX6_bestSill_92 ?_
                refine G_iload dX6_bestSill_93 rfl ?_
                refine G_iadd dX6_bestSill_95 ?_
                refine G_iload_n dX6_bestSill_96 rfl rfl ?_
                refine G_iast dX6_bestSill_97 (by assumption) (by omega) (by omega) (by decide) rfl ?_
                have hM := hM.set1 (fup (cpR s 0 7) (1421 + 47 + i) c)
                obtain ⟨hM0, hM1, hM2, hM3, hM4⟩ := id hM
                have hF := hF.tr (Fr.set (o := oI 1624 (fup (cpR s 0 7) (1421 + 47 + i) c)) (show m ≤ m + 1 by omega) (show m + 1 < m + 5 by omega))
                have hB2 := hB1.sil hn.2 (i := i) c a1 hi40
                refine G_aload_n dX6_bestSill_98 rfl rfl ?_
                refine G_iload_n dX6_bestSill_99 rfl rfl ?_
                refine G_iload_n dX6_bestSill_100 rfl rfl ?_
                refine G_callV (ci := 6) (as := [_, _]) (c_X6_stop _ m (fup (cpR s 0 7) (1421 + 47 + i) c) tx mk2 co sz ks len sn se fi2 ca2 sp le on tw 1421 d (v 0) (fup (v 1) i c) (v 2) (v 3) (v 4) (v 5) (v 6) (v 7) (v 8) (v 9) (v 11 0) (v 10) (v 11 1) (v 11 2) (v 11 3) hM (by omega) (by omega) hB2 hrd (rg_fup hrs (by omega) (by omega)) hrh ⟨hs0, hs1, hs2⟩ hf (by omega)) dX6_bestSill_101 ml_X6_170 cv_X6_stop (by assumption) rfl rfl (Nat.le_of_ble_eq_true rfl) (Nat.le_of_ble_eq_true rfl) rfl (fun r h2 hp => ?_)
                obtain ⟨rfl, hG, mk3, fi3, ca3, hM⟩ := hp
                have hF := hF.tr hG
                obtain ⟨hM0, hM1, hM2, hM3, hM4⟩ := id hM
                refine G_istore dX6_bestSill_104 (by decide) rfl ?_
                refine G_aload_n dX6_bestSill_106 rfl rfl ?_
                refine G_getf fl_X6_7 dX6_bestSill_107 (by assumption) rfl ?_
                refine G_iload_n dX6_bestSill_110 rfl rfl ?_
                refine G_bipush dX6_bestSill_111 rfl ?_
                refine G_iadd dX6_bestSill_113 ?_
                refine G_iload dX6_bestSill_114 rfl ?_
                refine G_iadd dX6_bestSill_116 ?_
                refine G_iload dX6_bestSill_117 rfl ?_
                refine G_iast dX6_bestSill_119 (by assumption) (by omega) (by omega) (by decide) (show fup (fup (cpR s 0 7) (1421 + 47 + i) c) (1421 + 47 + i) (v 1 i) = (cpR s 0 7) from by rw [fup_fup]; exact fup_same (hB1.1 i a1 hi40).2.1) ?_
                have hM := hM.set1 ((cpR s 0 7))
                obtain ⟨hM0, hM1, hM2, hM3, hM4⟩ := id hM
                have hF := hF.tr (Fr.set (o := oI 1624 ((cpR s 0 7))) (show m ≤ m + 1 by omega) (show m + 1 < m + 5 by omega))
                have hst := stI_put (k := c) hIs a1 hi40 (by omega)
                generalize hg9 : stI (v 10 0 + d - v 11 1) (v 10 1) (fup (v 1) i c) (v 0) = st9 at *
                have hnew : bsInv (v 10 0 + d - v 11 1) (v 10 1) (v 1) (v 0) c (stI (v 10 0 + d - v 11 1) (v 10 1) (v 1) (v 0)) (i + 1) (if st9 < least then i else best) (min st9 least) := by
                  by_cases q : i < stI (v 10 0 + d - v 11 1) (v 10 1) (v 1) (v 0) ∧ offI (v 10 0 + d - v 11 1) (v 10 1) (v 1) (v 0) i ≤ c
                  · rw [if_pos q] at hst
                    rw [hst]
                    exact bsInv_hit hIs a1 hi40 hinv ⟨q.1, q.2, by omega, by omega⟩
                  · rw [if_neg q] at hst
                    have k1 := bsInv_same hinv
                    rw [hst, k1.1, k1.2]
                    exact bsInv_no hIs a1 hi40 hinv (by omega)
                have hs40 : 0 ≤ st9 ∧ st9 ≤ 40 := by
                  by_cases q : i < stI (v 10 0 + d - v 11 1) (v 10 1) (v 1) (v 0) ∧ offI (v 10 0 + d - v 11 1) (v 10 1) (v 1) (v 0) i ≤ c
                  · rw [if_pos q] at hst; omega
                  · rw [if_neg q] at hst; omega
                refine G_iload dX6_bestSill_120 rfl ?_
                refine G_iload dX6_bestSill_122 rfl ?_
                refine G_icmp_ge (tgt := 132) dX6_bestSill_124 (by decide) (inR_of (by omega) (by omega)) (inR_of (by omega) (by omega)) (fun hc124 => ?_) (fun hc124 => ?_)
                · skip
                  refine G_iload dX6_bestSill_132 rfl ?_
                  refine G_top (y := if st9 < least then i else best) (by first | (rw [if_pos (by omega)]; done) | (rw [if_neg (by omega)]; done)) ?_
                  refine G_istore dX6_bestSill_134 (by decide) rfl ?_
                  refine G_iload dX6_bestSill_136 rfl ?_
                  refine G_iload dX6_bestSill_138 rfl ?_
                  refine G_callS (as := [_, _]) (c_X6_less _ st9 least (inR_of (by omega) (by omega)) (inR_of (by omega) (by omega))) dX6_bestSill_140 ml_X6_42 cs_X6_less rfl (Nat.le_of_ble_eq_true rfl) (Nat.le_of_ble_eq_true rfl) rfl (fun r h2 hp => ?_)
                  obtain ⟨rfl, rfl⟩ := hp
                  refine G_istore dX6_bestSill_143 (by decide) rfl ?_
                  refine G_iinc dX6_bestSill_145 (by decide) rfl rfl ?_
                  refine G_goto (tgt := 46) dX6_bestSill_148 (by decide) ?_
                  refine G_forget 7 ?_
                  refine G_forget 8 ?_
                  exact ih (i + 1) _ _ _ _ _ _ (by omega) (by omega) hM hF hnew (by omega)
                · skip
                  refine G_iload dX6_bestSill_127 rfl ?_
                  refine G_goto (tgt := 134) dX6_bestSill_129 (by decide) ?_
                  refine G_top (y := if st9 < least then i else best) (by first | (rw [if_pos (by omega)]; done) | (rw [if_neg (by omega)]; done)) ?_
                  refine G_istore dX6_bestSill_134 (by decide) rfl ?_
                  refine G_iload dX6_bestSill_136 rfl ?_
                  refine G_iload dX6_bestSill_138 rfl ?_
                  refine G_callS (as := [_, _]) (c_X6_less _ st9 least (inR_of (by omega) (by omega)) (inR_of (by omega) (by omega))) dX6_bestSill_140 ml_X6_42 cs_X6_less rfl (Nat.le_of_ble_eq_true rfl) (Nat.le_of_ble_eq_true rfl) rfl (fun r h2 hp => ?_)
                  obtain ⟨rfl, rfl⟩ := hp
                  refine G_istore dX6_bestSill_143 (by decide) rfl ?_
                  refine G_iinc dX6_bestSill_145 (by decide) rfl rfl ?_
                  refine G_goto (tgt := 46) dX6_bestSill_148 (by decide) ?_
                  refine G_forget 7 ?_
                  refine G_forget 8 ?_
                  exact ih (i + 1) _ _ _ _ _ _ (by omega) (by omega) hM hF hnew (by omega)
      exact L 41 0 _ _ _ _ _ _ (by omega) (by omega) hM hF (Or.inl ⟨rfl, rfl, fun _ => rfl, fun q => by exfalso; omega⟩) (by omega)
    · skip
      refine G_bipush dX6_bestSill_17 rfl ?_
      refine G_ireturn dX6_bestSill_19 rfl ?_
      have e9 : bestR v c d = -2 := by unfold bestR; rw [if_pos (by omega)]
      rw [e9]
      exact ⟨rfl, hF, _, _, _, _, _, _, _, _, _, hM, hR, hX⟩
set_option maxRecDepth 100000 in
set_option maxHeartbeats 4000000 in
theorem c_X6_sumOfCells (h : List PO) (m : Nat) (s tx mk co : Int → Int) (st kp ty sn se fi ca sp le on tw : Int) (D S H T C R A Z W U : Int → Int) (N : Int) (E : Int → Int) (X Y F : Int) (hM : moAt h m s tx mk co st kp ty sn se fi ca sp le on tw) (hR : rwF s 0 D S H T C R A Z W U N E X Y F) : PM 0 yX6_sumOfCells cX6_sumOfCells 4 (some .int) h [r_ m, i_ 87] (fun r0 h2 => r0 = some (i_ (sumN H 40)) ∧ h = h2) := by
  refine PM_of_G RX6 [some (r_ m), some (i_ 87), none, none] rfl (by decide +kernel) (Nat.le_of_ble_eq_true rfl) rfl ?_
  obtain ⟨hM0, hM1, hM2, hM3, hM4⟩ := id hM
  obtain ⟨hRc, ⟨hR0, hR1, hR2, hR3, hR4, hR5, hR6⟩, hRw⟩ := rwF.zero hR
  have L : ∀ (fu : Nat) (i : Int) (ac : Int), 0 ≤ i → i ≤ 40 → ac = sumN H i.toNat → 40 - i < fu → G 0 cX6_sumOfCells RX6 4 (some .int) h 4 [some (r_ m), some (i_ 87), some (i_ ac), some (i_ i)] [] (fun r0 h2 => r0 = some (i_ (sumN H 40)) ∧ h = h2) := by
    intro fu
    induction fu with
    | zero => intro i ac a1 a2 hac hmeas; exfalso; omega
    | succ fu ih =>
      intro i ac a1 a2 hac hmeas
      refine G_iload_n dX6_sumOfCells_4 rfl rfl ?_
      refine G_bipush dX6_sumOfCells_5 rfl ?_
      refine G_icmp_ge (tgt := 27) dX6_sumOfCells_7 (by decide) (inR_of (by omega) (by omega)) (inR_of (by omega) (by omega)) (fun hc7 => ?_) (fun hc7 => ?_)
      · skip
        have e : i = 40 := by omega
        subst e
        subst hac
        refine G_iload_n dX6_sumOfCells_27 rfl rfl ?_
        refine G_ireturn dX6_sumOfCells_28 rfl ?_
        exact ⟨rfl, rfl⟩
      · skip
        refine G_iload_n dX6_sumOfCells_10 rfl rfl ?_
        refine G_aload_n dX6_sumOfCells_11 rfl rfl ?_
        refine G_getf fl_X6_7 dX6_sumOfCells_12 (by assumption) rfl ?_
        refine G_iload_n dX6_sumOfCells_15 rfl rfl ?_
        refine G_iload_n dX6_sumOfCells_16 rfl rfl ?_
        refine G_iadd dX6_sumOfCells_17 ?_
        refine G_iald dX6_sumOfCells_18 (by assumption) (by omega) (by omega) (by decide) ?_
        refine G_top ((hRc (i) (by omega) (by omega)).2.2.1) ?_
        refine G_iadd dX6_sumOfCells_19 ?_
        refine G_istore_n dX6_sumOfCells_20 rfl (by decide) rfl ?_
        refine G_iinc dX6_sumOfCells_21 (by decide) rfl rfl ?_
        refine G_goto (tgt := 4) dX6_sumOfCells_24 (by decide) ?_
        exact ih (i + 1) _ (by omega) (by omega) (by rw [sumN_s a1, hac]) (by omega)
  refine G_iconst dX6_sumOfCells_0 ?_
  refine G_istore_n dX6_sumOfCells_1 rfl (by decide) rfl ?_
  refine G_iconst dX6_sumOfCells_2 ?_
  refine G_istore_n dX6_sumOfCells_3 rfl (by decide) rfl ?_
  exact L 41 0 _ (by omega) (by omega) rfl (by omega)
set_option maxRecDepth 100000 in
set_option maxHeartbeats 4000000 in
theorem c_X6_sumOfWells (h : List PO) (m : Nat) (s tx mk co : Int → Int) (st kp ty sn se fi ca sp le on tw : Int) (k N : Int) (Q : Int → Int) (hM : moAt h m s tx mk co st kp ty sn se fi ca sp le on tw) (hN : 0 ≤ N ∧ N ≤ 6) (hk : 0 ≤ k ∧ k < 6) (hR6 : s 6 = N) (hQ : ∀ w : Int, 0 ≤ w → w < N → s (0 + 167 + 6 * w + k) = Q w) : PM 1 yX6_sumOfWells cX6_sumOfWells 4 (some .int) h [r_ m, i_ k] (fun r0 h2 => r0 = some (i_ (sumN Q N.toNat)) ∧ h = h2) := by
  refine PM_of_G RX6 [some (r_ m), some (i_ k), none, none] rfl (by decide +kernel) (Nat.le_of_ble_eq_true rfl) rfl ?_
  obtain ⟨hM0, hM1, hM2, hM3, hM4⟩ := id hM
  have L : ∀ (fu : Nat) (i : Int) (ac : Int), 0 ≤ i → i ≤ N → ac = sumN Q i.toNat → N - i < fu → G 1 cX6_sumOfWells RX6 4 (some .int) h 4 [some (r_ m), some (i_ k), some (i_ ac), some (i_ i)] [] (fun r0 h2 => r0 = some (i_ (sumN Q N.toNat)) ∧ h = h2) := by
    intro fu
    induction fu with
    | zero => intro i ac a1 a2 hac hmeas; exfalso; omega
    | succ fu ih =>
      intro i ac a1 a2 hac hmeas
      refine G_iload_n dX6_sumOfWells_4 rfl rfl ?_
      refine G_aload_n dX6_sumOfWells_5 rfl rfl ?_
      refine G_getf fl_X6_7 dX6_sumOfWells_6 (by assumption) rfl ?_
      refine G_bipush dX6_sumOfWells_9 rfl ?_
      refine G_iald dX6_sumOfWells_11 (by assumption) (by omega) (by omega) (by decide) ?_
      refine G_top (hR6) ?_
      refine G_icmp_ge (tgt := 36) dX6_sumOfWells_12 (by decide) (inR_of (by omega) (by omega)) (inR_of (by omega) (by omega)) (fun hc12 => ?_) (fun hc12 => ?_)
      · skip
        have e : i = N := by omega
        subst e
        subst hac
        refine G_iload_n dX6_sumOfWells_36 rfl rfl ?_
        refine G_ireturn dX6_sumOfWells_37 rfl ?_
        exact ⟨rfl, rfl⟩
      · skip
        refine G_iload_n dX6_sumOfWells_15 rfl rfl ?_
        refine G_aload_n dX6_sumOfWells_16 rfl rfl ?_
        refine G_getf fl_X6_7 dX6_sumOfWells_17 (by assumption) rfl ?_
        refine G_iconst dX6_sumOfWells_20 ?_
        refine G_iload_n dX6_sumOfWells_21 rfl rfl ?_
        refine G_callS (as := [_, _]) (c_X6_wellAt h 0 i) dX6_sumOfWells_22 ml_X6_46 cs_X6_wellAt rfl (Nat.le_of_ble_eq_true rfl) (Nat.le_of_ble_eq_true rfl) rfl (fun r h2 hp => ?_)
        obtain ⟨rfl, rfl⟩ := hp
        refine G_iload_n dX6_sumOfWells_25 rfl rfl ?_
        refine G_iadd dX6_sumOfWells_26 ?_
        refine G_iald dX6_sumOfWells_27 (by assumption) (by omega) (by omega) (by decide) ?_
        refine G_top (hQ i a1 (by omega)) ?_
        refine G_iadd dX6_sumOfWells_28 ?_
        refine G_istore_n dX6_sumOfWells_29 rfl (by decide) rfl ?_
        refine G_iinc dX6_sumOfWells_30 (by decide) rfl rfl ?_
        refine G_goto (tgt := 4) dX6_sumOfWells_33 (by decide) ?_
        exact ih (i + 1) _ (by omega) (by omega) (by rw [sumN_s a1, hac]) (by omega)
  refine G_iconst dX6_sumOfWells_0 ?_
  refine G_istore_n dX6_sumOfWells_1 rfl (by decide) rfl ?_
  refine G_iconst dX6_sumOfWells_2 ?_
  refine G_istore_n dX6_sumOfWells_3 rfl (by decide) rfl ?_
  exact L 7 0 _ (by omega) (by omega) rfl (by omega)
set_option maxRecDepth 100000 in
set_option maxHeartbeats 4000000 in
theorem c_X6_count (h : List PO) (m : Nat) (v : SV) (hv : Int → SV) (sz ks : Int) (sw : SV) (tx : Int → Int) (len sn se : Int) (k : Int) (hA : mdA h m v hv sz ks sw tx len sn se) (hI : INV v hv sz ks sw tx len) (hk : inR k) : PM 7 yX6_count cX6_count 2 (some .int) h [r_ m, i_ k] (fun r0 h2 => r0 = some (i_ (countR v sz len k)) ∧ Fr h h2 m (m + 5) ∧ mdA h2 m (v) (hv) (sz) (ks) (sw) (tx) (len) (sn) (se)) := by
  refine PM_of_G RX6 [some (r_ m), some (i_ k)] rfl (by decide +kernel) (Nat.le_of_ble_eq_true rfl) rfl ?_
  obtain ⟨s, mk, co, fi, ca, sp, le, on, tw, hM, hR, hX⟩ := id hA
  obtain ⟨⟨hV, hT⟩, hsz, hhv, hks, hx, hl⟩ := id hI
  obtain ⟨⟨hrd, hrs, hrh⟩, ⟨hs0, hs1, hs2⟩, ⟨hn, hf, hfa⟩, ⟨hc0, hrr, hs, hz⟩, h49, hdi⟩ := id hV
  have hF : Fr h h m (m + 5) := Fr.rf
  obtain ⟨hM0, hM1, hM2, hM3, hM4⟩ := id hM
  obtain ⟨hRc, ⟨hR0, hR1, hR2, hR3, hR4, hR5, hR6⟩, hRw⟩ := rwF.zero hR
  have hk1 := hk.1
  have hk2 := hk.2
  refine G_iload_n dX6_count_0 rfl rfl ?_
  rcases (show (k < 0 ∨ 13 < k) ∨ k = 0 ∨ k = 1 ∨ k = 2 ∨ k = 3 ∨ k = 4 ∨ k = 5 ∨ k = 6 ∨ k = 7 ∨ k = 8 ∨ k = 9 ∨ k = 10 ∨ k = 11 ∨ k = 12 ∨ k = 13 from by omega) with hsw | hsw | hsw | hsw | hsw | hsw | hsw | hsw | hsw | hsw | hsw | hsw | hsw | hsw | hsw
  · skip
    refine G_tblOut (tgt := 152) dX6_count_1 (inR_of (by omega) (by omega)) hsw (by decide) ?_
    refine G_bipush dX6_count_152 rfl ?_
    refine G_ireturn dX6_count_154 rfl ?_
    have e9 : countR v sz len k = -2 := by unfold countR; rw [if_neg (by omega), if_neg (by omega), if_neg (by omega), if_neg (by omega), if_neg (by omega), if_neg (by omega), if_neg (by omega), if_neg (by omega), if_neg (by omega), if_neg (by omega), if_neg (by omega), if_neg (by omega), if_neg (by omega), if_neg (by omega)]
    rw [e9]
    exact ⟨rfl, hF, _, _, _, _, _, _, _, _, _, hM, hR, hX⟩
  · skip
    subst hsw
    refine G_tblIn (tgt := 72) dX6_count_1 (inR_of (by omega) (by omega)) (by omega) (by omega) rfl (by decide) ?_
    refine G_aload_n dX6_count_72 rfl rfl ?_
    refine G_getf fl_X6_7 dX6_count_73 (by assumption) rfl ?_
    refine G_iconst dX6_count_76 ?_
    refine G_iald dX6_count_77 (by assumption) (by omega) (by omega) (by decide) ?_
    refine G_top (hR4) ?_
    refine G_ireturn dX6_count_78 rfl ?_
    have e9 : countR v sz len 0 = v 11 2 := by unfold countR; rw [if_pos (by omega)]
    rw [e9]
    exact ⟨rfl, hF, _, _, _, _, _, _, _, _, _, hM, hR, hX⟩
  · skip
    subst hsw
    refine G_tblIn (tgt := 79) dX6_count_1 (inR_of (by omega) (by omega)) (by omega) (by omega) rfl (by decide) ?_
    refine G_aload_n dX6_count_79 rfl rfl ?_
    refine G_getf fl_X6_7 dX6_count_80 (by assumption) rfl ?_
    refine G_iconst dX6_count_83 ?_
    refine G_iald dX6_count_84 (by assumption) (by omega) (by omega) (by decide) ?_
    refine G_top (hR3) ?_
    refine G_ireturn dX6_count_85 rfl ?_
    have e9 : countR v sz len 1 = v 11 1 := by unfold countR; rw [if_neg (by omega), if_pos (by omega)]
    rw [e9]
    exact ⟨rfl, hF, _, _, _, _, _, _, _, _, _, hM, hR, hX⟩
  · skip
    subst hsw
    refine G_tblIn (tgt := 86) dX6_count_1 (inR_of (by omega) (by omega)) (by omega) (by omega) rfl (by decide) ?_
    refine G_aload_n dX6_count_86 rfl rfl ?_
    refine G_iconst dX6_count_87 ?_
    refine G_callV (ci := 6) (as := [_]) (c_X6_wetCells _ m s tx mk co sz ks len sn se fi ca sp le on tw 0 (v 0) (v 1) (v 2) (v 3) (v 4) (v 5) (v 6) (v 7) (v 8) (v 9) (v 11 0) (v 10) (v 11 1) (v 11 2) (v 11 3) hM (by omega) (by omega) hR hrh) dX6_count_88 ml_X6_94 cv_X6_wetCells (by assumption) rfl rfl (Nat.le_of_ble_eq_true rfl) (Nat.le_of_ble_eq_true rfl) rfl (fun r h2 hp => ?_)
    obtain ⟨rfl, rfl⟩ := hp
    refine G_ireturn dX6_count_91 rfl ?_
    have e9 : countR v sz len 2 = sumN (wetI (v 2)) 40 := by unfold countR; rw [if_neg (by omega), if_neg (by omega), if_pos (by omega)]
    rw [e9]
    exact ⟨rfl, hF, _, _, _, _, _, _, _, _, _, hM, hR, hX⟩
  · skip
    subst hsw
    refine G_tblIn (tgt := 92) dX6_count_1 (inR_of (by omega) (by omega)) (by omega) (by omega) rfl (by decide) ?_
    refine G_aload_n dX6_count_92 rfl rfl ?_
    refine G_bipush dX6_count_93 rfl ?_
    refine G_callV (ci := 6) (as := [_]) (c_X6_sumOfCells _ m s tx mk co sz ks len sn se fi ca sp le on tw (v 0) (v 1) (v 2) (v 3) (v 4) (v 5) (v 6) (v 7) (v 8) (v 9) (v 11 0) (v 10) (v 11 1) (v 11 2) (v 11 3) hM hR) dX6_count_95 ml_X6_173 cv_X6_sumOfCells (by assumption) rfl rfl (Nat.le_of_ble_eq_true rfl) (Nat.le_of_ble_eq_true rfl) rfl (fun r h2 hp => ?_)
    obtain ⟨rfl, rfl⟩ := hp
    refine G_ireturn dX6_count_98 rfl ?_
    have e9 : countR v sz len 3 = sumN (v 2) 40 := by unfold countR; rw [if_neg (by omega), if_neg (by omega), if_neg (by omega), if_pos (by omega)]
    rw [e9]
    exact ⟨rfl, hF, _, _, _, _, _, _, _, _, _, hM, hR, hX⟩
  · skip
    subst hsw
    refine G_tblIn (tgt := 99) dX6_count_1 (inR_of (by omega) (by omega)) (by omega) (by omega) rfl (by decide) ?_
    refine G_aload_n dX6_count_99 rfl rfl ?_
    refine G_getf fl_X6_7 dX6_count_100 (by assumption) rfl ?_
    refine G_bipush dX6_count_103 rfl ?_
    refine G_iald dX6_count_105 (by assumption) (by omega) (by omega) (by decide) ?_
    refine G_top (hR6) ?_
    refine G_ireturn dX6_count_106 rfl ?_
    have e9 : countR v sz len 4 = v 11 0 := by unfold countR; rw [if_neg (by omega), if_neg (by omega), if_neg (by omega), if_neg (by omega), if_pos (by omega)]
    rw [e9]
    exact ⟨rfl, hF, _, _, _, _, _, _, _, _, _, hM, hR, hX⟩
  · skip
    subst hsw
    refine G_tblIn (tgt := 107) dX6_count_1 (inR_of (by omega) (by omega)) (by omega) (by omega) rfl (by decide) ?_
    refine G_aload_n dX6_count_107 rfl rfl ?_
    refine G_iconst dX6_count_108 ?_
    refine G_callV (ci := 6) (as := [_]) (c_X6_sumOfWells _ m s tx mk co sz ks len sn se fi ca sp le on tw 3 (v 11 0) (v 7) hM hn (by omega) hR6 (fun w w0 w1 => (hRw w w0 w1).2.2.2.1)) dX6_count_109 ml_X6_176 cv_X6_sumOfWells (by assumption) rfl rfl (Nat.le_of_ble_eq_true rfl) (Nat.le_of_ble_eq_true rfl) rfl (fun r h2 hp => ?_)
    obtain ⟨rfl, rfl⟩ := hp
    refine G_ireturn dX6_count_112 rfl ?_
    have e9 : countR v sz len 5 = sumN (v 7) (v 11 0).toNat := by unfold countR; rw [if_neg (by omega), if_neg (by omega), if_neg (by omega), if_neg (by omega), if_neg (by omega), if_pos (by omega)]
    rw [e9]
    exact ⟨rfl, hF, _, _, _, _, _, _, _, _, _, hM, hR, hX⟩
  · skip
    subst hsw
    refine G_tblIn (tgt := 113) dX6_count_1 (inR_of (by omega) (by omega)) (by omega) (by omega) rfl (by decide) ?_
    refine G_aload_n dX6_count_113 rfl rfl ?_
    refine G_iconst dX6_count_114 ?_
    refine G_callV (ci := 6) (as := [_]) (c_X6_sumOfWells _ m s tx mk co sz ks len sn se fi ca sp le on tw 2 (v 11 0) (v 6) hM hn (by omega) hR6 (fun w w0 w1 => (hRw w w0 w1).2.2.1)) dX6_count_115 ml_X6_176 cv_X6_sumOfWells (by assumption) rfl rfl (Nat.le_of_ble_eq_true rfl) (Nat.le_of_ble_eq_true rfl) rfl (fun r h2 hp => ?_)
    obtain ⟨rfl, rfl⟩ := hp
    refine G_ireturn dX6_count_118 rfl ?_
    have e9 : countR v sz len 6 = sumN (v 6) (v 11 0).toNat := by unfold countR; rw [if_neg (by omega), if_neg (by omega), if_neg (by omega), if_neg (by omega), if_neg (by omega), if_neg (by omega), if_pos (by omega)]
    rw [e9]
    exact ⟨rfl, hF, _, _, _, _, _, _, _, _, _, hM, hR, hX⟩
  · skip
    subst hsw
    refine G_tblIn (tgt := 119) dX6_count_1 (inR_of (by omega) (by omega)) (by omega) (by omega) rfl (by decide) ?_
    refine G_aload_n dX6_count_119 rfl rfl ?_
    refine G_iconst dX6_count_120 ?_
    refine G_callV (ci := 6) (as := [_]) (c_X6_sumOfWells _ m s tx mk co sz ks len sn se fi ca sp le on tw 4 (v 11 0) (v 8) hM hn (by omega) hR6 (fun w w0 w1 => (hRw w w0 w1).2.2.2.2.1)) dX6_count_121 ml_X6_176 cv_X6_sumOfWells (by assumption) rfl rfl (Nat.le_of_ble_eq_true rfl) (Nat.le_of_ble_eq_true rfl) rfl (fun r h2 hp => ?_)
    obtain ⟨rfl, rfl⟩ := hp
    refine G_ireturn dX6_count_124 rfl ?_
    have e9 : countR v sz len 7 = sumN (v 8) (v 11 0).toNat := by unfold countR; rw [if_neg (by omega), if_neg (by omega), if_neg (by omega), if_neg (by omega), if_neg (by omega), if_neg (by omega), if_neg (by omega), if_pos (by omega)]
    rw [e9]
    exact ⟨rfl, hF, _, _, _, _, _, _, _, _, _, hM, hR, hX⟩
  · skip
    subst hsw
    refine G_tblIn (tgt := 125) dX6_count_1 (inR_of (by omega) (by omega)) (by omega) (by omega) rfl (by decide) ?_
    refine G_aload_n dX6_count_125 rfl rfl ?_
    refine G_getf fl_X6_7 dX6_count_126 (by assumption) rfl ?_
    refine G_iconst dX6_count_129 ?_
    refine G_iald dX6_count_130 (by assumption) (by omega) (by omega) (by decide) ?_
    refine G_top (hR5) ?_
    refine G_ireturn dX6_count_131 rfl ?_
    have e9 : countR v sz len 8 = v 11 3 := by unfold countR; rw [if_neg (by omega), if_neg (by omega), if_neg (by omega), if_neg (by omega), if_neg (by omega), if_neg (by omega), if_neg (by omega), if_neg (by omega), if_pos (by omega)]
    rw [e9]
    exact ⟨rfl, hF, _, _, _, _, _, _, _, _, _, hM, hR, hX⟩
  · skip
    subst hsw
    refine G_tblIn (tgt := 132) dX6_count_1 (inR_of (by omega) (by omega)) (by omega) (by omega) rfl (by decide) ?_
    refine G_aload_n dX6_count_132 rfl rfl ?_
    refine G_getf fl_X6_7 dX6_count_133 (by assumption) rfl ?_
    refine G_iload_n dX6_count_136 rfl rfl ?_
    refine G_bipush dX6_count_137 rfl ?_
    refine G_isub dX6_count_139 ?_
    refine G_iald dX6_count_140 (by assumption) (by omega) (by omega) (by decide) ?_
    refine G_top (show s (9 - 9) = v 10 0 from hR0) ?_
    refine G_ireturn dX6_count_141 rfl ?_
    have e9 : countR v sz len 9 = v 10 0 := by unfold countR; rw [if_neg (by omega), if_neg (by omega), if_neg (by omega), if_neg (by omega), if_neg (by omega), if_neg (by omega), if_neg (by omega), if_neg (by omega), if_neg (by omega), if_pos (by omega)]
    rw [e9]
    exact ⟨rfl, hF, _, _, _, _, _, _, _, _, _, hM, hR, hX⟩
  · skip
    subst hsw
    refine G_tblIn (tgt := 132) dX6_count_1 (inR_of (by omega) (by omega)) (by omega) (by omega) rfl (by decide) ?_
    refine G_aload_n dX6_count_132 rfl rfl ?_
    refine G_getf fl_X6_7 dX6_count_133 (by assumption) rfl ?_
    refine G_iload_n dX6_count_136 rfl rfl ?_
    refine G_bipush dX6_count_137 rfl ?_
    refine G_isub dX6_count_139 ?_
    refine G_iald dX6_count_140 (by assumption) (by omega) (by omega) (by decide) ?_
    refine G_top (show s (10 - 9) = v 10 1 from hR1) ?_
    refine G_ireturn dX6_count_141 rfl ?_
    have e9 : countR v sz len 10 = v 10 1 := by unfold countR; rw [if_neg (by omega), if_neg (by omega), if_neg (by omega), if_neg (by omega), if_neg (by omega), if_neg (by omega), if_neg (by omega), if_neg (by omega), if_neg (by omega), if_neg (by omega), if_pos (by omega)]
    rw [e9]
    exact ⟨rfl, hF, _, _, _, _, _, _, _, _, _, hM, hR, hX⟩
  · skip
    subst hsw
    refine G_tblIn (tgt := 132) dX6_count_1 (inR_of (by omega) (by omega)) (by omega) (by omega) rfl (by decide) ?_
    refine G_aload_n dX6_count_132 rfl rfl ?_
    refine G_getf fl_X6_7 dX6_count_133 (by assumption) rfl ?_
    refine G_iload_n dX6_count_136 rfl rfl ?_
    refine G_bipush dX6_count_137 rfl ?_
    refine G_isub dX6_count_139 ?_
    refine G_iald dX6_count_140 (by assumption) (by omega) (by omega) (by decide) ?_
    refine G_top (show s (11 - 9) = v 10 2 from hR2) ?_
    refine G_ireturn dX6_count_141 rfl ?_
    have e9 : countR v sz len 11 = v 10 2 := by unfold countR; rw [if_neg (by omega), if_neg (by omega), if_neg (by omega), if_neg (by omega), if_neg (by omega), if_neg (by omega), if_neg (by omega), if_neg (by omega), if_neg (by omega), if_neg (by omega), if_neg (by omega), if_pos (by omega)]
    rw [e9]
    exact ⟨rfl, hF, _, _, _, _, _, _, _, _, _, hM, hR, hX⟩
  · skip
    subst hsw
    refine G_tblIn (tgt := 142) dX6_count_1 (inR_of (by omega) (by omega)) (by omega) (by omega) rfl (by decide) ?_
    refine G_aload_n dX6_count_142 rfl rfl ?_
    refine G_getf fl_X6_29 dX6_count_143 (by assumption) rfl ?_
    refine G_ireturn dX6_count_146 rfl ?_
    have e9 : countR v sz len 12 = sz := by unfold countR; rw [if_neg (by omega), if_neg (by omega), if_neg (by omega), if_neg (by omega), if_neg (by omega), if_neg (by omega), if_neg (by omega), if_neg (by omega), if_neg (by omega), if_neg (by omega), if_neg (by omega), if_neg (by omega), if_pos (by omega)]
    rw [e9]
    exact ⟨rfl, hF, _, _, _, _, _, _, _, _, _, hM, hR, hX⟩
  · skip
    subst hsw
    refine G_tblIn (tgt := 147) dX6_count_1 (inR_of (by omega) (by omega)) (by omega) (by omega) rfl (by decide) ?_
    refine G_aload_n dX6_count_147 rfl rfl ?_
    refine G_getf fl_X6_127 dX6_count_148 (by assumption) rfl ?_
    refine G_ireturn dX6_count_151 rfl ?_
    have e9 : countR v sz len 13 = len := by unfold countR; rw [if_neg (by omega), if_neg (by omega), if_neg (by omega), if_neg (by omega), if_neg (by omega), if_neg (by omega), if_neg (by omega), if_neg (by omega), if_neg (by omega), if_neg (by omega), if_neg (by omega), if_neg (by omega), if_neg (by omega), if_pos (by omega)]
    rw [e9]
    exact ⟨rfl, hF, _, _, _, _, _, _, _, _, _, hM, hR, hX⟩
