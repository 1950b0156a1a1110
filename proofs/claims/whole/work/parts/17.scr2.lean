theorem tideP01 (tx : Int → Int) (len p : Int) : (tideP tx len p).1 = 0 ∨ (tideP tx len p).1 = 1 := by
  unfold tideP
  split
  · exact Or.inl rfl
  · split
    · split
      · exact Or.inl rfl
      · exact Or.inr rfl
    · exact Or.inr rfl
theorem flowP01 (tx : Int → Int) (len p : Int) : (flowP tx len p).1 = 0 ∨ (flowP tx len p).1 = 1 := by
  unfold flowP
  split
  · exact Or.inl rfl
  · exact Or.inr rfl
theorem sillP01 (tx : Int → Int) (len p : Int) : (sillP tx len p).1 = 0 ∨ (sillP tx len p).1 = 1 := by
  unfold sillP
  split
  · exact Or.inl rfl
  · split
    · split
      · exact Or.inl rfl
      · exact Or.inr rfl
    · exact Or.inl rfl
theorem thP01 (tx : Int → Int) (len p : Int) : (thP tx len p).1 = 0 ∨ (thP tx len p).1 = 1 := by
  unfold thP
  split
  · exact tideP01 _ _ _
  · split
    · exact flowP01 _ _ _
    · split
      · exact sillP01 _ _ _
      · exact Or.inl rfl
theorem thP_t {tx : Int → Int} {len p : Int} (h : nxI tx len p = 116) : thP tx len p = tideP tx len (p + 1) := if_pos h
theorem thP_r {tx : Int → Int} {len p : Int} (h : nxI tx len p = 114) : thP tx len p = flowP tx len (p + 1) := by
  unfold thP
  rw [if_neg (by omega), if_pos h]
theorem thP_s {tx : Int → Int} {len p : Int} (h : nxI tx len p = 115) : thP tx len p = sillP tx len (p + 1) := by
  unfold thP
  rw [if_neg (by omega), if_neg (by omega), if_pos h]
theorem thP_n {tx : Int → Int} {len p : Int} (h : nxI tx len p ≠ 116) (h2 : nxI tx len p ≠ 114) (h3 : nxI tx len p ≠ 115) : thP tx len p = (0, p, 0, 0, 0) := by
  unfold thP
  rw [if_neg h, if_neg h2, if_neg h3]
set_option maxRecDepth 100000 in
set_option maxHeartbeats 4000000 in
theorem c_X2_readThing (h : List PO) (z : Nat) (tx ki fi se : Int → Int) (len th p : Int) (hS : scAt h z tx len ki fi se th p) (hx : RG 0 65535 60 tx) (hl : 0 ≤ len ∧ len ≤ 60) (hp : 0 ≤ p ∧ p ≤ len) (hth : 0 ≤ th ∧ (th < 20 ∨ len < p + 2)) : PM 4 yX2_readThing cX2_readThing 1 (some .boolean) h [r_ z] (fun r0 h2 => r0 = some (i_ (thP tx len p).1) ∧ Fr h h2 z (z + 5) ∧ ((thP tx len p).1 = 0 ∧ scAt h2 z tx len ki fi se th (thP tx len p).2.1 ∨ (thP tx len p).1 = 1 ∧ scAt h2 z tx len (fup ki th (thP tx len p).2.2.1) (fup fi th (thP tx len p).2.2.2.1) (fup se th (thP tx len p).2.2.2.2) (th + 1) (thP tx len p).2.1)) := by
  refine PM_of_G RX2 [some (r_ z)] rfl (by decide +kernel) (Nat.le_of_ble_eq_true rfl) rfl ?_
  obtain ⟨hS0, hS1, hS2, hS3, hS4⟩ := id hS
  have hF : Fr h h z (z + 5) := Fr.rf
  have hq := hp
  refine G_aload_n dX2_readThing_0 rfl rfl ?_
  refine G_bipush dX2_readThing_1 rfl ?_
  refine G_callV (ci := 2) (as := [_]) (c_X2_pass _ z tx ki fi se len th p 116 hS hx hl (by omega) (by omega)) dX2_readThing_3 ml_X2_39 cv_X2_pass (by assumption) rfl rfl (Nat.le_of_ble_eq_true rfl) (Nat.le_of_ble_eq_true rfl) rfl (fun r h2 hp => ?_)
  obtain ⟨y1, p1, rfl, hG, hS, hy1⟩ := hp
  have hF := hF.tr hG
  obtain ⟨hS0, hS1, hS2, hS3, hS4⟩ := id hS
  refine G_if_eq (tgt := 14) dX2_readThing_6 (by decide) (inR_of (by omega) (by omega)) (fun hc6 => ?_) (fun hc6 => ?_)
  · skip
    have e1 : p1 = p := by omega
    rw [e1] at hS
    obtain ⟨hS0, hS1, hS2, hS3, hS4⟩ := id hS
    refine G_aload_n dX2_readThing_14 rfl rfl ?_
    refine G_bipush dX2_readThing_15 rfl ?_
    refine G_callV (ci := 2) (as := [_]) (c_X2_pass _ z tx ki fi se len th p 114 hS hx hl (by omega) (by omega)) dX2_readThing_17 ml_X2_39 cv_X2_pass (by assumption) rfl rfl (Nat.le_of_ble_eq_true rfl) (Nat.le_of_ble_eq_true rfl) rfl (fun r h2 hp => ?_)
    obtain ⟨y2, p2, rfl, hG, hS, hy2⟩ := hp
    have hF := hF.tr hG
    obtain ⟨hS0, hS1, hS2, hS3, hS4⟩ := id hS
    refine G_if_eq (tgt := 28) dX2_readThing_20 (by decide) (inR_of (by omega) (by omega)) (fun hc20 => ?_) (fun hc20 => ?_)
    · skip
      have e2 : p2 = p := by omega
      rw [e2] at hS
      obtain ⟨hS0, hS1, hS2, hS3, hS4⟩ := id hS
      refine G_aload_n dX2_readThing_28 rfl rfl ?_
      refine G_bipush dX2_readThing_29 rfl ?_
      refine G_callV (ci := 2) (as := [_]) (c_X2_pass _ z tx ki fi se len th p 115 hS hx hl (by omega) (by omega)) dX2_readThing_31 ml_X2_39 cv_X2_pass (by assumption) rfl rfl (Nat.le_of_ble_eq_true rfl) (Nat.le_of_ble_eq_true rfl) rfl (fun r h2 hp => ?_)
      obtain ⟨y3, p3, rfl, hG, hS, hy3⟩ := hp
      have hF := hF.tr hG
      obtain ⟨hS0, hS1, hS2, hS3, hS4⟩ := id hS
      refine G_if_eq (tgt := 48) dX2_readThing_34 (by decide) (inR_of (by omega) (by omega)) (fun hc34 => ?_) (fun hc34 => ?_)
      · skip
        have e3 : p3 = p := by omega
        rw [e3] at hS
        obtain ⟨hS0, hS1, hS2, hS3, hS4⟩ := id hS
        refine G_iconst dX2_readThing_48 ?_
        refine G_zreturn dX2_readThing_49 rfl (by first | exact Or.inl rfl | exact Or.inr rfl) ?_
        first
          | (have hn3 : nxI tx len p ≠ 115 := by omega
             rw [thP_n (by omega) (by omega) (by omega)]
             exact ⟨rfl, hF, Or.inl ⟨rfl, hS⟩⟩)
          | (have hn3 : nxI tx len p = 115 := by omega
             have hs01 := sillP01 tx len (p + 1)
             rw [thP_s (by omega)]
             first
               | (have e5 : (sillP tx len (p + 1)).1 = 0 := by omega
                  exact ⟨by rw [e5], hF, hD⟩)
               | (have e5 : (sillP tx len (p + 1)).1 = 1 := by omega
                  exact ⟨by rw [e5], hF, hD⟩))
      · skip
        have e3 : p3 = p + 1 := by omega
        rw [e3] at hS
        obtain ⟨hS0, hS1, hS2, hS3, hS4⟩ := id hS
        refine G_aload_n dX2_readThing_37 rfl rfl ?_
        refine G_callV (ci := 2) (as := []) (c_X2_readSill _ z tx ki fi se len th (p + 1) hS hx hl (by omega) (by omega)) dX2_readThing_38 ml_X2_49 cv_X2_readSill (by assumption) rfl rfl (Nat.le_of_ble_eq_true rfl) (Nat.le_of_ble_eq_true rfl) rfl (fun r h2 hp => ?_)
        obtain ⟨rfl, hG, hD⟩ := hp
        have hF := hF.tr hG
        refine G_if_eq (tgt := 48) dX2_readThing_41 (by decide) (inR_of (by have := sillP01 tx len (p + 1); omega) (by have := sillP01 tx len (p + 1); omega)) (fun hc41 => ?_) (fun hc41 => ?_)
        · skip
          refine G_iconst dX2_readThing_48 ?_
          refine G_zreturn dX2_readThing_49 rfl (by first | exact Or.inl rfl | exact Or.inr rfl) ?_
          first
            | (have hn3 : nxI tx len p ≠ 115 := by omega
               rw [thP_n (by omega) (by omega) (by omega)]
               exact ⟨rfl, hF, Or.inl ⟨rfl, hS⟩⟩)
            | (have hn3 : nxI tx len p = 115 := by omega
               have hs01 := sillP01 tx len (p + 1)
               rw [thP_s (by omega)]
               first
                 | (have e5 : (sillP tx len (p + 1)).1 = 0 := by omega
                    exact ⟨by rw [e5], hF, hD⟩)
                 | (have e5 : (sillP tx len (p + 1)).1 = 1 := by omega
                    exact ⟨by rw [e5], hF, hD⟩))
        · skip
          refine G_iconst dX2_readThing_44 ?_
          refine G_goto (tgt := 49) dX2_readThing_45 (by decide) ?_
          refine G_zreturn dX2_readThing_49 rfl (by first | exact Or.inl rfl | exact Or.inr rfl) ?_
          first
            | (have hn3 : nxI tx len p ≠ 115 := by omega
               rw [thP_n (by omega) (by omega) (by omega)]
               exact ⟨rfl, hF, Or.inl ⟨rfl, hS⟩⟩)
            | (have hn3 : nxI tx len p = 115 := by omega
               have hs01 := sillP01 tx len (p + 1)
               rw [thP_s (by omega)]
               first
                 | (have e5 : (sillP tx len (p + 1)).1 = 0 := by omega
                    exact ⟨by rw [e5], hF, hD⟩)
                 | (have e5 : (sillP tx len (p + 1)).1 = 1 := by omega
                    exact ⟨by rw [e5], hF, hD⟩))
    · skip
      have e2 : p2 = p + 1 := by omega
      rw [e2] at hS
      obtain ⟨hS0, hS1, hS2, hS3, hS4⟩ := id hS
      refine G_aload_n dX2_readThing_23 rfl rfl ?_
      refine G_callV (ci := 2) (as := []) (c_X2_readFlow _ z tx ki fi se len th (p + 1) hS hx hl (by omega) (by omega)) dX2_readThing_24 ml_X2_46 cv_X2_readFlow (by assumption) rfl rfl (Nat.le_of_ble_eq_true rfl) (Nat.le_of_ble_eq_true rfl) rfl (fun r h2 hp => ?_)
      obtain ⟨rfl, hG, hD⟩ := hp
      have hF := hF.tr hG
      refine G_zreturn dX2_readThing_27 rfl (flowP01 _ _ _) ?_
      rw [thP_r (by omega)]
      exact ⟨rfl, hF, hD⟩
  · skip
    have e1 : p1 = p + 1 := by omega
    rw [e1] at hS
    obtain ⟨hS0, hS1, hS2, hS3, hS4⟩ := id hS
    refine G_aload_n dX2_readThing_9 rfl rfl ?_
    refine G_callV (ci := 2) (as := []) (c_X2_readTide _ z tx ki fi se len th (p + 1) hS hx hl (by omega) (by omega)) dX2_readThing_10 ml_X2_43 cv_X2_readTide (by assumption) rfl rfl (Nat.le_of_ble_eq_true rfl) (Nat.le_of_ble_eq_true rfl) rfl (fun r h2 hp => ?_)
    obtain ⟨rfl, hG, hD⟩ := hp
    have hF := hF.tr hG
    refine G_zreturn dX2_readThing_13 rfl (tideP01 _ _ _) ?_
    rw [thP_t (by omega)]
    exact ⟨rfl, hF, hD⟩
def lastP (tx : Int → Int) (len : Int) (m : Nat) : Prop := (∀ j : Nat, j < m → goP tx len j) ∧ ¬ goP tx len m
theorem lastP_uniq {tx : Int → Int} {len : Int} {m n : Nat} (a : lastP tx len m) (b : lastP tx len n) : m = n := by
  rcases Nat.lt_trichotomy m n with q | q | q
  · exact absurd (b.1 m q) a.2
  · exact q
  · exact absurd (a.1 n q) b.2
/-- the m-th thing is the last one, and the text ends behind it -/
def endP (tx : Int → Int) (len : Int) (m : Nat) : Prop := (thP tx len (stP tx len m)).1 = 1 ∧ (thP tx len (stP tx len m)).2.1 = len
theorem endP_no {tx : Int → Int} {len : Int} {m : Nat} (h : endP tx len m) : ¬ goP tx len m := by
  intro q
  have a := nxI_in (tx := tx) (len := len) (p := (thP tx len (stP tx len m)).2.1) (by rw [q.2]; omega)
  have b := h.2
  omega
theorem endP_lt {tx : Int → Int} {len : Int} (hl : 0 ≤ len ∧ len ≤ 60) {m : Nat} (a : lastP tx len m) (b : endP tx len m) : m < 20 := by
  have r := stP_rng (tx := tx) (len := len) hl.1 m a.1
  have k := thP_ok (tx := tx) (len := len) (p := stP tx len m) (by omega) r.2
  have b1 := b.1
  unfold thOK2 at k
  omega
def rowsP (tx : Int → Int) (len : Int) (ki fi se : Int → Int) (n : Nat) : Prop := ∀ j : Nat, j < n → ki j = (thP tx len (stP tx len j)).2.2.1 ∧ fi j = (thP tx len (stP tx len j)).2.2.2.1 ∧ se j = (thP tx len (stP tx len j)).2.2.2.2
theorem rowsP.add {tx : Int → Int} {len : Int} {ki fi se : Int → Int} {n : Nat} {x : Int} (h : rowsP tx len ki fi se n) (hx : x = n) : rowsP tx len (fup ki x (thP tx len (stP tx len n)).2.2.1) (fup fi x (thP tx len (stP tx len n)).2.2.2.1) (fup se x (thP tx len (stP tx len n)).2.2.2.2) (n + 1) := by
  intro j hj
  subst hx
  by_cases e : j = n
  · subst e
    rw [fup_eq, fup_eq, fup_eq]
    exact ⟨rfl, rfl, rfl⟩
  · rw [fup_ne (by omega), fup_ne (by omega), fup_ne (by omega)]
    exact h j (by omega)
set_option maxRecDepth 100000 in
set_option maxHeartbeats 4000000 in
theorem c_X2_read (h : List PO) (z : Nat) (tx ki fi se : Int → Int) (len th p : Int) (hS : scAt h z tx len ki fi se th p) (hx : RG 0 65535 60 tx) (hl : 0 ≤ len ∧ len ≤ 60) : PM 5 yX2_read cX2_read 3 (some .boolean) h [r_ z] (fun r0 h2 => Fr h h2 z (z + 5) ∧ ∃ (m : Nat) (ki2 fi2 se2 : Int → Int) (th2 p2 : Int), scAt h2 z tx len ki2 fi2 se2 th2 p2 ∧ lastP tx len m ∧ m < 21 ∧ (r0 = some (i_ 1) ∧ endP tx len m ∧ th2 = m + 1 ∧ rowsP tx len ki2 fi2 se2 (m + 1) ∨ r0 = some (i_ 0) ∧ ¬ endP tx len m ∧ p2 = (thP tx len (stP tx len m)).2.1)) := by
  refine PM_of_G RX2 [some (r_ z), none, none] rfl (by decide +kernel) (Nat.le_of_ble_eq_true rfl) rfl ?_
  obtain ⟨hS0, hS1, hS2, hS3, hS4⟩ := id hS
  have hF : Fr h h z (z + 5) := Fr.rf
  have Z : ∀ (m : Nat) (hh : List PO) (ki2 fi2 se2 : Int → Int) (th2 i : Int), (0 ≤ i ∧ i ≤ 60) → scAt hh z tx len ki2 fi2 se2 th2 (thP tx len (stP tx len m)).2.1 → Fr h hh z (z + 5) → lastP tx len m → m < 21 → ¬ endP tx len m → G 5 cX2_read RX2 3 (some .boolean) hh 17 [some (r_ z), some (i_ 0), some (i_ i)] [] (fun r0 h2 => Fr h h2 z (z + 5) ∧ ∃ (m : Nat) (ki2 fi2 se2 : Int → Int) (th2 p2 : Int), scAt h2 z tx len ki2 fi2 se2 th2 p2 ∧ lastP tx len m ∧ m < 21 ∧ (r0 = some (i_ 1) ∧ endP tx len m ∧ th2 = m + 1 ∧ rowsP tx len ki2 fi2 se2 (m + 1) ∨ r0 = some (i_ 0) ∧ ¬ endP tx len m ∧ p2 = (thP tx len (stP tx len m)).2.1)) := by
    intro m hh ki2 fi2 se2 th2 i hi hS hF hl3 hm hne
    obtain ⟨hS0, hS1, hS2, hS3, hS4⟩ := id hS
    refine G_iload_n dX2_read_17 rfl rfl ?_
    refine G_bipush dX2_read_18 rfl ?_
    refine G_icmp_ge (tgt := 66) dX2_read_20 (by decide) (inR_of (by omega) (by omega)) (inR_of (by omega) (by omega)) (fun hc20 => ?_) (fun hc20 => ?_)
    · skip
      refine G_iload_n dX2_read_66 rfl rfl ?_
      refine G_if_eq (tgt := 85) dX2_read_67 (by decide) (inR_of (by omega) (by omega)) (fun hc67 => ?_) (fun hc67 => ?_)
      · skip
        refine G_iconst dX2_read_85 ?_
        refine G_zreturn dX2_read_86 rfl (by first | exact Or.inl rfl | exact Or.inr rfl) ?_
        exact ⟨hF, m, ki2, fi2, se2, th2, _, hS, hl3, hm, Or.inr ⟨rfl, hne, rfl⟩⟩
      · skip
        exfalso; omega
    · skip
      refine G_iload_n dX2_read_23 rfl rfl ?_
      refine G_if_eq (tgt := 66) dX2_read_24 (by decide) (inR_of (by omega) (by omega)) (fun hc24 => ?_) (fun hc24 => ?_)
      · skip
        refine G_iload_n dX2_read_66 rfl rfl ?_
        refine G_if_eq (tgt := 85) dX2_read_67 (by decide) (inR_of (by omega) (by omega)) (fun hc67 => ?_) (fun hc67 => ?_)
        · skip
          refine G_iconst dX2_read_85 ?_
          refine G_zreturn dX2_read_86 rfl (by first | exact Or.inl rfl | exact Or.inr rfl) ?_
          exact ⟨hF, m, ki2, fi2, se2, th2, _, hS, hl3, hm, Or.inr ⟨rfl, hne, rfl⟩⟩
        · skip
          exfalso; omega
      · skip
        exfalso; omega
  have L : ∀ (fu : Nat) (m : Nat) (hh : List PO) (ki2 : Int → Int) (fi2 : Int → Int) (se2 : Int → Int) (i : Int), i = m → (m : Int) ≤ 19 → scAt hh z tx len ki2 fi2 se2 (m + 1) (thP tx len (stP tx len m)).2.1 → Fr h hh z (z + 5) → (∀ j : Nat, j < m → goP tx len j) → (thP tx len (stP tx len m)).1 = 1 → rowsP tx len ki2 fi2 se2 (m + 1) → 30 - (m : Int) < fu → G 5 cX2_read RX2 3 (some .boolean) hh 17 [some (r_ z), some (i_ 1), some (i_ i)] [] (fun r0 h2 => Fr h h2 z (z + 5) ∧ ∃ (m : Nat) (ki2 fi2 se2 : Int → Int) (th2 p2 : Int), scAt h2 z tx len ki2 fi2 se2 th2 p2 ∧ lastP tx len m ∧ m < 21 ∧ (r0 = some (i_ 1) ∧ endP tx len m ∧ th2 = m + 1 ∧ rowsP tx len ki2 fi2 se2 (m + 1) ∨ r0 = some (i_ 0) ∧ ¬ endP tx len m ∧ p2 = (thP tx len (stP tx len m)).2.1)) := by
    intro fu
    induction fu with
    | zero => intro m hh ki2 fi2 se2 i him hm20 hS hF hgo h1 hrw hmeas; exfalso; omega
    | succ fu ih =>
      intro m hh ki2 fi2 se2 i him hm20 hS hF hgo h1 hrw hmeas
      obtain ⟨hS0, hS1, hS2, hS3, hS4⟩ := id hS
      have hsr := stP_rng (tx := tx) (len := len) hl.1 m hgo
      have htk := thP_ok (tx := tx) (len := len) (p := stP tx len m) (by omega) hsr.2
      unfold thOK2 at htk
      refine G_iload_n dX2_read_17 rfl rfl ?_
      refine G_bipush dX2_read_18 rfl ?_
      refine G_icmp_ge (tgt := 66) dX2_read_20 (by decide) (inR_of (by omega) (by omega)) (inR_of (by omega) (by omega)) (fun hc20 => ?_) (fun hc20 => ?_)
      · skip
        exfalso; omega
      · skip
        refine G_iload_n dX2_read_23 rfl rfl ?_
        refine G_if_eq (tgt := 66) dX2_read_24 (by decide) (inR_of (by omega) (by omega)) (fun hc24 => ?_) (fun hc24 => ?_)
        · skip
          exfalso; omega
        · skip
          refine G_aload_n dX2_read_27 rfl rfl ?_
          refine G_getf fl_X2_29 dX2_read_28 (by assumption) rfl ?_
          refine G_aload_n dX2_read_31 rfl rfl ?_
          refine G_getf fl_X2_25 dX2_read_32 (by assumption) rfl ?_
          refine G_icmp_ge (tgt := 66) dX2_read_35 (by decide) (inR_of (by omega) (by omega)) (inR_of (by omega) (by omega)) (fun hc35 => ?_) (fun hc35 => ?_)
          · skip
            have hen : endP tx len m := ⟨h1, by omega⟩
            refine G_iload_n dX2_read_66 rfl rfl ?_
            refine G_if_eq (tgt := 85) dX2_read_67 (by decide) (inR_of (by omega) (by omega)) (fun hc67 => ?_) (fun hc67 => ?_)
            · skip
              exfalso; omega
            · skip
              refine G_aload_n dX2_read_70 rfl rfl ?_
              refine G_getf fl_X2_29 dX2_read_71 (by assumption) rfl ?_
              refine G_aload_n dX2_read_74 rfl rfl ?_
              refine G_getf fl_X2_25 dX2_read_75 (by assumption) rfl ?_
              refine G_icmp_lt (tgt := 85) dX2_read_78 (by decide) (inR_of (by omega) (by omega)) (inR_of (by omega) (by omega)) (fun hc78 => ?_) (fun hc78 => ?_)
              · skip
                exfalso; omega
              · skip
                refine G_iconst dX2_read_81 ?_
                refine G_goto (tgt := 86) dX2_read_82 (by decide) ?_
                refine G_zreturn dX2_read_86 rfl (by first | exact Or.inl rfl | exact Or.inr rfl) ?_
                exact ⟨hF, m, ki2, fi2, se2, _, _, hS, ⟨hgo, endP_no hen⟩, by omega, Or.inl ⟨rfl, hen, rfl, hrw⟩⟩
          · skip
            have hltl : (thP tx len (stP tx len m)).2.1 < len := by omega
            refine G_aload_n dX2_read_38 rfl rfl ?_
            refine G_bipush dX2_read_39 rfl ?_
            refine G_callV (ci := 2) (as := [_]) (c_X2_pass _ z tx ki2 fi2 se2 len (m + 1) (thP tx len (stP tx len m)).2.1 59 hS hx hl (by omega) (by omega)) dX2_read_41 ml_X2_39 cv_X2_pass (by assumption) rfl rfl (Nat.le_of_ble_eq_true rfl) (Nat.le_of_ble_eq_true rfl) rfl (fun r h2 hp => ?_)
            obtain ⟨y, p2, rfl, hG, hS, hy⟩ := hp
            have hF := hF.tr hG
            obtain ⟨hS0, hS1, hS2, hS3, hS4⟩ := id hS
            refine G_if_eq (tgt := 58) dX2_read_44 (by decide) (inR_of (by omega) (by omega)) (fun hc44 => ?_) (fun hc44 => ?_)
            · skip
              have hng : ¬ goP tx len m := fun q => by have := q.2; omega
              have hne : ¬ endP tx len m := fun q => by have := q.2; omega
              have ep : p2 = (thP tx len (stP tx len m)).2.1 := by omega
              subst ep
              refine G_iconst dX2_read_58 ?_
              refine G_istore_n dX2_read_59 rfl (by decide) rfl ?_
              refine G_iinc dX2_read_60 (by decide) rfl rfl ?_
              refine G_goto (tgt := 17) dX2_read_63 (by decide) ?_
              exact Z m _ ki2 fi2 se2 _ (i + 1) (by omega) hS hF ⟨hgo, hng⟩ (by omega) hne
            · skip
              have hgm : goP tx len m := ⟨h1, by omega⟩
              have ep : p2 = stP tx len (m + 1) := by show p2 = (thP tx len (stP tx len m)).2.1 + 1; omega
              have hgo2 : ∀ j : Nat, j < m + 1 → goP tx len j := fun j hj => by
                by_cases e : j = m
                · rw [e]; exact hgm
                · exact hgo j (by omega)
              have hsr2 := stP_rng (tx := tx) (len := len) hl.1 (m + 1) hgo2
              refine G_aload_n dX2_read_47 rfl rfl ?_
              refine G_callV (ci := 2) (as := []) (c_X2_readThing _ z tx ki2 fi2 se2 len (m + 1) (stP tx len (m + 1)) (by rw [← ep]; exact hS) hx hl (by omega) (by omega)) dX2_read_48 ml_X2_35 cv_X2_readThing (by assumption) rfl rfl (Nat.le_of_ble_eq_true rfl) (Nat.le_of_ble_eq_true rfl) rfl (fun r h2 hp => ?_)
              obtain ⟨rfl, hG, hD⟩ := hp
              have hF := hF.tr hG
              have ht01 := thP01 tx len (stP tx len (m + 1))
              refine G_if_eq (tgt := 58) dX2_read_51 (by decide) (inR_of (by omega) (by omega)) (fun hc51 => ?_) (fun hc51 => ?_)
              · skip
                refine G_iconst dX2_read_58 ?_
                refine G_istore_n dX2_read_59 rfl (by decide) rfl ?_
                refine G_iinc dX2_read_60 (by decide) rfl rfl ?_
                refine G_goto (tgt := 17) dX2_read_63 (by decide) ?_
                have e0 : (thP tx len (stP tx len (m + 1))).1 = 0 := by omega
                have hD1 := hD.resolve_right (fun q => by have := q.1; omega)
                refine Z (m + 1) _ ki2 fi2 se2 _ (i + 1) (by omega) hD1.2 hF ⟨hgo2, fun q => by have := q.1; omega⟩ (by omega) (fun q => by have := q.1; omega)
              · skip
                refine G_iconst dX2_read_54 ?_
                refine G_goto (tgt := 59) dX2_read_55 (by decide) ?_
                refine G_istore_n dX2_read_59 rfl (by decide) rfl ?_
                refine G_iinc dX2_read_60 (by decide) rfl rfl ?_
                refine G_goto (tgt := 17) dX2_read_63 (by decide) ?_
                have e0 : (thP tx len (stP tx len (m + 1))).1 = 1 := by omega
                have htk2 := thP_ok (tx := tx) (len := len) (p := stP tx len (m + 1)) (by omega) hsr2.2
                unfold thOK2 at htk2
                have hD1 := hD.resolve_left (fun q => by have := q.1; omega)
                refine ih (m + 1) _ _ _ _ (i + 1) (by omega) (by omega) hD1.2 hF hgo2 e0 ?_ (by omega)
                exact hrw.add (by omega)
  refine G_aload_n dX2_read_0 rfl rfl ?_
  refine G_iconst dX2_read_1 ?_
  refine G_putI (fs2 := [r_ (z + 1), i_ (len), r_ (z + 2), r_ (z + 3), r_ (z + 4), i_ (th), i_ (0)]) fp_X2_29 dX2_read_2 (by assumption) (Nat.le_of_ble_eq_true rfl) rfl ?_
  have hS := scAt.obj hS (len) (th) (0)
  obtain ⟨hS0, hS1, hS2, hS3, hS4⟩ := id hS
  have hF := hF.tr (Fr.set (o := oScr z (len) (th) (0)) (show z ≤ z by omega) (show z < z + 5 by omega))
  refine G_aload_n dX2_read_5 rfl rfl ?_
  refine G_iconst dX2_read_6 ?_
  refine G_putI (fs2 := [r_ (z + 1), i_ (len), r_ (z + 2), r_ (z + 3), r_ (z + 4), i_ (0), i_ (0)]) fp_X2_32 dX2_read_7 (by assumption) (Nat.le_of_ble_eq_true rfl) rfl ?_
  have hS := scAt.obj hS (len) (0) (0)
  obtain ⟨hS0, hS1, hS2, hS3, hS4⟩ := id hS
  have hF := hF.tr (Fr.set (o := oScr z (len) (0) (0)) (show z ≤ z by omega) (show z < z + 5 by omega))
  refine G_aload_n dX2_read_10 rfl rfl ?_
  refine G_callV (ci := 2) (as := []) (c_X2_readThing _ z tx ki fi se len 0 0 hS hx hl (by omega) (by omega)) dX2_read_11 ml_X2_35 cv_X2_readThing (by assumption) rfl rfl (Nat.le_of_ble_eq_true rfl) (Nat.le_of_ble_eq_true rfl) rfl (fun r h2 hp => ?_)
  obtain ⟨rfl, hG, hD⟩ := hp
  have hF := hF.tr hG
  have ht01 := thP01 tx len 0
  rcases hD with ⟨e0, hD⟩ | ⟨e0, hD⟩
  · rw [e0]
    refine G_istore_n dX2_read_14 rfl (by decide) rfl ?_
    refine G_iconst dX2_read_15 ?_
    refine G_istore_n dX2_read_16 rfl (by decide) rfl ?_
    exact Z 0 _ ki fi se _ 0 (by omega) hD hF ⟨fun j hj => absurd hj (Nat.not_lt_zero j), fun q => by have := q.1; rw [show stP tx len 0 = 0 from rfl] at this; omega⟩ (by omega) (fun q => by have := q.1; rw [show stP tx len 0 = 0 from rfl] at this; omega)
  · rw [e0]
    refine G_istore_n dX2_read_14 rfl (by decide) rfl ?_
    refine G_iconst dX2_read_15 ?_
    refine G_istore_n dX2_read_16 rfl (by decide) rfl ?_
    refine L 31 0 _ _ _ _ 0 rfl (by omega) hD hF (fun j hj => absurd hj (Nat.not_lt_zero j)) e0 ?_ (by omega)
    exact (show rowsP tx len ki fi se 0 from fun j hj => absurd hj (Nat.not_lt_zero j)).add rfl
