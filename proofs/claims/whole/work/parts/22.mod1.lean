theorem G_top {f : Nat} {cc : ByteArray} {own : String} {nL : Nat} {rt : Option FieldType} {h : List PO} {pc : Nat} {lv : List (Option PV)} {st : List PV} {post : Option PV → List PO → Prop} {x y : Int} (e : x = y) (k : G f cc own nL rt h pc lv (i_ y :: st) post) : G f cc own nL rt h pc lv (i_ x :: st) post := by
  rw [e]
  exact k
set_option maxRecDepth 100000 in
set_option maxHeartbeats 4000000 in
theorem c_X6_in (h : List PO) (v lo hi : Int) (hv : inR v) (hl : inR lo) (hh : inR hi) : PM 0 yX6_in cX6_in 3 (some .boolean) h [i_ v, i_ lo, i_ hi] (fun r0 h2 => ∃ y : Int, r0 = some (i_ y) ∧ h = h2 ∧ (y = 1 ∧ lo ≤ v ∧ v ≤ hi ∨ y = 0 ∧ (v < lo ∨ hi < v))) := by
  refine PM_of_G RX6 [some (i_ v), some (i_ lo), some (i_ hi)] rfl (by decide +kernel) (Nat.le_of_ble_eq_true rfl) rfl ?_
  have hv1 := hv.1
  have hv2 := hv.2
  have hl1 := hl.1
  have hl2 := hl.2
  have hh1 := hh.1
  have hh2 := hh.2
  refine G_iload_n dX6_in_0 rfl rfl ?_
  refine G_iload_n dX6_in_1 rfl rfl ?_
  refine G_icmp_lt (tgt := 14) dX6_in_2 (by decide) (inR_of (by omega) (by omega)) (inR_of (by omega) (by omega)) (fun hc2 => ?_) (fun hc2 => ?_)
  · skip
    refine G_iconst dX6_in_14 ?_
    refine G_zreturn dX6_in_15 rfl (by first | exact Or.inl rfl | exact Or.inr rfl) ?_
    exact ⟨_, rfl, rfl, by omega⟩
  · skip
    refine G_iload_n dX6_in_5 rfl rfl ?_
    refine G_iload_n dX6_in_6 rfl rfl ?_
    refine G_icmp_gt (tgt := 14) dX6_in_7 (by decide) (inR_of (by omega) (by omega)) (inR_of (by omega) (by omega)) (fun hc7 => ?_) (fun hc7 => ?_)
    · skip
      refine G_iconst dX6_in_14 ?_
      refine G_zreturn dX6_in_15 rfl (by first | exact Or.inl rfl | exact Or.inr rfl) ?_
      exact ⟨_, rfl, rfl, by omega⟩
    · skip
      refine G_iconst dX6_in_10 ?_
      refine G_goto (tgt := 15) dX6_in_11 (by decide) ?_
      refine G_zreturn dX6_in_15 rfl (by first | exact Or.inl rfl | exact Or.inr rfl) ?_
      exact ⟨_, rfl, rfl, by omega⟩
set_option maxRecDepth 100000 in
set_option maxHeartbeats 4000000 in
theorem c_X6_flag (h : List PO) (b : Int) (hb : b = 0 ∨ b = 1) : PM 0 yX6_flag cX6_flag 1 (some .int) h [i_ b] (fun r0 h2 => r0 = some (i_ b) ∧ h = h2) := by
  refine PM_of_G RX6 [some (i_ b)] rfl (by decide +kernel) (Nat.le_of_ble_eq_true rfl) rfl ?_
  refine G_iload_n dX6_flag_0 rfl rfl ?_
  refine G_if_eq (tgt := 8) dX6_flag_1 (by decide) (inR_of (by omega) (by omega)) (fun hc1 => ?_) (fun hc1 => ?_)
  · skip
    refine G_iconst dX6_flag_8 ?_
    refine G_ireturn dX6_flag_9 rfl ?_
    first
      | (have e : b = 0 := by omega
         rw [e]
         exact ⟨rfl, rfl⟩)
      | (have e : b = 1 := by omega
         rw [e]
         exact ⟨rfl, rfl⟩)
  · skip
    refine G_iconst dX6_flag_4 ?_
    refine G_goto (tgt := 9) dX6_flag_5 (by decide) ?_
    refine G_ireturn dX6_flag_9 rfl ?_
    first
      | (have e : b = 0 := by omega
         rw [e]
         exact ⟨rfl, rfl⟩)
      | (have e : b = 1 := by omega
         rw [e]
         exact ⟨rfl, rfl⟩)
set_option maxRecDepth 100000 in
set_option maxHeartbeats 4000000 in
theorem c_X6_less (h : List PO) (a b : Int) (ha : inR a) (hb : inR b) : PM 0 yX6_less cX6_less 2 (some .int) h [i_ a, i_ b] (fun r0 h2 => r0 = some (i_ (min a b)) ∧ h = h2) := by
  refine PM_of_G RX6 [some (i_ a), some (i_ b)] rfl (by decide +kernel) (Nat.le_of_ble_eq_true rfl) rfl ?_
  have ha1 := ha.1
  have ha2 := ha.2
  have hb1 := hb.1
  have hb2 := hb.2
  refine G_iload_n dX6_less_0 rfl rfl ?_
  refine G_iload_n dX6_less_1 rfl rfl ?_
  refine G_icmp_ge (tgt := 9) dX6_less_2 (by decide) (inR_of (by omega) (by omega)) (inR_of (by omega) (by omega)) (fun hc2 => ?_) (fun hc2 => ?_)
  · skip
    refine G_iload_n dX6_less_9 rfl rfl ?_
    refine G_ireturn dX6_less_10 rfl ?_
    first
      | (rw [Int.min_eq_left (by omega)]
         exact ⟨rfl, rfl⟩)
      | (rw [Int.min_eq_right (by omega)]
         exact ⟨rfl, rfl⟩)
  · skip
    refine G_iload_n dX6_less_5 rfl rfl ?_
    refine G_goto (tgt := 10) dX6_less_6 (by decide) ?_
    refine G_ireturn dX6_less_10 rfl ?_
    first
      | (rw [Int.min_eq_left (by omega)]
         exact ⟨rfl, rfl⟩)
      | (rw [Int.min_eq_right (by omega)]
         exact ⟨rfl, rfl⟩)
set_option maxRecDepth 100000 in
set_option maxHeartbeats 4000000 in
theorem c_X6_wellAt (h : List PO) (b w : Int)  : PM 0 yX6_wellAt cX6_wellAt 2 (some .int) h [i_ b, i_ w] (fun r0 h2 => r0 = some (i_ (b + 167 + 6 * w)) ∧ h = h2) := by
  refine PM_of_G RX6 [some (i_ b), some (i_ w)] rfl (by decide +kernel) (Nat.le_of_ble_eq_true rfl) rfl ?_
  refine G_iload_n dX6_wellAt_0 rfl rfl ?_
  refine G_sipush dX6_wellAt_1 rfl ?_
  refine G_iadd dX6_wellAt_4 ?_
  refine G_bipush dX6_wellAt_5 rfl ?_
  refine G_iload_n dX6_wellAt_7 rfl rfl ?_
  refine G_imul dX6_wellAt_8 ?_
  refine G_iadd dX6_wellAt_9 ?_
  refine G_ireturn dX6_wellAt_10 rfl ?_
  exact ⟨rfl, rfl⟩
set_option maxRecDepth 100000 in
set_option maxHeartbeats 4000000 in
theorem c_X6_isCell (h : List PO) (c : Int) (hc : inR c) : PM 1 yX6_isCell cX6_isCell 1 (some .boolean) h [i_ c] (fun r0 h2 => ∃ y : Int, r0 = some (i_ y) ∧ h = h2 ∧ (y = 1 ∧ 0 ≤ c ∧ c < 40 ∨ y = 0 ∧ (c < 0 ∨ 40 ≤ c))) := by
  refine PM_of_G RX6 [some (i_ c)] rfl (by decide +kernel) (Nat.le_of_ble_eq_true rfl) rfl ?_
  have hc1 := hc.1
  have hc2 := hc.2
  refine G_iload_n dX6_isCell_0 rfl rfl ?_
  refine G_iconst dX6_isCell_1 ?_
  refine G_bipush dX6_isCell_2 rfl ?_
  refine G_callS (as := [_, _, _]) (c_X6_in _ (c) (0) (39) (inR_of (by omega) (by omega)) (inR_of (by omega) (by omega)) (inR_of (by omega) (by omega))) dX6_isCell_4 ml_X6_70 cs_X6_in rfl (Nat.le_of_ble_eq_true rfl) (Nat.le_of_ble_eq_true rfl) rfl (fun r h2 hp => ?_)
  obtain ⟨y, rfl, rfl, hy⟩ := hp
  refine G_zreturn dX6_isCell_7 rfl (by omega) ?_
  exact ⟨_, rfl, rfl, by omega⟩
set_option maxRecDepth 100000 in
set_option maxHeartbeats 4000000 in
theorem c_X6_isRise (h : List PO) (c : Int) (hc : inR c) : PM 1 yX6_isRise cX6_isRise 1 (some .boolean) h [i_ c] (fun r0 h2 => ∃ y : Int, r0 = some (i_ y) ∧ h = h2 ∧ (y = 1 ∧ -30 ≤ c ∧ c ≤ 30 ∨ y = 0 ∧ (c < -30 ∨ 30 < c))) := by
  refine PM_of_G RX6 [some (i_ c)] rfl (by decide +kernel) (Nat.le_of_ble_eq_true rfl) rfl ?_
  have hc1 := hc.1
  have hc2 := hc.2
  refine G_iload_n dX6_isRise_0 rfl rfl ?_
  refine G_bipush dX6_isRise_1 rfl ?_
  refine G_bipush dX6_isRise_3 rfl ?_
  refine G_callS (as := [_, _, _]) (c_X6_in _ (c) (-30) (30) (inR_of (by omega) (by omega)) (inR_of (by omega) (by omega)) (inR_of (by omega) (by omega))) dX6_isRise_5 ml_X6_70 cs_X6_in rfl (Nat.le_of_ble_eq_true rfl) (Nat.le_of_ble_eq_true rfl) rfl (fun r h2 hp => ?_)
  obtain ⟨y, rfl, rfl, hy⟩ := hp
  refine G_zreturn dX6_isRise_8 rfl (by omega) ?_
  exact ⟨_, rfl, rfl, by omega⟩
set_option maxRecDepth 100000 in
set_option maxHeartbeats 4000000 in
theorem c_X6_isWell (h : List PO) (m : Nat) (s tx mk co : Int → Int) (st kp ty sn se fi ca sp le on tw : Int) (N w : Int) (hM : moAt h m s tx mk co st kp ty sn se fi ca sp le on tw) (hR6 : s 6 = N) (hN : 0 ≤ N ∧ N ≤ 6) (hw : inR w) : PM 1 yX6_isWell cX6_isWell 2 (some .boolean) h [r_ m, i_ w] (fun r0 h2 => ∃ y : Int, r0 = some (i_ y) ∧ h = h2 ∧ (y = 1 ∧ 0 ≤ w ∧ w < N ∨ y = 0 ∧ (w < 0 ∨ N ≤ w))) := by
  refine PM_of_G RX6 [some (r_ m), some (i_ w)] rfl (by decide +kernel) (Nat.le_of_ble_eq_true rfl) rfl ?_
  obtain ⟨hM0, hM1, hM2, hM3, hM4⟩ := id hM
  have hw1 := hw.1
  have hw2 := hw.2
  refine G_iload_n dX6_isWell_0 rfl rfl ?_
  refine G_iconst dX6_isWell_1 ?_
  refine G_aload_n dX6_isWell_2 rfl rfl ?_
  refine G_getf fl_X6_7 dX6_isWell_3 (by assumption) rfl ?_
  refine G_bipush dX6_isWell_6 rfl ?_
  refine G_iald dX6_isWell_8 (by assumption) (by omega) (by omega) (by decide) ?_
  refine G_top (hR6) ?_
  refine G_iconst dX6_isWell_9 ?_
  refine G_isub dX6_isWell_10 ?_
  refine G_callS (as := [_, _, _]) (c_X6_in _ (w) (0) (N - 1) (inR_of (by omega) (by omega)) (inR_of (by omega) (by omega)) (inR_of (by omega) (by omega))) dX6_isWell_11 ml_X6_70 cs_X6_in rfl (Nat.le_of_ble_eq_true rfl) (Nat.le_of_ble_eq_true rfl) rfl (fun r h2 hp => ?_)
  obtain ⟨y, rfl, rfl, hy⟩ := hp
  refine G_zreturn dX6_isWell_14 rfl (by omega) ?_
  exact ⟨_, rfl, rfl, by omega⟩
set_option maxRecDepth 100000 in
set_option maxHeartbeats 4000000 in
theorem c_X6_puts (h : List PO) (m : Nat) (s tx mk co : Int → Int) (st kp ty sn se fi ca sp le on tw : Int) (q d : Int) (hM : moAt h m s tx mk co st kp ty sn se fi ca sp le on tw) (q0 : 0 ≤ q) (q1 : q < 1624) (hs : inR (s q)) (hd : inR d) : PM 0 yX6_puts cX6_puts 4 (some .int) h [r_ m, i_ q, i_ d] (fun r0 h2 => r0 = some (i_ (if s q = d then -5 else s q)) ∧ Fr h h2 m (m + 5) ∧ moAt h2 m (fup s q d) tx mk co st kp ty sn se fi ca sp le on tw) := by
  refine PM_of_G RX6 [some (r_ m), some (i_ q), some (i_ d), none] rfl (by decide +kernel) (Nat.le_of_ble_eq_true rfl) rfl ?_
  obtain ⟨hM0, hM1, hM2, hM3, hM4⟩ := id hM
  have hF : Fr h h m (m + 5) := Fr.rf
  have hs1 := hs.1
  have hs2 := hs.2
  have hd1 := hd.1
  have hd2 := hd.2
  refine G_aload_n dX6_puts_0 rfl rfl ?_
  refine G_getf fl_X6_7 dX6_puts_1 (by assumption) rfl ?_
  refine G_iload_n dX6_puts_4 rfl rfl ?_
  refine G_iald dX6_puts_5 (by assumption) (by omega) (by omega) (by decide) ?_
  refine G_istore_n dX6_puts_6 rfl (by decide) rfl ?_
  refine G_aload_n dX6_puts_7 rfl rfl ?_
  refine G_getf fl_X6_7 dX6_puts_8 (by assumption) rfl ?_
  refine G_iload_n dX6_puts_11 rfl rfl ?_
  refine G_iload_n dX6_puts_12 rfl rfl ?_
  refine G_iast dX6_puts_13 (by assumption) (by omega) (by omega) (by decide) rfl ?_
  have hM := hM.set1 (fup s q d)
  obtain ⟨hM0, hM1, hM2, hM3, hM4⟩ := id hM
  have hF := hF.tr (Fr.set (o := oI 1624 (fup s q d)) (show m ≤ m + 1 by omega) (show m + 1 < m + 5 by omega))
  refine G_iload_n dX6_puts_14 rfl rfl ?_
  refine G_iload_n dX6_puts_15 rfl rfl ?_
  refine G_icmp_ne (tgt := 24) dX6_puts_16 (by decide) (inR_of (by omega) (by omega)) (inR_of (by omega) (by omega)) (fun hc16 => ?_) (fun hc16 => ?_)
  · skip
    refine G_iload_n dX6_puts_24 rfl rfl ?_
    refine G_ireturn dX6_puts_25 rfl ?_
    first
      | (rw [if_pos (by omega)]
         exact ⟨rfl, hF, hM⟩)
      | (rw [if_neg (by omega)]
         exact ⟨rfl, hF, hM⟩)
  · skip
    refine G_bipush dX6_puts_19 rfl ?_
    refine G_goto (tgt := 25) dX6_puts_21 (by decide) ?_
    refine G_ireturn dX6_puts_25 rfl ?_
    first
      | (rw [if_pos (by omega)]
         exact ⟨rfl, hF, hM⟩)
      | (rw [if_neg (by omega)]
         exact ⟨rfl, hF, hM⟩)
set_option maxRecDepth 100000 in
set_option maxHeartbeats 4000000 in
theorem c_X6_copies (h : List PO) (m : Nat) (s tx mk co : Int → Int) (st kp ty sn se fi ca sp le on tw : Int) (a b : Int) (hM : moAt h m s tx mk co st kp ty sn se fi ca sp le on tw) (ha : 0 ≤ a ∧ a ≤ 7) (hb : 0 ≤ b ∧ b ≤ 7) (hab : a ≠ b) : PM 0 yX6_copies cX6_copies 4 none h [r_ m, i_ a, i_ b] (fun r0 h2 => r0 = none ∧ Fr h h2 m (m + 5) ∧ moAt h2 m (cpR s a b) tx mk co st kp ty sn se fi ca sp le on tw) := by
  refine PM_of_G RX6 [some (r_ m), some (i_ a), some (i_ b), none] rfl (by decide +kernel) (Nat.le_of_ble_eq_true rfl) rfl ?_
  have L : ∀ (fu : Nat) (i : Int) (hh : List PO), 0 ≤ i → i ≤ 203 → moAt hh m (cpN s a b i) tx mk co st kp ty sn se fi ca sp le on tw → Fr h hh m (m + 5) → 203 - i < fu → G 0 cX6_copies RX6 4 none hh 2 [some (r_ m), some (i_ a), some (i_ b), some (i_ i)] [] (fun r0 h2 => r0 = none ∧ Fr h h2 m (m + 5) ∧ moAt h2 m (cpR s a b) tx mk co st kp ty sn se fi ca sp le on tw) := by
    intro fu
    induction fu with
    | zero => intro i hh a1 a2 hM hF hmeas; exfalso; omega
    | succ fu ih =>
      intro i hh a1 a2 hM hF hmeas
      obtain ⟨hM0, hM1, hM2, hM3, hM4⟩ := id hM
      refine G_iload_n dX6_copies_2 rfl rfl ?_
      refine G_sipush dX6_copies_3 rfl ?_
      refine G_icmp_ge (tgt := 39) dX6_copies_6 (by decide) (inR_of (by omega) (by omega)) (inR_of (by omega) (by omega)) (fun hc6 => ?_) (fun hc6 => ?_)
      · skip
        have e : i = 203 := by omega
        subst e
        refine G_return dX6_copies_39 rfl ?_
        exact ⟨rfl, hF, hM⟩
      · skip
        refine G_aload_n dX6_copies_9 rfl rfl ?_
        refine G_getf fl_X6_7 dX6_copies_10 (by assumption) rfl ?_
        refine G_sipush dX6_copies_13 rfl ?_
        refine G_iload_n dX6_copies_16 rfl rfl ?_
        refine G_imul dX6_copies_17 ?_
        refine G_iload_n dX6_copies_18 rfl rfl ?_
        refine G_iadd dX6_copies_19 ?_
        refine G_aload_n dX6_copies_20 rfl rfl ?_
        refine G_getf fl_X6_7 dX6_copies_21 (by assumption) rfl ?_
        refine G_sipush dX6_copies_24 rfl ?_
        refine G_iload_n dX6_copies_27 rfl rfl ?_
        refine G_imul dX6_copies_28 ?_
        refine G_iload_n dX6_copies_29 rfl rfl ?_
        refine G_iadd dX6_copies_30 ?_
        refine G_iald dX6_copies_31 (by assumption) (by omega) (by omega) (by decide) ?_
        refine G_iast dX6_copies_32 (by assumption) (by omega) (by omega) (by decide) (cpN_s a1 (by omega) hab) ?_
        have hM := hM.set1 (cpN s a b (i + 1))
        obtain ⟨hM0, hM1, hM2, hM3, hM4⟩ := id hM
        have hF := hF.tr (Fr.set (o := oI 1624 (cpN s a b (i + 1))) (show m ≤ m + 1 by omega) (show m + 1 < m + 5 by omega))
        refine G_iinc dX6_copies_33 (by decide) rfl rfl ?_
        refine G_goto (tgt := 2) dX6_copies_36 (by decide) ?_
        exact ih (i + 1) _ (by omega) (by omega) hM hF (by omega)
  refine G_iconst dX6_copies_0 ?_
  refine G_istore_n dX6_copies_1 rfl (by decide) rfl ?_
  exact L 204 0 _ (by omega) (by omega) (by rw [cpN_0]; exact hM) Fr.rf (by omega)
def rtS (s : Int → Int) : Nat → Int → Int
  | 0 => s
  | n + 1 => cpR (rtS s n) (n + 2) (n + 1)
def recS (s : Int → Int) (st a : Int) : Int → Int := if st < 4 then cpR s a (st + 1) else cpR (rtS s 3) a 4
set_option maxRecDepth 100000 in
set_option maxHeartbeats 4000000 in
theorem c_X6_records (h : List PO) (m : Nat) (s tx mk co : Int → Int) (st kp ty sn se fi ca sp le on tw : Int) (a : Int) (hM : moAt h m s tx mk co st kp ty sn se fi ca sp le on tw) (hst : 0 ≤ st ∧ st ≤ 4) (ha : 0 ≤ a ∧ a ≤ 7) (ha2 : a = 0 ∨ a = 6) : PM 1 yX6_records cX6_records 3 none h [r_ m, i_ a] (fun r0 h2 => r0 = none ∧ Fr h h2 m (m + 5) ∧ moAt h2 m (recS s st a) tx mk co (addZ st) kp ty sn se fi ca sp le on tw) := by
  refine PM_of_G RX6 [some (r_ m), some (i_ a), none] rfl (by decide +kernel) (Nat.le_of_ble_eq_true rfl) rfl ?_
  obtain ⟨hM0, hM1, hM2, hM3, hM4⟩ := id hM
  have hF : Fr h h m (m + 5) := Fr.rf
  refine G_aload_n dX6_records_0 rfl rfl ?_
  refine G_getf fl_X6_29 dX6_records_1 (by assumption) rfl ?_
  refine G_iconst dX6_records_4 ?_
  refine G_icmp_ne (tgt := 39) dX6_records_5 (by decide) (inR_of (by omega) (by omega)) (inR_of (by omega) (by omega)) (fun hc5 => ?_) (fun hc5 => ?_)
  · skip
    refine G_aload_n dX6_records_39 rfl rfl ?_
    refine G_dup dX6_records_40 ?_
    refine G_getf fl_X6_29 dX6_records_41 (by assumption) rfl ?_
    refine G_iconst dX6_records_44 ?_
    refine G_iadd dX6_records_45 ?_
    refine G_putI (fs2 := [r_ (m + 1), i_ (st + 1), i_ (kp), r_ (m + 2), i_ (ty), i_ (sn), i_ (se), r_ (m + 3), i_ (fi), i_ (ca), r_ (m + 4), i_ (sp), i_ (le), i_ (on), i_ (tw)]) fp_X6_29 dX6_records_46 (by assumption) (Nat.le_of_ble_eq_true rfl) rfl ?_
    have hM := hM.obj (st + 1) (kp) (ty) (sn) (se) (fi) (ca) (sp) (le) (on) (tw)
    obtain ⟨hM0, hM1, hM2, hM3, hM4⟩ := id hM
    have hF := hF.tr (Fr.set (o := oMod m (st + 1) (kp) (ty) (sn) (se) (fi) (ca) (sp) (le) (on) (tw)) (show m ≤ m by omega) (show m < m + 5 by omega))
    refine G_aload_n dX6_records_49 rfl rfl ?_
    refine G_iload_n dX6_records_50 rfl rfl ?_
    refine G_aload_n dX6_records_51 rfl rfl ?_
    refine G_getf fl_X6_29 dX6_records_52 (by assumption) rfl ?_
    refine G_callV (ci := 6) (as := [_, _]) (c_X6_copies _ m s tx mk co (st + 1) kp ty sn se fi ca sp le on tw a (st + 1) hM ha (by omega) (by omega)) dX6_records_55 ml_X6_32 cv_X6_copies (by assumption) rfl rfl (Nat.le_of_ble_eq_true rfl) (Nat.le_of_ble_eq_true rfl) rfl (fun r h2 hp => ?_)
    obtain ⟨rfl, hF1, hM⟩ := hp
    have hF := hF.tr hF1
    refine G_return dX6_records_58 rfl ?_
    refine ⟨rfl, hF, ?_⟩
    have e1 : recS s st a = cpR s a (st + 1) := by
      unfold recS
      rw [if_pos (by omega)]
    have e2 : addZ st = st + 1 := by unfold addZ; rw [if_pos (by omega)]
    rw [e1, e2]
    exact hM
  · skip
    have hst4 : st = 4 := by omega
    have L : ∀ (fu : Nat) (k : Nat) (hh : List PO) (i : Int), i = k + 1 → k ≤ 3 → moAt hh m (rtS s k) tx mk co st kp ty sn se fi ca sp le on tw → Fr h hh m (m + 5) → 4 - i < fu → G 1 cX6_records RX6 3 none hh 10 [some (r_ m), some (i_ a), some (i_ i)] [] (fun r0 h2 => r0 = none ∧ Fr h h2 m (m + 5) ∧ moAt h2 m (recS s st a) tx mk co (addZ st) kp ty sn se fi ca sp le on tw) := by
      intro fu
      induction fu with
      | zero => intro k hh i hik a2 hM hF hmeas; exfalso; omega
      | succ fu ih =>
        intro k hh i hik a2 hM hF hmeas
        obtain ⟨hM0, hM1, hM2, hM3, hM4⟩ := id hM
        refine G_iload_n dX6_records_10 rfl rfl ?_
        refine G_iconst dX6_records_11 ?_
        refine G_icmp_ge (tgt := 29) dX6_records_12 (by decide) (inR_of (by omega) (by omega)) (inR_of (by omega) (by omega)) (fun hc12 => ?_) (fun hc12 => ?_)
        · skip
          have e : k = 3 := by omega
          subst e
          refine G_aload_n dX6_records_29 rfl rfl ?_
          refine G_dup dX6_records_30 ?_
          refine G_getf fl_X6_29 dX6_records_31 (by assumption) rfl ?_
          refine G_iconst dX6_records_34 ?_
          refine G_isub dX6_records_35 ?_
          refine G_putI (fs2 := [r_ (m + 1), i_ (st - 1), i_ (kp), r_ (m + 2), i_ (ty), i_ (sn), i_ (se), r_ (m + 3), i_ (fi), i_ (ca), r_ (m + 4), i_ (sp), i_ (le), i_ (on), i_ (tw)]) fp_X6_29 dX6_records_36 (by assumption) (Nat.le_of_ble_eq_true rfl) rfl ?_
          have hM := hM.obj (st - 1) (kp) (ty) (sn) (se) (fi) (ca) (sp) (le) (on) (tw)
          obtain ⟨hM0, hM1, hM2, hM3, hM4⟩ := id hM
          have hF := hF.tr (Fr.set (o := oMod m (st - 1) (kp) (ty) (sn) (se) (fi) (ca) (sp) (le) (on) (tw)) (show m ≤ m by omega) (show m < m + 5 by omega))
          refine G_aload_n dX6_records_39 rfl rfl ?_
          refine G_dup dX6_records_40 ?_
          refine G_getf fl_X6_29 dX6_records_41 (by assumption) rfl ?_
          refine G_iconst dX6_records_44 ?_
          refine G_iadd dX6_records_45 ?_
          refine G_putI (fs2 := [r_ (m + 1), i_ (st - 1 + 1), i_ (kp), r_ (m + 2), i_ (ty), i_ (sn), i_ (se), r_ (m + 3), i_ (fi), i_ (ca), r_ (m + 4), i_ (sp), i_ (le), i_ (on), i_ (tw)]) fp_X6_29 dX6_records_46 (by assumption) (Nat.le_of_ble_eq_true rfl) rfl ?_
          have hM := hM.obj (st - 1 + 1) (kp) (ty) (sn) (se) (fi) (ca) (sp) (le) (on) (tw)
          obtain ⟨hM0, hM1, hM2, hM3, hM4⟩ := id hM
          have hF := hF.tr (Fr.set (o := oMod m (st - 1 + 1) (kp) (ty) (sn) (se) (fi) (ca) (sp) (le) (on) (tw)) (show m ≤ m by omega) (show m < m + 5 by omega))
          refine G_aload_n dX6_records_49 rfl rfl ?_
          refine G_iload_n dX6_records_50 rfl rfl ?_
          refine G_aload_n dX6_records_51 rfl rfl ?_
          refine G_getf fl_X6_29 dX6_records_52 (by assumption) rfl ?_
          refine G_callV (ci := 6) (as := [_, _]) (c_X6_copies _ m (rtS s 3) tx mk co (st - 1 + 1) kp ty sn se fi ca sp le on tw a (st - 1 + 1) hM ha (by omega) (by omega)) dX6_records_55 ml_X6_32 cv_X6_copies (by assumption) rfl rfl (Nat.le_of_ble_eq_true rfl) (Nat.le_of_ble_eq_true rfl) rfl (fun r h2 hp => ?_)
          obtain ⟨rfl, hF1, hM⟩ := hp
          have hF := hF.tr hF1
          refine G_return dX6_records_58 rfl ?_
          refine ⟨rfl, hF, ?_⟩
          have e1 : recS s st a = cpR (rtS s 3) a (st - 1 + 1) := by
            unfold recS
            rw [if_neg (by omega)]
            congr 1; omega
          have e2 : addZ st = st - 1 + 1 := by unfold addZ; rw [if_neg (by omega)]; omega
          rw [e1, e2]
          exact hM
        · skip
          refine G_aload_n dX6_records_15 rfl rfl ?_
          refine G_iload_n dX6_records_16 rfl rfl ?_
          refine G_iconst dX6_records_17 ?_
          refine G_iadd dX6_records_18 ?_
          refine G_iload_n dX6_records_19 rfl rfl ?_
          refine G_callV (ci := 6) (as := [_, _]) (c_X6_copies hh m (rtS s k) tx mk co st kp ty sn se fi ca sp le on tw (i + 1) i hM (by omega) (by omega) (by omega)) dX6_records_20 ml_X6_32 cv_X6_copies (by assumption) rfl rfl (Nat.le_of_ble_eq_true rfl) (Nat.le_of_ble_eq_true rfl) rfl (fun r h2 hp => ?_)
          obtain ⟨rfl, hF1, hM⟩ := hp
          have hF := hF.tr hF1
          refine G_iinc dX6_records_23 (by decide) rfl rfl ?_
          refine G_goto (tgt := 10) dX6_records_26 (by decide) ?_
          refine ih (k + 1) _ (i + 1) (by omega) (by omega) ?_ hF (by omega)
          have e : rtS s (k + 1) = cpR (rtS s k) (i + 1) i := by
            show cpR (rtS s k) ((k : Int) + 2) ((k : Int) + 1) = _
            rw [show (k : Int) + 2 = i + 1 from by omega, show (k : Int) + 1 = i from by omega]
          rw [e]
          exact hM
    refine G_iconst dX6_records_8 ?_
    refine G_istore_n dX6_records_9 rfl (by decide) rfl ?_
    exact L 5 0 _ 1 rfl (by omega) hM Fr.rf (by omega)
theorem reachN_s {q : Int → Int} {i : Int} (h : 0 ≤ i) : reachN q (i + 1).toNat = if 0 < q i then i else reachN q i.toNat := by
  have e : (i + 1).toNat = i.toNat + 1 := by omega
  have e2 : ((i.toNat : Nat) : Int) = i := by omega
  rw [e]
  show (if 0 < q ((i.toNat : Nat) : Int) then ((i.toNat : Nat) : Int) else reachN q i.toNat) = _
  rw [e2]
set_option maxRecDepth 100000 in
set_option maxHeartbeats 4000000 in
theorem c_X6_reachOf (h : List PO) (m : Nat) (s tx mk co : Int → Int) (st kp ty sn se fi ca sp le on tw : Int) (b : Int) (D S H T C R A Z W U : Int → Int) (N : Int) (E : Int → Int) (X Y F : Int) (hM : moAt h m s tx mk co st kp ty sn se fi ca sp le on tw) (b0 : 0 ≤ b) (b1 : b ≤ 1421) (hR : rwF s b D S H T C R A Z W U N E X Y F) (hH : RG 0 60 40 H) : PM 0 yX6_reachOf cX6_reachOf 4 (some .int) h [r_ m, i_ b] (fun r0 h2 => r0 = some (i_ (reachN H 40)) ∧ h = h2) := by
  refine PM_of_G RX6 [some (r_ m), some (i_ b), none, none] rfl (by decide +kernel) (Nat.le_of_ble_eq_true rfl) rfl ?_
  obtain ⟨hM0, hM1, hM2, hM3, hM4⟩ := id hM
  obtain ⟨hRc, ⟨hR0, hR1, hR2, hR3, hR4, hR5, hR6⟩, hRw⟩ := id hR
  have L : ∀ (fu : Nat) (i : Int) (ac : Int), 0 ≤ i → i ≤ 40 → ac = reachN H i.toNat → 40 - i < fu → G 0 cX6_reachOf RX6 4 (some .int) h 5 [some (r_ m), some (i_ b), some (i_ ac), some (i_ i)] [] (fun r0 h2 => r0 = some (i_ (reachN H 40)) ∧ h = h2) := by
    intro fu
    induction fu with
    | zero => intro i ac a1 a2 hac hmeas; exfalso; omega
    | succ fu ih =>
      intro i ac a1 a2 hac hmeas
      refine G_iload_n dX6_reachOf_5 rfl rfl ?_
      refine G_bipush dX6_reachOf_6 rfl ?_
      refine G_icmp_ge (tgt := 37) dX6_reachOf_8 (by decide) (inR_of (by omega) (by omega)) (inR_of (by omega) (by omega)) (fun hc8 => ?_) (fun hc8 => ?_)
      · skip
        have e : i = 40 := by omega
        subst e
        subst hac
        refine G_iload_n dX6_reachOf_37 rfl rfl ?_
        refine G_ireturn dX6_reachOf_38 rfl ?_
        exact ⟨rfl, rfl⟩
      · skip
        refine G_aload_n dX6_reachOf_11 rfl rfl ?_
        refine G_getf fl_X6_7 dX6_reachOf_12 (by assumption) rfl ?_
        refine G_iload_n dX6_reachOf_15 rfl rfl ?_
        refine G_bipush dX6_reachOf_16 rfl ?_
        refine G_iadd dX6_reachOf_18 ?_
        refine G_iload_n dX6_reachOf_19 rfl rfl ?_
        refine G_iadd dX6_reachOf_20 ?_
        refine G_iald dX6_reachOf_21 (by assumption) (by omega) (by omega) (by decide) ?_
        refine G_top ((hRc (i) (by omega) (by omega)).2.2.1) ?_
        refine G_if_le (tgt := 29) dX6_reachOf_22 (by decide) (inR_of (by have := hH i (by omega) (by omega); omega) (by have := hH i (by omega) (by omega); omega)) (fun hc22 => ?_) (fun hc22 => ?_)
        · skip
          refine G_iload_n dX6_reachOf_29 rfl rfl ?_
          refine G_istore_n dX6_reachOf_30 rfl (by decide) rfl ?_
          refine G_iinc dX6_reachOf_31 (by decide) rfl rfl ?_
          refine G_goto (tgt := 5) dX6_reachOf_34 (by decide) ?_
          exact ih (i + 1) _ (by omega) (by omega) (by rw [reachN_s a1]; first | (rw [if_pos (by omega)]; done) | (rw [if_neg (by omega)]; exact hac)) (by omega)
        · skip
          refine G_iload_n dX6_reachOf_25 rfl rfl ?_
          refine G_goto (tgt := 30) dX6_reachOf_26 (by decide) ?_
          refine G_istore_n dX6_reachOf_30 rfl (by decide) rfl ?_
          refine G_iinc dX6_reachOf_31 (by decide) rfl rfl ?_
          refine G_goto (tgt := 5) dX6_reachOf_34 (by decide) ?_
          exact ih (i + 1) _ (by omega) (by omega) (by rw [reachN_s a1]; first | (rw [if_pos (by omega)]; done) | (rw [if_neg (by omega)]; exact hac)) (by omega)
  refine G_bipush dX6_reachOf_0 rfl ?_
  refine G_istore_n dX6_reachOf_2 rfl (by decide) rfl ?_
  refine G_iconst dX6_reachOf_3 ?_
  refine G_istore_n dX6_reachOf_4 rfl (by decide) rfl ?_
  exact L 41 0 _ (by omega) (by omega) rfl (by omega)
set_option maxRecDepth 100000 in
set_option maxHeartbeats 4000000 in
theorem c_X6_wetCells (h : List PO) (m : Nat) (s tx mk co : Int → Int) (st kp ty sn se fi ca sp le on tw : Int) (b : Int) (D S H T C R A Z W U : Int → Int) (N : Int) (E : Int → Int) (X Y F : Int) (hM : moAt h m s tx mk co st kp ty sn se fi ca sp le on tw) (b0 : 0 ≤ b) (b1 : b ≤ 1421) (hR : rwF s b D S H T C R A Z W U N E X Y F) (hH : RG 0 60 40 H) : PM 1 yX6_wetCells cX6_wetCells 4 (some .int) h [r_ m, i_ b] (fun r0 h2 => r0 = some (i_ (sumN (wetI H) 40)) ∧ h = h2) := by
  refine PM_of_G RX6 [some (r_ m), some (i_ b), none, none] rfl (by decide +kernel) (Nat.le_of_ble_eq_true rfl) rfl ?_
  obtain ⟨hM0, hM1, hM2, hM3, hM4⟩ := id hM
  obtain ⟨hRc, ⟨hR0, hR1, hR2, hR3, hR4, hR5, hR6⟩, hRw⟩ := id hR
  have L : ∀ (fu : Nat) (i : Int) (ac : Int), 0 ≤ i → i ≤ 40 → ac = sumN (wetI H) i.toNat → 40 - i < fu → G 1 cX6_wetCells RX6 4 (some .int) h 4 [some (r_ m), some (i_ b), some (i_ ac), some (i_ i)] [] (fun r0 h2 => r0 = some (i_ (sumN (wetI H) 40)) ∧ h = h2) := by
    intro fu
    induction fu with
    | zero => intro i ac a1 a2 hac hmeas; exfalso; omega
    | succ fu ih =>
      intro i ac a1 a2 hac hmeas
      refine G_iload_n dX6_wetCells_4 rfl rfl ?_
      refine G_bipush dX6_wetCells_5 rfl ?_
      refine G_icmp_ge (tgt := 41) dX6_wetCells_7 (by decide) (inR_of (by omega) (by omega)) (inR_of (by omega) (by omega)) (fun hc7 => ?_) (fun hc7 => ?_)
      · skip
        have e : i = 40 := by omega
        subst e
        subst hac
        refine G_iload_n dX6_wetCells_41 rfl rfl ?_
        refine G_ireturn dX6_wetCells_42 rfl ?_
        exact ⟨rfl, rfl⟩
      · skip
        refine G_iload_n dX6_wetCells_10 rfl rfl ?_
        refine G_aload_n dX6_wetCells_11 rfl rfl ?_
        refine G_getf fl_X6_7 dX6_wetCells_12 (by assumption) rfl ?_
        refine G_iload_n dX6_wetCells_15 rfl rfl ?_
        refine G_bipush dX6_wetCells_16 rfl ?_
        refine G_iadd dX6_wetCells_18 ?_
        refine G_iload_n dX6_wetCells_19 rfl rfl ?_
        refine G_iadd dX6_wetCells_20 ?_
        refine G_iald dX6_wetCells_21 (by assumption) (by omega) (by omega) (by decide) ?_
        refine G_top ((hRc (i) (by omega) (by omega)).2.2.1) ?_
        refine G_if_le (tgt := 29) dX6_wetCells_22 (by decide) (inR_of (by have := hH i (by omega) (by omega); omega) (by have := hH i (by omega) (by omega); omega)) (fun hc22 => ?_) (fun hc22 => ?_)
        · skip
          refine G_iconst dX6_wetCells_29 ?_
          refine G_callS (as := [_]) (c_X6_flag h _ (by first | exact Or.inl rfl | exact Or.inr rfl)) dX6_wetCells_30 ml_X6_53 cs_X6_flag rfl (Nat.le_of_ble_eq_true rfl) (Nat.le_of_ble_eq_true rfl) rfl (fun r h2 hp => ?_)
          obtain ⟨rfl, rfl⟩ := hp
          refine G_iadd dX6_wetCells_33 ?_
          refine G_istore_n dX6_wetCells_34 rfl (by decide) rfl ?_
          refine G_iinc dX6_wetCells_35 (by decide) rfl rfl ?_
          refine G_goto (tgt := 4) dX6_wetCells_38 (by decide) ?_
          refine ih (i + 1) _ (by omega) (by omega) ?_ (by omega)
          rw [sumN_s a1, hac]
          first
            | rw [wetI_1 (by omega)]
            | rw [wetI_0 (by omega)]
        · skip
          refine G_iconst dX6_wetCells_25 ?_
          refine G_goto (tgt := 30) dX6_wetCells_26 (by decide) ?_
          refine G_callS (as := [_]) (c_X6_flag h _ (by first | exact Or.inl rfl | exact Or.inr rfl)) dX6_wetCells_30 ml_X6_53 cs_X6_flag rfl (Nat.le_of_ble_eq_true rfl) (Nat.le_of_ble_eq_true rfl) rfl (fun r h2 hp => ?_)
          obtain ⟨rfl, rfl⟩ := hp
          refine G_iadd dX6_wetCells_33 ?_
          refine G_istore_n dX6_wetCells_34 rfl (by decide) rfl ?_
          refine G_iinc dX6_wetCells_35 (by decide) rfl rfl ?_
          refine G_goto (tgt := 4) dX6_wetCells_38 (by decide) ?_
          refine ih (i + 1) _ (by omega) (by omega) ?_ (by omega)
          rw [sumN_s a1, hac]
          first
            | rw [wetI_1 (by omega)]
            | rw [wetI_0 (by omega)]
  refine G_iconst dX6_wetCells_0 ?_
  refine G_istore_n dX6_wetCells_1 rfl (by decide) rfl ?_
  refine G_iconst dX6_wetCells_2 ?_
  refine G_istore_n dX6_wetCells_3 rfl (by decide) rfl ?_
  exact L 41 0 _ (by omega) (by omega) rfl (by omega)
set_option maxRecDepth 100000 in
set_option maxHeartbeats 4000000 in
theorem c_X6_wellBeside (h : List PO) (m : Nat) (s tx mk co : Int → Int) (st kp ty sn se fi ca sp le on tw : Int) (k : Int) (D S H T C R A Z W U : Int → Int) (N : Int) (E : Int → Int) (X Y F : Int) (hM : moAt h m s tx mk co st kp ty sn se fi ca sp le on tw) (hR : rwF s 0 D S H T C R A Z W U N E X Y F) (hN : 0 ≤ N ∧ N ≤ 6) (hC : RG 0 39 N C) (hk : inR k) : PM 1 yX6_wellBeside cX6_wellBeside 4 (some .int) h [r_ m, i_ k] (fun r0 h2 => r0 = some (i_ (besN C k N.toNat)) ∧ h = h2) := by
  refine PM_of_G RX6 [some (r_ m), some (i_ k), none, none] rfl (by decide +kernel) (Nat.le_of_ble_eq_true rfl) rfl ?_
  obtain ⟨hM0, hM1, hM2, hM3, hM4⟩ := id hM
  obtain ⟨hRc, ⟨hR0, hR1, hR2, hR3, hR4, hR5, hR6⟩, hRw⟩ := rwF.zero hR
  have hk1 := hk.1
  have hk2 := hk.2
  have L : ∀ (fu : Nat) (i : Int) (ac : Int), 0 ≤ i → i ≤ N → ac = besN C k i.toNat → N - i < fu → G 1 cX6_wellBeside RX6 4 (some .int) h 5 [some (r_ m), some (i_ k), some (i_ ac), some (i_ i)] [] (fun r0 h2 => r0 = some (i_ (besN C k N.toNat)) ∧ h = h2) := by
    intro fu
    induction fu with
    | zero => intro i ac a1 a2 hac hmeas; exfalso; omega
    | succ fu ih =>
      intro i ac a1 a2 hac hmeas
      refine G_iload_n dX6_wellBeside_5 rfl rfl ?_
      refine G_aload_n dX6_wellBeside_6 rfl rfl ?_
      refine G_getf fl_X6_7 dX6_wellBeside_7 (by assumption) rfl ?_
      refine G_bipush dX6_wellBeside_10 rfl ?_
      refine G_iald dX6_wellBeside_12 (by assumption) (by omega) (by omega) (by decide) ?_
      refine G_top (hR6) ?_
      refine G_icmp_ge (tgt := 42) dX6_wellBeside_13 (by decide) (inR_of (by omega) (by omega)) (inR_of (by omega) (by omega)) (fun hc13 => ?_) (fun hc13 => ?_)
      · skip
        have e : i = N := by omega
        subst e
        subst hac
        refine G_iload_n dX6_wellBeside_42 rfl rfl ?_
        refine G_ireturn dX6_wellBeside_43 rfl ?_
        exact ⟨rfl, rfl⟩
      · skip
        refine G_aload_n dX6_wellBeside_16 rfl rfl ?_
        refine G_getf fl_X6_7 dX6_wellBeside_17 (by assumption) rfl ?_
        refine G_iconst dX6_wellBeside_20 ?_
        refine G_iload_n dX6_wellBeside_21 rfl rfl ?_
        refine G_callS (as := [_, _]) (c_X6_wellAt h 0 i) dX6_wellBeside_22 ml_X6_46 cs_X6_wellAt rfl (Nat.le_of_ble_eq_true rfl) (Nat.le_of_ble_eq_true rfl) rfl (fun r h2 hp => ?_)
        obtain ⟨rfl, rfl⟩ := hp
        refine G_iald dX6_wellBeside_25 (by assumption) (by omega) (by omega) (by decide) ?_
        refine G_top ((hRw (i) (by omega) (by omega)).1) ?_
        refine G_iload_n dX6_wellBeside_26 rfl rfl ?_
        refine G_icmp_ne (tgt := 34) dX6_wellBeside_27 (by decide) (inR_of (by have := hC i (by omega) (by omega); omega) (by have := hC i (by omega) (by omega); omega)) (inR_of (by omega) (by omega)) (fun hc27 => ?_) (fun hc27 => ?_)
        · skip
          refine G_iload_n dX6_wellBeside_34 rfl rfl ?_
          refine G_istore_n dX6_wellBeside_35 rfl (by decide) rfl ?_
          refine G_iinc dX6_wellBeside_36 (by decide) rfl rfl ?_
          refine G_goto (tgt := 5) dX6_wellBeside_39 (by decide) ?_
          exact ih (i + 1) _ (by omega) (by omega) (by rw [besN_s a1]; first | (rw [if_pos (by omega)]; done) | (rw [if_neg (by omega)]; exact hac)) (by omega)
        · skip
          refine G_iload_n dX6_wellBeside_30 rfl rfl ?_
          refine G_goto (tgt := 35) dX6_wellBeside_31 (by decide) ?_
          refine G_istore_n dX6_wellBeside_35 rfl (by decide) rfl ?_
          refine G_iinc dX6_wellBeside_36 (by decide) rfl rfl ?_
          refine G_goto (tgt := 5) dX6_wellBeside_39 (by decide) ?_
          exact ih (i + 1) _ (by omega) (by omega) (by rw [besN_s a1]; first | (rw [if_pos (by omega)]; done) | (rw [if_neg (by omega)]; exact hac)) (by omega)
  refine G_bipush dX6_wellBeside_0 rfl ?_
  refine G_istore_n dX6_wellBeside_2 rfl (by decide) rfl ?_
  refine G_iconst dX6_wellBeside_3 ?_
  refine G_istore_n dX6_wellBeside_4 rfl (by decide) rfl ?_
  exact L 7 0 _ (by omega) (by omega) rfl (by omega)
