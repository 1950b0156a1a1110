/-! history -/
def rotG {α : Type} (q : Int → α) : Int → α := fun j => if 0 ≤ j ∧ j < 3 then q (j + 1) else if j = 3 then q 0 else q j
theorem rotG_l {α : Type} {q : Int → α} {j : Int} (a : 0 ≤ j) (b : j < 3) : rotG q j = q (j + 1) := if_pos ⟨a, b⟩
theorem rotG_3 {α : Type} {q : Int → α} : rotG q 3 = q 0 := rfl
def rotN (q : Int → Nat) (i : Int) : Int → Nat := fun j => if 0 ≤ j ∧ j < i - 1 then q (j + 1) else q j
theorem rotN_1 (q : Int → Nat) : rotN q 1 = q := by
  funext j
  unfold rotN
  rw [if_neg (by omega)]
theorem rotN_s {q : Int → Nat} {i : Int} (h : 1 ≤ i) : fupN (rotN q i) (i - 1) (rotN q i i) = rotN q (i + 1) := by
  funext j
  unfold fupN rotN
  by_cases e : j = i - 1
  · rw [if_pos e, if_neg (by omega), if_pos (by omega)]
    congr 1; omega
  · rw [if_neg e]
    by_cases z : 0 ≤ j ∧ j < i - 1
    · rw [if_pos z, if_pos (by omega)]
    · rw [if_neg z, if_neg (by omega)]
theorem rotN_4 {q : Int → Nat} : fupN (rotN q 4) 3 (q 0) = rotG q := by
  funext j
  unfold fupN rotN rotG
  by_cases e : j = 3
  · rw [if_pos e, if_neg (by omega), if_pos e]
  · rw [if_neg e]
    by_cases z : 0 ≤ j ∧ j < 3
    · rw [if_pos (by omega), if_pos z]
    · rw [if_neg (by omega), if_neg z, if_neg e]
def fupG {α : Type} (q : Int → α) (x : Int) (v : α) : Int → α := fun j => if j = x then v else q j
def addH (hv : Int → SV) (sz : Int) (v : SV) : Int → SV := if sz < 4 then fupG hv sz v else fupG (rotG hv) 3 v
def addZ (sz : Int) : Int := if sz < 4 then sz + 1 else 4
def PR (y : Nat) (ρ : Int → Nat) : Prop := (∀ i : Int, 0 ≤ i → i < 4 → ∃ k : Nat, k < 4 ∧ ρ i = y + 2 + 14 * k) ∧ ∀ i j : Int, 0 ≤ i → i < 4 → 0 ≤ j → j < 4 → ρ i = ρ j → i = j
theorem PR.rot {y : Nat} {ρ : Int → Nat} (h : PR y ρ) : PR y (rotG ρ) := by
  refine ⟨fun i a b => ?_, fun i j a b c d e => ?_⟩
  · unfold rotG
    by_cases q : i < 3
    · rw [if_pos ⟨a, q⟩]; exact h.1 _ (by omega) (by omega)
    · rw [if_neg (by omega), if_pos (by omega)]; exact h.1 _ (by omega) (by omega)
  · unfold rotG at e
    by_cases q : i < 3
    · rw [if_pos ⟨a, q⟩] at e
      by_cases q2 : j < 3
      · rw [if_pos ⟨c, q2⟩] at e
        have := h.2 _ _ (by omega) (by omega) (by omega) (by omega) e
        omega
      · rw [if_neg (by omega), if_pos (by omega)] at e
        have := h.2 _ _ (by omega) (by omega) (by omega) (by omega) e
        omega
    · rw [if_neg (by omega), if_pos (by omega)] at e
      by_cases q2 : j < 3
      · rw [if_pos ⟨c, q2⟩] at e
        have := h.2 _ _ (by omega) (by omega) (by omega) (by omega) e
        omega
      · omega
def hiAt (h : List PO) (y : Nat) (ρ : Int → Nat) (hv : Int → SV) (sz : Int) : Prop := h[y]? = some (oO 1 [r_ (y + 1), i_ sz]) ∧ h[y + 1]? = some (oR 4 ρ) ∧ PR y ρ ∧ ∀ i : Int, 0 ≤ i → i < 4 → stAt h (ρ i) (hv i)
theorem hiAt.fr {h h2 : List PO} {y lo hi : Nat} {ρ : Int → Nat} {hv : Int → SV} {sz : Int} (a : hiAt h y ρ hv sz) (f : Fr h h2 lo hi) (q : y + 58 ≤ lo ∨ hi ≤ y) : hiAt h2 y ρ hv sz := by
  obtain ⟨a0, a1, a2, a3⟩ := a
  refine ⟨f.at' a0 (by omega), f.at' a1 (by omega), a2, fun i i0 i1 => ?_⟩
  obtain ⟨k, hk, e⟩ := a2.1 i i0 i1
  exact (a3 i i0 i1).fr f (by omega)
theorem hiAt.size {h : List PO} {y : Nat} {ρ : Int → Nat} {hv : Int → SV} {sz : Int} (a : hiAt h y ρ hv sz) (s2 : Int) : hiAt (h.set y (oO 1 [r_ (y + 1), i_ s2])) y ρ hv s2 := by
  obtain ⟨a0, a1, a2, a3⟩ := a
  refine ⟨set_at a0, set_off a1 (by omega), a2, fun i i0 i1 => ?_⟩
  obtain ⟨k, hk, e⟩ := a2.1 i i0 i1
  exact (a3 i i0 i1).fr (Fr.set (lo := y) (hi := y + 1) (by omega) (by omega)) (by omega)
theorem hiAt.rows {h : List PO} {y : Nat} {ρ ρ2 : Int → Nat} {hv : Int → SV} {sz : Int} (a : hiAt h y ρ hv sz) : (∀ i : Int, 0 ≤ i → i < 4 → stAt (h.set (y + 1) (oR 4 ρ2)) (ρ i) (hv i)) := by
  obtain ⟨a0, a1, a2, a3⟩ := a
  intro i i0 i1
  obtain ⟨k, hk, e⟩ := a2.1 i i0 i1
  exact (a3 i i0 i1).fr (Fr.set (lo := y + 1) (hi := y + 2) (by omega) (by omega)) (by omega)
theorem hiAt.put {h h2 : List PO} {y : Nat} {ρ : Int → Nat} {hv : Int → SV} {sz s : Int} {v : SV} (a : hiAt h y ρ hv sz) (s0 : 0 ≤ s) (s1 : s < 4) (f : Fr h h2 (ρ s) (ρ s + 14)) (b : stAt h2 (ρ s) v) : hiAt h2 y ρ (fupG hv s v) sz := by
  obtain ⟨a0, a1, a2, a3⟩ := a
  obtain ⟨k, hk, e⟩ := a2.1 s s0 s1
  refine ⟨f.at' a0 (by omega), f.at' a1 (by omega), a2, fun i i0 i1 => ?_⟩
  unfold fupG
  by_cases q : i = s
  · rw [if_pos q, q]; exact b
  · rw [if_neg q]
    obtain ⟨k2, hk2, e2⟩ := a2.1 i i0 i1
    have hne : k2 ≠ k := fun z => q (a2.2 i s i0 i1 s0 s1 (by rw [e, e2, z]))
    exact (a3 i i0 i1).fr f (by omega)
set_option maxRecDepth 100000 in
set_option maxHeartbeats 4000000 in
theorem c_X1_dropOldest (h : List PO) (y : Nat) (ρ : Int → Nat) (hv : Int → SV) (sz : Int) (hH : hiAt h y ρ hv sz) (hsz : 1 ≤ sz ∧ sz ≤ 4) : PM 0 yX1_dropOldest cX1_dropOldest 3 none h [r_ y] (fun r0 h2 => r0 = none ∧ Fr h h2 y (y + 58) ∧ hiAt h2 y (rotG ρ) (rotG hv) (sz - 1)) := by
  refine PM_of_G RX1 [some (r_ y), none, none] rfl (by decide +kernel) (Nat.le_of_ble_eq_true rfl) rfl ?_
  have hA0 := hH.2.1
  have hY0 := hH.1
  have L : ∀ (fu : Nat) (i : Int), 1 ≤ i → i ≤ 4 → 4 - i < fu → G 0 cX1_dropOldest RX1 3 none (h.set (y + 1) (oR 4 (rotN ρ i))) 9 [some (r_ y), some (r_ (ρ 0)), some (i_ i)] [] (fun r0 h2 => r0 = none ∧ Fr h h2 y (y + 58) ∧ hiAt h2 y (rotG ρ) (rotG hv) (sz - 1)) := by
    intro fu
    induction fu with
    | zero => intro i a1 a2 hmeas; exfalso; omega
    | succ fu ih =>
      intro i a1 a2 hmeas
      have hA := set_at (o := oR 4 (rotN ρ i)) hH.2.1
      have hY := set_off (o := oR 4 (rotN ρ i)) hH.1 (show y + 1 ≠ y by omega)
      refine G_iload_n dX1_dropOldest_9 rfl rfl ?_
      refine G_iconst dX1_dropOldest_10 ?_
      refine G_icmp_ge (tgt := 34) dX1_dropOldest_11 (by decide) (inR_of (by omega) (by omega)) (inR_of (by omega) (by omega)) (fun hc11 => ?_) (fun hc11 => ?_)
      · skip
        have e : i = 4 := by omega
        subst e
        have hob := (hH.rows (ρ2 := rotN ρ 4) 0 (by omega) (by omega)).1
        refine G_aload_n dX1_dropOldest_34 rfl rfl ?_
        refine G_getf fl_X1_11 dX1_dropOldest_35 (by assumption) rfl ?_
        refine G_iconst dX1_dropOldest_38 ?_
        refine G_aload_n dX1_dropOldest_39 rfl rfl ?_
        refine G_aast dX1_dropOldest_40 (by assumption) (by assumption) (by omega) (by omega) (by decide) rfl ?_
        rw [List.set_set, rotN_4]
        have hA2 := set_at (o := oR 4 (rotG ρ)) hH.2.1
        have hY2 := set_off (o := oR 4 (rotG ρ)) hH.1 (show y + 1 ≠ y by omega)
        refine G_aload_n dX1_dropOldest_41 rfl rfl ?_
        refine G_dup dX1_dropOldest_42 ?_
        refine G_getf fl_X1_18 dX1_dropOldest_43 (by assumption) rfl ?_
        refine G_iconst dX1_dropOldest_46 ?_
        refine G_isub dX1_dropOldest_47 ?_
        refine G_putI (fs2 := [r_ (y + 1), i_ (sz - 1)]) fp_X1_18 dX1_dropOldest_48 (by assumption) (Nat.le_of_ble_eq_true rfl) rfl ?_
        refine G_return dX1_dropOldest_51 rfl ?_
        have hF1 : Fr h (h.set (y + 1) (oR 4 (rotG ρ))) y (y + 58) := Fr.set (by omega) (by omega)
        refine ⟨rfl, hF1.tr (Fr.set (by omega) (by omega)), ?_⟩
        have hI : hiAt (h.set (y + 1) (oR 4 (rotG ρ))) y (rotG ρ) (rotG hv) sz := ⟨hY2, hA2, hH.2.2.1.rot, fun i i0 i1 => by
          have hR := hH.rows (ρ2 := rotG ρ)
          by_cases q : i < 3
          · rw [rotG_l i0 q, rotG_l i0 q]; exact hR _ (by omega) (by omega)
          · have e3 : i = 3 := by omega
            rw [e3, rotG_3, rotG_3]; exact hR _ (by omega) (by omega)⟩
        exact hI.size (sz - 1)
      · skip
        have a3 : i < 4 := by omega
        refine G_aload_n dX1_dropOldest_14 rfl rfl ?_
        refine G_getf fl_X1_11 dX1_dropOldest_15 (by assumption) rfl ?_
        refine G_iload_n dX1_dropOldest_18 rfl rfl ?_
        refine G_iconst dX1_dropOldest_19 ?_
        refine G_isub dX1_dropOldest_20 ?_
        refine G_aload_n dX1_dropOldest_21 rfl rfl ?_
        refine G_getf fl_X1_11 dX1_dropOldest_22 (by assumption) rfl ?_
        refine G_iload_n dX1_dropOldest_25 rfl rfl ?_
        refine G_aald dX1_dropOldest_26 (by assumption) (by omega) (by omega) (by decide) ?_
        have e3 : rotN ρ i i = ρ i := by unfold rotN; rw [if_neg (by omega)]
        have hob2 := (hH.rows (ρ2 := rotN ρ i) i (by omega) a3).1
        rw [← e3] at hob2
        refine G_aast dX1_dropOldest_27 (by assumption) (by assumption) (by omega) (by omega) (by decide) rfl ?_
        refine G_iinc dX1_dropOldest_28 (by decide) rfl rfl ?_
        refine G_goto (tgt := 9) dX1_dropOldest_31 (by decide) ?_
        rw [List.set_set, rotN_s a1]
        exact ih (i + 1) (by omega) (by omega) (by omega)
  refine G_aload_n dX1_dropOldest_0 rfl rfl ?_
  refine G_getf fl_X1_11 dX1_dropOldest_1 (by assumption) rfl ?_
  refine G_iconst dX1_dropOldest_4 ?_
  refine G_aald dX1_dropOldest_5 (by assumption) (by omega) (by omega) (by decide) ?_
  refine G_astore_n dX1_dropOldest_6 rfl (by decide) rfl ?_
  refine G_iconst dX1_dropOldest_7 ?_
  refine G_istore_n dX1_dropOldest_8 rfl (by decide) rfl ?_
  have k := L 4 1 (by omega) (by omega) (by omega)
  rw [rotN_1, set_same hA0] at k
  exact k
set_option maxRecDepth 100000 in
set_option maxHeartbeats 4000000 in
theorem c_X1_add (h : List PO) (y : Nat) (ρ : Int → Nat) (hv : Int → SV) (sz : Int) (a : Nat) (v : SV) (hH : hiAt h y ρ hv sz) (hsz : 0 ≤ sz ∧ sz ≤ 4) (hO : stAt h a v) (hay : a + 14 ≤ y ∨ y + 58 ≤ a) : PM 4 yX1_add cX1_add 3 none h [r_ y, r_ a] (fun r0 h2 => r0 = none ∧ Fr h h2 y (y + 58) ∧ ∃ ρ2, hiAt h2 y ρ2 (addH hv sz v) (addZ sz)) := by
  refine PM_of_G RX1 [some (r_ y), some (r_ a), none] rfl (by decide +kernel) (Nat.le_of_ble_eq_true rfl) rfl ?_
  have hY0 := hH.1
  have K : ∀ (hh : List PO) (ρ2 : Int → Nat) (hv2 : Int → SV) (s : Int), 0 ≤ s → s < 4 → hiAt hh y ρ2 hv2 s → Fr h hh y (y + 58) → addH hv sz v = fupG hv2 s v → addZ sz = s + 1 → G 4 cX1_add RX1 3 none hh 12 [some (r_ y), some (r_ a), none] [] (fun r0 h2 => r0 = none ∧ Fr h h2 y (y + 58) ∧ ∃ ρ2, hiAt h2 y ρ2 (addH hv sz v) (addZ sz)) := by
    intro hh ρ2 hv2 s s0 s1 hI hF hq hs
    have hI0 := hI.1
    have hI1 := hI.2.1
    refine G_aload_n dX1_add_12 rfl rfl ?_
    refine G_getf fl_X1_18 dX1_add_13 (by assumption) rfl ?_
    refine G_if_lt (tgt := 27) dX1_add_16 (by decide) (inR_of (by omega) (by omega)) (fun hc16 => ?_) (fun hc16 => ?_)
    · skip
      exfalso; omega
    · skip
      refine G_aload_n dX1_add_19 rfl rfl ?_
      refine G_getf fl_X1_18 dX1_add_20 (by assumption) rfl ?_
      refine G_iconst dX1_add_23 ?_
      refine G_icmp_lt (tgt := 28) dX1_add_24 (by decide) (inR_of (by omega) (by omega)) (inR_of (by omega) (by omega)) (fun hc24 => ?_) (fun hc24 => ?_)
      · skip
        refine G_aload_n dX1_add_28 rfl rfl ?_
        refine G_getf fl_X1_11 dX1_add_29 (by assumption) rfl ?_
        refine G_aload_n dX1_add_32 rfl rfl ?_
        refine G_getf fl_X1_18 dX1_add_33 (by assumption) rfl ?_
        refine G_aald dX1_add_36 (by assumption) (by omega) (by omega) (by decide) ?_
        obtain ⟨k, hk, ek⟩ := hI.2.2.1.1 s s0 s1
        have hobj := (hI.2.2.2 s s0 s1).1
        refine G_astore_n dX1_add_37 rfl (by decide) rfl ?_
        refine G_aload_n dX1_add_38 rfl rfl ?_
        refine G_ifnull dX1_add_39 ?_
        refine G_aload_n dX1_add_42 rfl rfl ?_
        refine G_aload_n dX1_add_43 rfl rfl ?_
        refine G_callV (ci := 3) (as := [_]) (c_X3_copyFrom hh (ρ2 s) a v (hv2 s) (hI.2.2.2 s s0 s1) (hO.fr hF (by omega)) (by omega)) dX1_add_44 ml_X1_25 cv_X3_copyFrom (by assumption) rfl rfl (Nat.le_of_ble_eq_true rfl) (Nat.le_of_ble_eq_true rfl) rfl (fun r h2 hp => ?_)
        obtain ⟨rfl, hF2, hb⟩ := hp
        have hI2 := hI.put s0 s1 hF2 hb
        have hI0 := hI2.1
        have hF3 := hF.tr (hF2.wide (show y ≤ ρ2 s by omega) (show ρ2 s + 14 ≤ y + 58 by omega))
        refine G_aload_n dX1_add_47 rfl rfl ?_
        refine G_dup dX1_add_48 ?_
        refine G_getf fl_X1_18 dX1_add_49 (by assumption) rfl ?_
        refine G_iconst dX1_add_52 ?_
        refine G_iadd dX1_add_53 ?_
        refine G_putI (fs2 := [r_ (y + 1), i_ (s + 1)]) fp_X1_18 dX1_add_54 (by assumption) (Nat.le_of_ble_eq_true rfl) rfl ?_
        refine G_return dX1_add_57 rfl ?_
        refine ⟨rfl, hF3.tr (Fr.set (by omega) (by omega)), ρ2, ?_⟩
        rw [hq, hs]
        exact hI2.size (s + 1)
      · skip
        exfalso; omega
  refine G_aload_n dX1_add_0 rfl rfl ?_
  refine G_getf fl_X1_18 dX1_add_1 (by assumption) rfl ?_
  refine G_iconst dX1_add_4 ?_
  refine G_icmp_lt (tgt := 12) dX1_add_5 (by decide) (inR_of (by omega) (by omega)) (inR_of (by omega) (by omega)) (fun hc5 => ?_) (fun hc5 => ?_)
  · skip
    exact K _ _ _ _ (by omega) (by omega) hH Fr.rf (by unfold addH; rw [if_pos (by omega)]) (by unfold addZ; rw [if_pos (by omega)])
  · skip
    refine G_aload_n dX1_add_8 rfl rfl ?_
    refine G_callV (ci := 1) (as := []) (c_X1_dropOldest h y ρ hv sz hH (by omega)) dX1_add_9 ml_X1_22 cv_X1_dropOldest (by assumption) rfl rfl (Nat.le_of_ble_eq_true rfl) (Nat.le_of_ble_eq_true rfl) rfl (fun r h2 hp => ?_)
    obtain ⟨rfl, hF, hI⟩ := hp
    exact K _ _ _ _ (by omega) (by omega) hI hF (by unfold addH; rw [if_neg (by omega)]; congr 1; omega) (by unfold addZ; rw [if_neg (by omega)]; omega)
set_option maxRecDepth 100000 in
set_option maxHeartbeats 4000000 in
theorem c_X1_takeLatest (h : List PO) (y : Nat) (ρ : Int → Nat) (hv : Int → SV) (sz : Int) (a : Nat) (u : SV) (hH : hiAt h y ρ hv sz) (hsz : 0 ≤ sz ∧ sz ≤ 4) (hO : stAt h a u) (hay : a + 14 ≤ y ∨ y + 58 ≤ a) : PM 4 yX1_takeLatest cX1_takeLatest 4 (some .boolean) h [r_ y, r_ a] (fun r0 h2 => (r0 = some (i_ 0) ∧ sz = 0 ∧ h = h2) ∨ (r0 = some (i_ 1) ∧ 0 < sz ∧ ∃ h1, Fr h h1 a (a + 14) ∧ Fr h1 h2 y (y + 1) ∧ stAt h2 a (hv (sz - 1)) ∧ hiAt h2 y ρ hv (sz - 1))) := by
  refine PM_of_G RX1 [some (r_ y), some (r_ a), none, none] rfl (by decide +kernel) (Nat.le_of_ble_eq_true rfl) rfl ?_
  have hY0 := hH.1
  have hY1 := hH.2.1
  refine G_aload_n dX1_takeLatest_0 rfl rfl ?_
  refine G_getf fl_X1_18 dX1_takeLatest_1 (by assumption) rfl ?_
  refine G_iconst dX1_takeLatest_4 ?_
  refine G_isub dX1_takeLatest_5 ?_
  refine G_istore_n dX1_takeLatest_6 rfl (by decide) rfl ?_
  refine G_iload_n dX1_takeLatest_7 rfl rfl ?_
  refine G_if_lt (tgt := 16) dX1_takeLatest_8 (by decide) (inR_of (by omega) (by omega)) (fun hc8 => ?_) (fun hc8 => ?_)
  · skip
    refine G_iconst dX1_takeLatest_16 ?_
    refine G_zreturn dX1_takeLatest_17 rfl (by omega) ?_
    first
      | exact Or.inl ⟨rfl, by omega, rfl⟩
      | (exfalso; omega)
  · skip
    refine G_iload_n dX1_takeLatest_11 rfl rfl ?_
    refine G_iconst dX1_takeLatest_12 ?_
    refine G_icmp_lt (tgt := 18) dX1_takeLatest_13 (by decide) (inR_of (by omega) (by omega)) (inR_of (by omega) (by omega)) (fun hc13 => ?_) (fun hc13 => ?_)
    · skip
      refine G_aload_n dX1_takeLatest_18 rfl rfl ?_
      refine G_getf fl_X1_11 dX1_takeLatest_19 (by assumption) rfl ?_
      refine G_iload_n dX1_takeLatest_22 rfl rfl ?_
      refine G_aald dX1_takeLatest_23 (by assumption) (by omega) (by omega) (by decide) ?_
      obtain ⟨k, hk, ek⟩ := hH.2.2.1.1 (sz - 1) (by omega) (by omega)
      have hobj := (hH.2.2.2 (sz - 1) (by omega) (by omega)).1
      have hO0 := hO.1
      refine G_astore_n dX1_takeLatest_24 rfl (by decide) rfl ?_
      refine G_aload_n dX1_takeLatest_25 rfl rfl ?_
      refine G_ifnonnull (tgt := 31) dX1_takeLatest_26 (by decide) ?_
      refine G_aload_n dX1_takeLatest_31 rfl rfl ?_
      refine G_aload_n dX1_takeLatest_32 rfl rfl ?_
      refine G_callV (ci := 3) (as := [_]) (c_X3_copyFrom h a (ρ (sz - 1)) (hv (sz - 1)) u hO (hH.2.2.2 (sz - 1) (by omega) (by omega)) (by omega)) dX1_takeLatest_33 ml_X1_25 cv_X3_copyFrom (by assumption) rfl rfl (Nat.le_of_ble_eq_true rfl) (Nat.le_of_ble_eq_true rfl) rfl (fun r h2 hp => ?_)
      obtain ⟨rfl, hF, hb⟩ := hp
      have hI := hH.fr hF (by omega)
      have hI0 := hI.1
      refine G_aload_n dX1_takeLatest_36 rfl rfl ?_
      refine G_iload_n dX1_takeLatest_37 rfl rfl ?_
      refine G_putI (fs2 := [r_ (y + 1), i_ (sz - 1)]) fp_X1_18 dX1_takeLatest_38 (by assumption) (Nat.le_of_ble_eq_true rfl) rfl ?_
      refine G_iconst dX1_takeLatest_41 ?_
      refine G_zreturn dX1_takeLatest_42 rfl (by omega) ?_
      refine Or.inr ⟨rfl, by omega, _, hF, Fr.set (by omega) (by omega), hb.fr (Fr.set (lo := y) (hi := y + 1) (by omega) (by omega)) (by omega), hI.size _⟩
    · skip
      refine G_iconst dX1_takeLatest_16 ?_
      refine G_zreturn dX1_takeLatest_17 rfl (by omega) ?_
      first
        | exact Or.inl ⟨rfl, by omega, rfl⟩
        | (exfalso; omega)
