/-! wells -/
def conN (c r z : Int → Int) (w : Int) : Nat → Int
  | 0 => r w
  | n + 1 => conN c r z w n - (if (c n - c w = 1 ∨ c n - c w = -1) ∧ z n = 0 then r n else 0)
def conI (c r z : Int → Int) (n w : Int) : Int := if ¬ (0 ≤ w ∧ w < n) ∨ z w = 1 then 0 else max (conN c r z w n.toNat) 0
theorem conN_s {c r z : Int → Int} {w i : Int} (h : 0 ≤ i) : conN c r z w (i + 1).toNat = conN c r z w i.toNat - (if (c i - c w = 1 ∨ c i - c w = -1) ∧ z i = 0 then r i else 0) := by
  have e : (i + 1).toNat = i.toNat + 1 := by omega
  have e2 : ((i.toNat : Nat) : Int) = i := by omega
  rw [e]
  show _ - (if (c ((i.toNat : Nat) : Int) - c w = 1 ∨ c ((i.toNat : Nat) : Int) - c w = -1) ∧ z ((i.toNat : Nat) : Int) = 0 then r ((i.toNat : Nat) : Int) else 0) = _
  rw [e2]
theorem conN_rng {c r z : Int → Int} {n w : Int} (hr : RG 1 30 n r) (h0 : 0 ≤ w) (h1 : w < n) : ∀ k : Nat, (k : Int) ≤ n → -30 * (k : Int) ≤ conN c r z w k ∧ conN c r z w k ≤ 30 := by
  intro k
  induction k with
  | zero =>
    intro _
    have := hr w h0 h1
    show -30 * ((0 : Nat) : Int) ≤ r w ∧ r w ≤ 30
    omega
  | succ k ih =>
    intro hk
    have a := ih (by omega)
    have b := hr k (by omega) (by omega)
    show -30 * ((k + 1 : Nat) : Int) ≤ conN c r z w k - (if (c k - c w = 1 ∨ c k - c w = -1) ∧ z k = 0 then r k else 0) ∧ conN c r z w k - (if (c k - c w = 1 ∨ c k - c w = -1) ∧ z k = 0 then r k else 0) ≤ 30
    by_cases q : (c k - c w = 1 ∨ c k - c w = -1) ∧ z k = 0
    · rw [if_pos q]; omega
    · rw [if_neg q]; omega
theorem conI_rng {c r z : Int → Int} {n w : Int} (hr : RG 1 30 n r) : 0 ≤ conI c r z n w ∧ conI c r z n w ≤ 30 := by
  unfold conI
  by_cases q : ¬ (0 ≤ w ∧ w < n) ∨ z w = 1
  · rw [if_pos q]; omega
  · rw [if_neg q]
    have a := conN_rng (c := c) (z := z) hr (w := w) (by omega) (by omega) n.toNat (by omega)
    omega
def sbI (s g : Int) : Int := if 0 < g then s + g else max (s - 2) 0
def gapN (q : Int → Int) (g i : Int) : Int → Int := fun j => if g ≤ j ∧ j < i then q (j + 1) else q j
def gapF (q : Int → Int) (g : Int) : Int → Int := gapN q g 5
theorem gapN_0 (q : Int → Int) (g : Int) : gapN q g g = q := by
  funext j
  unfold gapN
  rw [if_neg (by omega)]
theorem gapN_s {q : Int → Int} {g i : Int} (h : g ≤ i) : fup (gapN q g i) i (gapN q g i (i + 1)) = gapN q g (i + 1) := by
  funext j
  unfold fup gapN
  by_cases e : j = i
  · rw [if_pos e, if_neg (by omega), if_pos (by omega), e]
  · rw [if_neg e]
    by_cases z : g ≤ j ∧ j < i
    · rw [if_pos z, if_pos (by omega)]
    · rw [if_neg z, if_neg (by omega)]
def exF (dep sil hei c r z : Int → Int) (n w : Int) : Int := hei (c w) + conI c r z n w - (dep (c w) - sil (c w))
def salF (dep sil hei c r z : Int → Int) (n : Int) (s : Int → Int) : Int → Int := fun w => if 0 ≤ w ∧ w < n then sbI (s w) (if z w = 0 then exF dep sil hei c r z n w else 0) else s w
def draF (r z : Int → Int) (n : Int) (d : Int → Int) : Int → Int := fun w => if (0 ≤ w ∧ w < n) ∧ z w = 0 then d w + r w else d w
def resF (s : Int → Int) (n : Int) (z : Int → Int) : Int → Int := fun w => if 0 ≤ w ∧ w < n then (if z w = 0 ∧ 50 ≤ s w then 1 else if s w = 0 then 0 else z w) else z w
def turF (s z : Int → Int) (n : Int) (t : Int → Int) : Int → Int := fun w => if (0 ≤ w ∧ w < n) ∧ z w = 0 ∧ 50 ≤ s w then t w + 1 else t w
theorem besN_s {q : Int → Int} {c i : Int} (h : 0 ≤ i) : besN q c (i + 1).toNat = if q i = c then i else besN q c i.toNat := by
  have e : (i + 1).toNat = i.toNat + 1 := by omega
  have e2 : ((i.toNat : Nat) : Int) = i := by omega
  rw [e]
  show (if q ((i.toNat : Nat) : Int) = c then ((i.toNat : Nat) : Int) else _) = _
  rw [e2]
theorem besN_none {q : Int → Int} {c : Int} : ∀ n : Nat, (∀ j : Int, 0 ≤ j → j < n → q j ≠ c) → besN q c n = -5 := by
  intro n
  induction n with
  | zero => intro _; rfl
  | succ n ih =>
    intro h
    show (if q n = c then (n : Int) else besN q c n) = -5
    rw [if_neg (h n (by omega) (by omega))]
    exact ih (fun j a b => h j a (by omega))
theorem besN_hit {q : Int → Int} {c w : Int} (h0 : 0 ≤ w) (hq : q w = c) : ∀ n : Nat, w < n → (∀ j : Int, 0 ≤ j → j < n → q j = c → j = w) → besN q c n = w := by
  intro n
  induction n with
  | zero => intro h; omega
  | succ n ih =>
    intro h1 h2
    show (if q n = c then (n : Int) else besN q c n) = w
    by_cases e : q n = c
    · rw [if_pos e]; exact h2 n (by omega) (by omega) e
    · rw [if_neg e]
      have hne : w ≠ n := fun z => e (by rw [← z]; exact hq)
      exact ih (by omega) (fun j a b => h2 j a (by omega))
theorem besN_rng {q : Int → Int} {c : Int} : ∀ n : Nat, -5 ≤ besN q c n ∧ besN q c n < n := by
  intro n
  induction n with
  | zero => exact ⟨by show (-5 : Int) ≤ -5; omega, by show (-5 : Int) < 0; omega⟩
  | succ n ih =>
    show -5 ≤ (if q n = c then (n : Int) else besN q c n) ∧ (if q n = c then (n : Int) else besN q c n) < ((n + 1 : Nat) : Int)
    by_cases e : q n = c
    · rw [if_pos e]; omega
    · rw [if_neg e]; omega
set_option maxRecDepth 100000 in
set_option maxHeartbeats 4000000 in
theorem c_X4_has (h : List PO) (b : Nat) (c r s z d t : Int → Int) (n : Int) (w : Int) (hW : welF h b c r s z d t n) (hn : 0 ≤ n ∧ n ≤ 6) (hw : inR w) : PM 0 yX4_has cX4_has 2 (some .boolean) h [r_ b, i_ w] (fun r0 h2 => ∃ y : Int, r0 = some (i_ y) ∧ h = h2 ∧ (y = 1 ∧ 0 ≤ w ∧ w < n ∨ y = 0 ∧ (w < 0 ∨ n ≤ w))) := by
  refine PM_of_G RX4 [some (r_ b), some (i_ w)] rfl (by decide +kernel) (Nat.le_of_ble_eq_true rfl) rfl ?_
  obtain ⟨hW0, hW1, hW2, hW3, hW4, hW5, hW6⟩ := id hW
  have hw1 := hw.1
  have hw2 := hw.2
  refine G_iload_n dX4_has_0 rfl rfl ?_
  refine G_if_lt (tgt := 22) dX4_has_1 (by decide) (inR_of (by omega) (by omega)) (fun hc1 => ?_) (fun hc1 => ?_)
  · skip
    refine G_iconst dX4_has_22 ?_
    refine G_zreturn dX4_has_23 rfl (by first | exact Or.inl rfl | exact Or.inr rfl) ?_
    exact ⟨_, rfl, rfl, by omega⟩
  · skip
    refine G_iload_n dX4_has_4 rfl rfl ?_
    refine G_aload_n dX4_has_5 rfl rfl ?_
    refine G_getf fl_X4_36 dX4_has_6 (by assumption) rfl ?_
    refine G_icmp_ge (tgt := 22) dX4_has_9 (by decide) (inR_of (by omega) (by omega)) (inR_of (by omega) (by omega)) (fun hc9 => ?_) (fun hc9 => ?_)
    · skip
      refine G_iconst dX4_has_22 ?_
      refine G_zreturn dX4_has_23 rfl (by first | exact Or.inl rfl | exact Or.inr rfl) ?_
      exact ⟨_, rfl, rfl, by omega⟩
    · skip
      refine G_iload_n dX4_has_12 rfl rfl ?_
      refine G_bipush dX4_has_13 rfl ?_
      refine G_icmp_ge (tgt := 22) dX4_has_15 (by decide) (inR_of (by omega) (by omega)) (inR_of (by omega) (by omega)) (fun hc15 => ?_) (fun hc15 => ?_)
      · skip
        refine G_iconst dX4_has_22 ?_
        refine G_zreturn dX4_has_23 rfl (by first | exact Or.inl rfl | exact Or.inr rfl) ?_
        exact ⟨_, rfl, rfl, by omega⟩
      · skip
        refine G_iconst dX4_has_18 ?_
        refine G_goto (tgt := 23) dX4_has_19 (by decide) ?_
        refine G_zreturn dX4_has_23 rfl (by first | exact Or.inl rfl | exact Or.inr rfl) ?_
        exact ⟨_, rfl, rfl, by omega⟩
set_option maxRecDepth 100000 in
set_option maxHeartbeats 4000000 in
theorem c_X4_isResting (h : List PO) (b : Nat) (c r s z d t : Int → Int) (n : Int) (w : Int) (hW : welF h b c r s z d t n) (hn : 0 ≤ n ∧ n ≤ 6) (hz : RG 0 1 n z) (hw : inR w) : PM 1 yX4_isResting cX4_isResting 2 (some .boolean) h [r_ b, i_ w] (fun r0 h2 => ∃ y : Int, r0 = some (i_ y) ∧ h = h2 ∧ (y = 1 ∧ (0 ≤ w ∧ w < n ∧ z w = 1) ∨ y = 0 ∧ (w < 0 ∨ n ≤ w ∨ z w = 0))) := by
  refine PM_of_G RX4 [some (r_ b), some (i_ w)] rfl (by decide +kernel) (Nat.le_of_ble_eq_true rfl) rfl ?_
  obtain ⟨hW0, hW1, hW2, hW3, hW4, hW5, hW6⟩ := id hW
  have hw1 := hw.1
  have hw2 := hw.2
  refine G_aload_n dX4_isResting_0 rfl rfl ?_
  refine G_iload_n dX4_isResting_1 rfl rfl ?_
  refine G_callV (ci := 4) (as := [_]) (c_X4_has h b c r s z d t n w hW hn (inR_of (by omega) (by omega))) dX4_isResting_2 ml_X4_40 cv_X4_has (by assumption) rfl rfl (Nat.le_of_ble_eq_true rfl) (Nat.le_of_ble_eq_true rfl) rfl (fun r h2 hp => ?_)
  obtain ⟨y, rfl, rfl, hy⟩ := hp
  refine G_if_eq (tgt := 22) dX4_isResting_5 (by decide) (inR_of (by omega) (by omega)) (fun hc5 => ?_) (fun hc5 => ?_)
  · skip
    refine G_iconst dX4_isResting_22 ?_
    refine G_zreturn dX4_isResting_23 rfl (by first | exact Or.inl rfl | exact Or.inr rfl) ?_
    exact ⟨_, rfl, rfl, by omega⟩
  · skip
    refine G_aload_n dX4_isResting_8 rfl rfl ?_
    refine G_getf fl_X4_21 dX4_isResting_9 (by assumption) rfl ?_
    refine G_iload_n dX4_isResting_12 rfl rfl ?_
    refine G_iald dX4_isResting_13 (by assumption) (by omega) (by omega) (by decide) ?_
    have hzw := hz w (by omega) (by omega)
    refine G_iconst dX4_isResting_14 ?_
    refine G_icmp_ne (tgt := 22) dX4_isResting_15 (by decide) (inR_of (by omega) (by omega)) (inR_of (by omega) (by omega)) (fun hc15 => ?_) (fun hc15 => ?_)
    · skip
      refine G_iconst dX4_isResting_22 ?_
      refine G_zreturn dX4_isResting_23 rfl (by first | exact Or.inl rfl | exact Or.inr rfl) ?_
      exact ⟨_, rfl, rfl, by omega⟩
    · skip
      refine G_iconst dX4_isResting_18 ?_
      refine G_goto (tgt := 23) dX4_isResting_19 (by decide) ?_
      refine G_zreturn dX4_isResting_23 rfl (by first | exact Or.inl rfl | exact Or.inr rfl) ?_
      exact ⟨_, rfl, rfl, by omega⟩
set_option maxRecDepth 100000 in
set_option maxHeartbeats 4000000 in
theorem c_X4_beside (h : List PO) (b : Nat) (c r s z d t : Int → Int) (n : Int) (k : Int) (hW : welF h b c r s z d t n) (hn : 0 ≤ n ∧ n ≤ 6) (hc : RG 0 39 n c) (hdi : ∀ w u : Int, 0 ≤ w → w < n → 0 ≤ u → u < n → c w = c u → w = u) (hk : inR k) : PM 1 yX4_beside cX4_beside 3 (some .int) h [r_ b, i_ k] (fun r0 h2 => r0 = some (i_ (besN c k n.toNat)) ∧ h = h2) := by
  refine PM_of_G RX4 [some (r_ b), some (i_ k), none] rfl (by decide +kernel) (Nat.le_of_ble_eq_true rfl) rfl ?_
  obtain ⟨hW0, hW1, hW2, hW3, hW4, hW5, hW6⟩ := id hW
  have hk1 := hk.1
  have hk2 := hk.2
  have L : ∀ (fu : Nat) (i : Int), 0 ≤ i → i ≤ n → (∀ j : Int, 0 ≤ j → j < i → c j ≠ k) → n - i < fu → G 1 cX4_beside RX4 3 (some .int) h 2 [some (r_ b), some (i_ k), some (i_ i)] [] (fun r0 h2 => r0 = some (i_ (besN c k n.toNat)) ∧ h = h2) := by
    intro fu
    induction fu with
    | zero => intro i a1 a2 hne hmeas; exfalso; omega
    | succ fu ih =>
      intro i a1 a2 hne hmeas
      refine G_iload_n dX4_beside_2 rfl rfl ?_
      refine G_aload_n dX4_beside_3 rfl rfl ?_
      refine G_getf fl_X4_36 dX4_beside_4 (by assumption) rfl ?_
      refine G_icmp_ge (tgt := 34) dX4_beside_7 (by decide) (inR_of (by omega) (by omega)) (inR_of (by omega) (by omega)) (fun hc7 => ?_) (fun hc7 => ?_)
      · skip
        have e : i = n := by omega
        refine G_bipush dX4_beside_34 rfl ?_
        refine G_ireturn dX4_beside_36 rfl ?_
        exact ⟨by rw [besN_none n.toNat (fun j j0 j1 => hne j j0 (by omega))], rfl⟩
      · skip
        refine G_iload_n dX4_beside_10 rfl rfl ?_
        refine G_bipush dX4_beside_11 rfl ?_
        refine G_icmp_ge (tgt := 34) dX4_beside_13 (by decide) (inR_of (by omega) (by omega)) (inR_of (by omega) (by omega)) (fun hc13 => ?_) (fun hc13 => ?_)
        · skip
          exfalso; omega
        · skip
          refine G_aload_n dX4_beside_16 rfl rfl ?_
          refine G_getf fl_X4_9 dX4_beside_17 (by assumption) rfl ?_
          refine G_iload_n dX4_beside_20 rfl rfl ?_
          refine G_iald dX4_beside_21 (by assumption) (by omega) (by omega) (by decide) ?_
          have hci := hc i (by omega) (by omega)
          refine G_iload_n dX4_beside_22 rfl rfl ?_
          refine G_icmp_ne (tgt := 28) dX4_beside_23 (by decide) (inR_of (by omega) (by omega)) (inR_of (by omega) (by omega)) (fun hc23 => ?_) (fun hc23 => ?_)
          · skip
            refine G_iinc dX4_beside_28 (by decide) rfl rfl ?_
            refine G_goto (tgt := 2) dX4_beside_31 (by decide) ?_
            refine ih (i + 1) (by omega) (by omega) (fun j j0 j1 => ?_) (by omega)
            by_cases e : j = i
            · rw [e]; omega
            · exact hne j j0 (by omega)
          · skip
            refine G_iload_n dX4_beside_26 rfl rfl ?_
            refine G_ireturn dX4_beside_27 rfl ?_
            exact ⟨by rw [besN_hit a1 (by omega) n.toNat (by omega) (fun j j0 j1 e => hdi j i j0 (by omega) (by omega) (by omega) (by omega))], rfl⟩
  refine G_iconst dX4_beside_0 ?_
  refine G_istore_n dX4_beside_1 rfl (by decide) rfl ?_
  exact L (n.toNat + 1) 0 (by omega) (by omega) (fun j j0 j1 => by omega) (by omega)
set_option maxRecDepth 100000 in
set_option maxHeartbeats 4000000 in
theorem c_X4_coneOf (h : List PO) (b : Nat) (c r s z d t : Int → Int) (n : Int) (w : Int) (hW : welF h b c r s z d t n) (hn : 0 ≤ n ∧ n ≤ 6) (hc : RG 0 39 n c) (hr : RG 1 30 n r) (hz : RG 0 1 n z) (hw : inR w) : PM 1 yX4_coneOf cX4_coneOf 5 (some .int) h [r_ b, i_ w] (fun r0 h2 => r0 = some (i_ (conI c r z n w)) ∧ h = h2) := by
  refine PM_of_G RX4 [some (r_ b), some (i_ w), none, none, none] rfl (by decide +kernel) (Nat.le_of_ble_eq_true rfl) rfl ?_
  obtain ⟨hW0, hW1, hW2, hW3, hW4, hW5, hW6⟩ := id hW
  have hw1 := hw.1
  have hw2 := hw.2
  refine G_aload_n dX4_coneOf_0 rfl rfl ?_
  refine G_iload_n dX4_coneOf_1 rfl rfl ?_
  refine G_callV (ci := 4) (as := [_]) (c_X4_has h b c r s z d t n w hW hn (inR_of (by omega) (by omega))) dX4_coneOf_2 ml_X4_40 cv_X4_has (by assumption) rfl rfl (Nat.le_of_ble_eq_true rfl) (Nat.le_of_ble_eq_true rfl) rfl (fun r h2 hp => ?_)
  obtain ⟨y, rfl, rfl, hy⟩ := hp
  refine G_if_eq (tgt := 18) dX4_coneOf_5 (by decide) (inR_of (by omega) (by omega)) (fun hc5 => ?_) (fun hc5 => ?_)
  · skip
    refine G_iconst dX4_coneOf_18 ?_
    refine G_ireturn dX4_coneOf_19 rfl ?_
    exact ⟨by unfold conI; rw [if_pos (by omega)], rfl⟩
  · skip
    refine G_aload_n dX4_coneOf_8 rfl rfl ?_
    refine G_getf fl_X4_21 dX4_coneOf_9 (by assumption) rfl ?_
    refine G_iload_n dX4_coneOf_12 rfl rfl ?_
    refine G_iald dX4_coneOf_13 (by assumption) (by omega) (by omega) (by decide) ?_
    have hzw := hz w (by omega) (by omega)
    refine G_iconst dX4_coneOf_14 ?_
    refine G_icmp_ne (tgt := 20) dX4_coneOf_15 (by decide) (inR_of (by omega) (by omega)) (inR_of (by omega) (by omega)) (fun hc15 => ?_) (fun hc15 => ?_)
    · skip
      have w0 : 0 ≤ w := by omega
      have w1 : w < n := by omega
      have hcw := hc w w0 w1
      have hrw := hr w w0 w1
      have L : ∀ (fu : Nat) (i : Int) (x : Int), 0 ≤ i → i ≤ n → x = conN c r z w i.toNat → n - i < fu → G 1 cX4_coneOf RX4 5 (some .int) h 29 [some (r_ b), some (i_ w), some (i_ x), some (i_ i), none] [] (fun r0 h2 => r0 = some (i_ (conI c r z n w)) ∧ h = h2) := by
        intro fu
        induction fu with
        | zero => intro i x a1 a2 hx hmeas; exfalso; omega
        | succ fu ih =>
          intro i x a1 a2 hx hmeas
          have hxr := conN_rng (c := c) (z := z) hr w0 w1 i.toNat (by omega)
          rw [← hx] at hxr
          refine G_iload_n dX4_coneOf_29 rfl rfl ?_
          refine G_aload_n dX4_coneOf_30 rfl rfl ?_
          refine G_getf fl_X4_36 dX4_coneOf_31 (by assumption) rfl ?_
          refine G_icmp_ge (tgt := 94) dX4_coneOf_34 (by decide) (inR_of (by omega) (by omega)) (inR_of (by omega) (by omega)) (fun hc34 => ?_) (fun hc34 => ?_)
          · skip
            have e : i = n := by omega
            subst e
            refine G_iload_n dX4_coneOf_94 rfl rfl ?_
            refine G_iconst dX4_coneOf_95 ?_
            refine G_max dX4_coneOf_96 mm_X4_58 (inR_of (by omega) (by omega)) (inR_of (by omega) (by omega)) (Nat.le_of_ble_eq_true rfl) (Nat.le_of_ble_eq_true rfl) ?_
            refine G_ireturn dX4_coneOf_99 rfl ?_
            exact ⟨by unfold conI; rw [if_neg (by omega), hx], rfl⟩
          · skip
            refine G_iload_n dX4_coneOf_37 rfl rfl ?_
            refine G_bipush dX4_coneOf_38 rfl ?_
            refine G_icmp_ge (tgt := 94) dX4_coneOf_40 (by decide) (inR_of (by omega) (by omega)) (inR_of (by omega) (by omega)) (fun hc40 => ?_) (fun hc40 => ?_)
            · skip
              exfalso; omega
            · skip
              refine G_aload_n dX4_coneOf_43 rfl rfl ?_
              refine G_getf fl_X4_9 dX4_coneOf_44 (by assumption) rfl ?_
              refine G_iload_n dX4_coneOf_47 rfl rfl ?_
              refine G_iald dX4_coneOf_48 (by assumption) (by omega) (by omega) (by decide) ?_
              have hcj := hc i (by omega) (by omega)
              have hzj := hz i (by omega) (by omega)
              have hrj := hr i (by omega) (by omega)
              refine G_aload_n dX4_coneOf_49 rfl rfl ?_
              refine G_getf fl_X4_9 dX4_coneOf_50 (by assumption) rfl ?_
              refine G_iload_n dX4_coneOf_53 rfl rfl ?_
              refine G_iald dX4_coneOf_54 (by assumption) (by omega) (by omega) (by decide) ?_
              refine G_isub dX4_coneOf_55 ?_
              refine G_istore dX4_coneOf_56 (by decide) rfl ?_
              refine G_iload dX4_coneOf_58 rfl ?_
              refine G_iconst dX4_coneOf_60 ?_
              refine G_icmp_eq (tgt := 70) dX4_coneOf_61 (by decide) (inR_of (by omega) (by omega)) (inR_of (by omega) (by omega)) (fun hc61 => ?_) (fun hc61 => ?_)
              · skip
                refine G_aload_n dX4_coneOf_70 rfl rfl ?_
                refine G_getf fl_X4_21 dX4_coneOf_71 (by assumption) rfl ?_
                refine G_iload_n dX4_coneOf_74 rfl rfl ?_
                refine G_iald dX4_coneOf_75 (by assumption) (by omega) (by omega) (by decide) ?_
                refine G_if_ne (tgt := 88) dX4_coneOf_76 (by decide) (inR_of (by omega) (by omega)) (fun hc76 => ?_) (fun hc76 => ?_)
                · skip
                  refine G_iinc dX4_coneOf_88 (by decide) rfl rfl ?_
                  refine G_goto (tgt := 29) dX4_coneOf_91 (by decide) ?_
                  refine G_forget 4 ?_
                  refine ih (i + 1) _ (by omega) (by omega) ?_ (by omega)
                  rw [conN_s a1, ← hx]
                  rw [if_neg (by omega), Int.sub_zero]
                · skip
                  refine G_iload_n dX4_coneOf_79 rfl rfl ?_
                  refine G_aload_n dX4_coneOf_80 rfl rfl ?_
                  refine G_getf fl_X4_15 dX4_coneOf_81 (by assumption) rfl ?_
                  refine G_iload_n dX4_coneOf_84 rfl rfl ?_
                  refine G_iald dX4_coneOf_85 (by assumption) (by omega) (by omega) (by decide) ?_
                  refine G_isub dX4_coneOf_86 ?_
                  refine G_istore_n dX4_coneOf_87 rfl (by decide) rfl ?_
                  refine G_iinc dX4_coneOf_88 (by decide) rfl rfl ?_
                  refine G_goto (tgt := 29) dX4_coneOf_91 (by decide) ?_
                  refine G_forget 4 ?_
                  refine ih (i + 1) _ (by omega) (by omega) ?_ (by omega)
                  rw [conN_s a1, ← hx]
                  rw [if_pos (by omega)]
              · skip
                refine G_iload dX4_coneOf_64 rfl ?_
                refine G_iconst dX4_coneOf_66 ?_
                refine G_icmp_ne (tgt := 88) dX4_coneOf_67 (by decide) (inR_of (by omega) (by omega)) (inR_of (by omega) (by omega)) (fun hc67 => ?_) (fun hc67 => ?_)
                · skip
                  refine G_iinc dX4_coneOf_88 (by decide) rfl rfl ?_
                  refine G_goto (tgt := 29) dX4_coneOf_91 (by decide) ?_
                  refine G_forget 4 ?_
                  refine ih (i + 1) _ (by omega) (by omega) ?_ (by omega)
                  rw [conN_s a1, ← hx]
                  rw [if_neg (by omega), Int.sub_zero]
                · skip
                  refine G_aload_n dX4_coneOf_70 rfl rfl ?_
                  refine G_getf fl_X4_21 dX4_coneOf_71 (by assumption) rfl ?_
                  refine G_iload_n dX4_coneOf_74 rfl rfl ?_
                  refine G_iald dX4_coneOf_75 (by assumption) (by omega) (by omega) (by decide) ?_
                  refine G_if_ne (tgt := 88) dX4_coneOf_76 (by decide) (inR_of (by omega) (by omega)) (fun hc76 => ?_) (fun hc76 => ?_)
                  · skip
                    refine G_iinc dX4_coneOf_88 (by decide) rfl rfl ?_
                    refine G_goto (tgt := 29) dX4_coneOf_91 (by decide) ?_
                    refine G_forget 4 ?_
                    refine ih (i + 1) _ (by omega) (by omega) ?_ (by omega)
                    rw [conN_s a1, ← hx]
                    rw [if_neg (by omega), Int.sub_zero]
                  · skip
                    refine G_iload_n dX4_coneOf_79 rfl rfl ?_
                    refine G_aload_n dX4_coneOf_80 rfl rfl ?_
                    refine G_getf fl_X4_15 dX4_coneOf_81 (by assumption) rfl ?_
                    refine G_iload_n dX4_coneOf_84 rfl rfl ?_
                    refine G_iald dX4_coneOf_85 (by assumption) (by omega) (by omega) (by decide) ?_
                    refine G_isub dX4_coneOf_86 ?_
                    refine G_istore_n dX4_coneOf_87 rfl (by decide) rfl ?_
                    refine G_iinc dX4_coneOf_88 (by decide) rfl rfl ?_
                    refine G_goto (tgt := 29) dX4_coneOf_91 (by decide) ?_
                    refine G_forget 4 ?_
                    refine ih (i + 1) _ (by omega) (by omega) ?_ (by omega)
                    rw [conN_s a1, ← hx]
                    rw [if_pos (by omega)]
      refine G_aload_n dX4_coneOf_20 rfl rfl ?_
      refine G_getf fl_X4_15 dX4_coneOf_21 (by assumption) rfl ?_
      refine G_iload_n dX4_coneOf_24 rfl rfl ?_
      refine G_iald dX4_coneOf_25 (by assumption) (by omega) (by omega) (by decide) ?_
      refine G_istore_n dX4_coneOf_26 rfl (by decide) rfl ?_
      refine G_iconst dX4_coneOf_27 ?_
      refine G_istore_n dX4_coneOf_28 rfl (by decide) rfl ?_
      exact L (n.toNat + 1) 0 _ (by omega) (by omega) rfl (by omega)
    · skip
      refine G_iconst dX4_coneOf_18 ?_
      refine G_ireturn dX4_coneOf_19 rfl ?_
      exact ⟨by unfold conI; rw [if_pos (by omega)], rfl⟩
set_option maxRecDepth 100000 in
set_option maxHeartbeats 4000000 in
theorem c_X4_saltBehind (h : List PO) (s g : Int) (hs : 0 ≤ s ∧ s ≤ 300) (hg : -1000 ≤ g ∧ g ≤ 1000) : PM 1 yX4_saltBehind cX4_saltBehind 2 (some .int) h [i_ s, i_ g] (fun r0 h2 => r0 = some (i_ (sbI s g)) ∧ h = h2) := by
  refine PM_of_G RX4 [some (i_ s), some (i_ g)] rfl (by decide +kernel) (Nat.le_of_ble_eq_true rfl) rfl ?_
  refine G_iload_n dX4_saltBehind_0 rfl rfl ?_
  refine G_if_le (tgt := 10) dX4_saltBehind_1 (by decide) (inR_of (by omega) (by omega)) (fun hc1 => ?_) (fun hc1 => ?_)
  · skip
    refine G_iload_n dX4_saltBehind_10 rfl rfl ?_
    refine G_iconst dX4_saltBehind_11 ?_
    refine G_isub dX4_saltBehind_12 ?_
    refine G_iconst dX4_saltBehind_13 ?_
    refine G_max dX4_saltBehind_14 mm_X4_58 (inR_of (by omega) (by omega)) (inR_of (by omega) (by omega)) (Nat.le_of_ble_eq_true rfl) (Nat.le_of_ble_eq_true rfl) ?_
    refine G_ireturn dX4_saltBehind_17 rfl ?_
    exact ⟨by unfold sbI; first | rw [if_pos (by omega)] | rw [if_neg (by omega)], rfl⟩
  · skip
    refine G_iload_n dX4_saltBehind_4 rfl rfl ?_
    refine G_iload_n dX4_saltBehind_5 rfl rfl ?_
    refine G_iadd dX4_saltBehind_6 ?_
    refine G_goto (tgt := 17) dX4_saltBehind_7 (by decide) ?_
    refine G_ireturn dX4_saltBehind_17 rfl ?_
    exact ⟨by unfold sbI; first | rw [if_pos (by omega)] | rw [if_neg (by omega)], rfl⟩
set_option maxRecDepth 100000 in
set_option maxHeartbeats 4000000 in
theorem c_X4_isRate (h : List PO) (c : Int) (hc : inR c)  : PM 0 yX4_isRate cX4_isRate 1 (some .boolean) h [i_ c] (fun r0 h2 => ∃ y : Int, r0 = some (i_ y) ∧ h = h2 ∧ (y = 1 ∧ 1 ≤ c ∧ c ≤ 30 ∨ y = 0 ∧ (c < 1 ∨ 30 < c))) := by
  refine PM_of_G RX4 [some (i_ c)] rfl (by decide +kernel) (Nat.le_of_ble_eq_true rfl) rfl ?_
  have hc1 := hc.1
  have hc2 := hc.2
  refine G_iload_n dX4_isRate_0 rfl rfl ?_
  refine G_iconst dX4_isRate_1 ?_
  refine G_icmp_lt (tgt := 15) dX4_isRate_2 (by decide) (inR_of (by omega) (by omega)) (inR_of (by omega) (by omega)) (fun hc2 => ?_) (fun hc2 => ?_)
  · skip
    refine G_iconst dX4_isRate_15 ?_
    refine G_zreturn dX4_isRate_16 rfl (by first | exact Or.inl rfl | exact Or.inr rfl) ?_
    exact ⟨_, rfl, rfl, by omega⟩
  · skip
    refine G_iload_n dX4_isRate_5 rfl rfl ?_
    refine G_bipush dX4_isRate_6 rfl ?_
    refine G_icmp_gt (tgt := 15) dX4_isRate_8 (by decide) (inR_of (by omega) (by omega)) (inR_of (by omega) (by omega)) (fun hc8 => ?_) (fun hc8 => ?_)
    · skip
      refine G_iconst dX4_isRate_15 ?_
      refine G_zreturn dX4_isRate_16 rfl (by first | exact Or.inl rfl | exact Or.inr rfl) ?_
      exact ⟨_, rfl, rfl, by omega⟩
    · skip
      refine G_iconst dX4_isRate_11 ?_
      refine G_goto (tgt := 16) dX4_isRate_12 (by decide) ?_
      refine G_zreturn dX4_isRate_16 rfl (by first | exact Or.inl rfl | exact Or.inr rfl) ?_
      exact ⟨_, rfl, rfl, by omega⟩
set_option maxRecDepth 100000 in
set_option maxHeartbeats 4000000 in
theorem c_X4_closeGap (h : List PO) (a : Nat) (q : Int → Int) (g : Int) (ha : h[a]? = some (oI 6 q)) (hg : 0 ≤ g ∧ g < 6) : PM 1 yX4_closeGap cX4_closeGap 3 none h [r_ a, i_ g] (fun r0 h2 => r0 = none ∧ h.set a (oI 6 (gapF q g)) = h2) := by
  refine PM_of_G RX4 [some (r_ a), some (i_ g), none] rfl (by decide +kernel) (Nat.le_of_ble_eq_true rfl) rfl ?_
  have L : ∀ (fu : Nat) (i : Int), g ≤ i → i ≤ 5 → 5 - i < fu → G 1 cX4_closeGap RX4 3 none (h.set a (oI 6 (gapN q g i))) 6 [some (r_ a), some (i_ g), some (i_ i)] [] (fun r0 h2 => r0 = none ∧ h.set a (oI 6 (gapF q g)) = h2) := by
    intro fu
    induction fu with
    | zero => intro i a1 a2 hmeas; exfalso; omega
    | succ fu ih =>
      intro i a1 a2 hmeas
      have hA := set_at (o := oI 6 (gapN q g i)) ha
      refine G_iload_n dX4_closeGap_6 rfl rfl ?_
      refine G_iconst dX4_closeGap_7 ?_
      refine G_iadd dX4_closeGap_8 ?_
      refine G_aload_n dX4_closeGap_9 rfl rfl ?_
      refine G_alen dX4_closeGap_10 (by assumption) ?_
      refine G_icmp_ge (tgt := 28) dX4_closeGap_11 (by decide) (inR_of (by omega) (by omega)) (inR_of (by omega) (by omega)) (fun hc11 => ?_) (fun hc11 => ?_)
      · skip
        have e : i = 5 := by omega
        subst e
        refine G_return dX4_closeGap_28 rfl ?_
        exact ⟨rfl, rfl⟩
      · skip
        refine G_aload_n dX4_closeGap_14 rfl rfl ?_
        refine G_iload_n dX4_closeGap_15 rfl rfl ?_
        refine G_aload_n dX4_closeGap_16 rfl rfl ?_
        refine G_iload_n dX4_closeGap_17 rfl rfl ?_
        refine G_iconst dX4_closeGap_18 ?_
        refine G_iadd dX4_closeGap_19 ?_
        refine G_iald dX4_closeGap_20 (by assumption) (by omega) (by omega) (by decide) ?_
        refine G_iast dX4_closeGap_21 (by assumption) (by omega) (by omega) (by decide) rfl ?_
        refine G_iinc dX4_closeGap_22 (by decide) rfl rfl ?_
        refine G_goto (tgt := 6) dX4_closeGap_25 (by decide) ?_
        rw [List.set_set, gapN_s (by omega)]
        exact ih (i + 1) (by omega) (by omega) (by omega)
  refine G_iload_n dX4_closeGap_0 rfl rfl ?_
  refine G_iconst dX4_closeGap_1 ?_
  refine G_max dX4_closeGap_2 mm_X4_58 (inR_of (by omega) (by omega)) (inR_of (by omega) (by omega)) (Nat.le_of_ble_eq_true rfl) (Nat.le_of_ble_eq_true rfl) ?_
  refine G_istore_n dX4_closeGap_5 rfl (by decide) rfl ?_
  rw [show max g 0 = g by omega]
  have e0 : h = h.set a (oI 6 (gapN q g g)) := by rw [gapN_0]; exact (set_same ha).symm
  have k := L 6 g (by omega) (by omega) (by omega)
  rw [← e0] at k
  exact k
