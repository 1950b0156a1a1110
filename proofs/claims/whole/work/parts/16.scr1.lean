/-! texts: what stands at a place (-1 behind the end), a number's value (-1 without one) and end, a thing -/
def nxI (tx : Int → Int) (len p : Int) : Int := if 0 ≤ p ∧ p < len then tx p else -1
def dgI (tx : Int → Int) (len p : Int) : Int := if 48 ≤ nxI tx len p ∧ nxI tx len p ≤ 57 then nxI tx len p - 48 else -1
def nmV (tx : Int → Int) (len lo hi p : Int) : Int := if dgI tx len p < lo then -1 else if 0 < dgI tx len p ∧ dgI tx len (p + 1) ≠ -1 ∧ 10 * dgI tx len p + dgI tx len (p + 1) ≤ hi then 10 * dgI tx len p + dgI tx len (p + 1) else dgI tx len p
def nmE (tx : Int → Int) (len lo hi p : Int) : Int := if dgI tx len p < lo then p else if 0 < dgI tx len p ∧ dgI tx len (p + 1) ≠ -1 ∧ 10 * dgI tx len p + dgI tx len (p + 1) ≤ hi then p + 2 else p + 1
/-- a thing: is it one, where it ends (or its fault), its kind and its two numbers -/
abbrev TH : Type := Int × Int × Int × Int × Int
def negA (tx : Int → Int) (len p : Int) : Int := if nxI tx len p = 45 then p + 1 else p
def negV (tx : Int → Int) (len p v : Int) : Int := if nxI tx len p = 45 then -v else v
def tideP (tx : Int → Int) (len p : Int) : TH :=
  if nmV tx len 0 30 (negA tx len p) = -1 then (0, nmE tx len 0 30 (negA tx len p), 0, 0, 0)
  else if nxI tx len (nmE tx len 0 30 (negA tx len p)) = 42 then
    (if nmV tx len 1 99 (nmE tx len 0 30 (negA tx len p) + 1) = -1 then (0, nmE tx len 1 99 (nmE tx len 0 30 (negA tx len p) + 1), 0, 0, 0)
     else (1, nmE tx len 1 99 (nmE tx len 0 30 (negA tx len p) + 1), 0, negV tx len p (nmV tx len 0 30 (negA tx len p)), nmV tx len 1 99 (nmE tx len 0 30 (negA tx len p) + 1)))
  else (1, nmE tx len 0 30 (negA tx len p), 0, negV tx len p (nmV tx len 0 30 (negA tx len p)), 1)
def flowP (tx : Int → Int) (len p : Int) : TH := if nmV tx len 0 99 p = -1 then (0, nmE tx len 0 99 p, 0, 0, 0) else (1, nmE tx len 0 99 p, 1, nmV tx len 0 99 p, 0)
def sillP (tx : Int → Int) (len p : Int) : TH :=
  if nmV tx len 0 39 p = -1 then (0, nmE tx len 0 39 p, 0, 0, 0)
  else if nxI tx len (nmE tx len 0 39 p) = 61 then
    (if nmV tx len 0 60 (nmE tx len 0 39 p + 1) = -1 then (0, nmE tx len 0 60 (nmE tx len 0 39 p + 1), 0, 0, 0)
     else (1, nmE tx len 0 60 (nmE tx len 0 39 p + 1), 2, nmV tx len 0 39 p, nmV tx len 0 60 (nmE tx len 0 39 p + 1)))
  else (0, nmE tx len 0 39 p, 0, 0, 0)
def thP (tx : Int → Int) (len p : Int) : TH := if nxI tx len p = 116 then tideP tx len (p + 1) else if nxI tx len p = 114 then flowP tx len (p + 1) else if nxI tx len p = 115 then sillP tx len (p + 1) else (0, p, 0, 0, 0)
/-- where the n-th thing begins, and whether all those ahead of it were things with ";" behind them -/
def stP (tx : Int → Int) (len : Int) : Nat → Int
  | 0 => 0
  | n + 1 => (thP tx len (stP tx len n)).2.1 + 1
def goP (tx : Int → Int) (len : Int) (n : Nat) : Prop := (thP tx len (stP tx len n)).1 = 1 ∧ nxI tx len (thP tx len (stP tx len n)).2.1 = 59
theorem nxI_rng {tx : Int → Int} {len p : Int} (h : RG 0 65535 60 tx) (hl : len ≤ 60) : -1 ≤ nxI tx len p ∧ nxI tx len p ≤ 65535 := by
  unfold nxI
  by_cases q : 0 ≤ p ∧ p < len
  · rw [if_pos q]
    have := h p q.1 (by omega)
    omega
  · rw [if_neg q]; omega
theorem nxI_in {tx : Int → Int} {len p : Int} (h : 0 ≤ nxI tx len p) : 0 ≤ p ∧ p < len := by
  unfold nxI at h
  by_cases q : 0 ≤ p ∧ p < len
  · exact q
  · rw [if_neg q] at h; omega
theorem dgI_rng (tx : Int → Int) (len p : Int) : -1 ≤ dgI tx len p ∧ dgI tx len p ≤ 9 := by
  unfold dgI
  by_cases q : 48 ≤ nxI tx len p ∧ nxI tx len p ≤ 57
  · rw [if_pos q]; omega
  · rw [if_neg q]; omega
theorem dgI_in {tx : Int → Int} {len p : Int} (h : 0 ≤ dgI tx len p) : 0 ≤ p ∧ p < len := by
  unfold dgI at h
  by_cases q : 48 ≤ nxI tx len p ∧ nxI tx len p ≤ 57
  · exact nxI_in (tx := tx) (by omega)
  · rw [if_neg q] at h; omega
theorem nm_rng {tx : Int → Int} {len lo hi p : Int} (h0 : 0 ≤ p) (hlo : 0 ≤ lo) (hp : p ≤ len) (h9 : 9 ≤ hi) : p ≤ nmE tx len lo hi p ∧ nmE tx len lo hi p ≤ len ∧ (nmV tx len lo hi p = -1 ∧ nmE tx len lo hi p = p ∨ lo ≤ nmV tx len lo hi p ∧ nmV tx len lo hi p ≤ hi ∧ p + 1 ≤ nmE tx len lo hi p) := by
  have a := dgI_rng tx len p
  have b := dgI_rng tx len (p + 1)
  unfold nmE nmV
  by_cases q : dgI tx len p < lo
  · rw [if_pos q, if_pos q]; omega
  · rw [if_neg q, if_neg q]
    have c := dgI_in (tx := tx) (len := len) (p := p) (by omega)
    by_cases q2 : 0 < dgI tx len p ∧ dgI tx len (p + 1) ≠ -1 ∧ 10 * dgI tx len p + dgI tx len (p + 1) ≤ hi
    · rw [if_pos q2, if_pos q2]
      have d := dgI_in (tx := tx) (len := len) (p := p + 1) (by omega)
      omega
    · rw [if_neg q2, if_neg q2]; omega
theorem negA_rng {tx : Int → Int} {len p : Int} (h0 : 0 ≤ p) (hp : p ≤ len) : p ≤ negA tx len p ∧ negA tx len p ≤ len := by
  unfold negA
  by_cases q : nxI tx len p = 45
  · rw [if_pos q]
    have := nxI_in (tx := tx) (len := len) (p := p) (by omega)
    omega
  · rw [if_neg q]; omega
/-- a thing's numbers are in their ranges, and it has two characters -/
def thOK (t : TH) (p len : Int) : Prop := p ≤ t.2.1 ∧ t.2.1 ≤ len ∧ (t.1 = 0 ∨ t.1 = 1 ∧ p + 1 ≤ t.2.1 ∧ (t.2.2.1 = 0 ∧ (-30 ≤ t.2.2.2.1 ∧ t.2.2.2.1 ≤ 30) ∧ (1 ≤ t.2.2.2.2 ∧ t.2.2.2.2 ≤ 99) ∨ t.2.2.1 = 1 ∧ (0 ≤ t.2.2.2.1 ∧ t.2.2.2.1 ≤ 99) ∧ t.2.2.2.2 = 0 ∨ t.2.2.1 = 2 ∧ (0 ≤ t.2.2.2.1 ∧ t.2.2.2.1 ≤ 39) ∧ (0 ≤ t.2.2.2.2 ∧ t.2.2.2.2 ≤ 60)))
theorem tideP_ok {tx : Int → Int} {len p : Int} (h0 : 0 ≤ p) (hp : p ≤ len) : thOK (tideP tx len p) p len := by
  have a := negA_rng (tx := tx) h0 hp
  have b := nm_rng (tx := tx) (lo := 0) (hi := 30) (p := negA tx len p) (by omega) (by omega) a.2 (by omega)
  unfold tideP
  by_cases q : nmV tx len 0 30 (negA tx len p) = -1
  · rw [if_pos q]; unfold thOK; dsimp only; omega
  · rw [if_neg q]
    have e : -30 ≤ negV tx len p (nmV tx len 0 30 (negA tx len p)) ∧ negV tx len p (nmV tx len 0 30 (negA tx len p)) ≤ 30 := by
      unfold negV
      by_cases z : nxI tx len p = 45
      · rw [if_pos z]; omega
      · rw [if_neg z]; omega
    by_cases q2 : nxI tx len (nmE tx len 0 30 (negA tx len p)) = 42
    · rw [if_pos q2]
      have i := nxI_in (tx := tx) (len := len) (p := nmE tx len 0 30 (negA tx len p)) (by omega)
      have c := nm_rng (tx := tx) (len := len) (lo := 1) (hi := 99) (p := nmE tx len 0 30 (negA tx len p) + 1) (by omega) (by omega) (by omega) (by omega)
      by_cases q3 : nmV tx len 1 99 (nmE tx len 0 30 (negA tx len p) + 1) = -1
      · rw [if_pos q3]; unfold thOK; dsimp only; omega
      · rw [if_neg q3]; unfold thOK; dsimp only; omega
    · rw [if_neg q2]; unfold thOK; dsimp only; omega
theorem flowP_ok {tx : Int → Int} {len p : Int} (h0 : 0 ≤ p) (hp : p ≤ len) : thOK (flowP tx len p) p len := by
  have b := nm_rng (tx := tx) (lo := 0) (hi := 99) h0 (by omega) hp (by omega)
  unfold flowP
  by_cases q : nmV tx len 0 99 p = -1
  · rw [if_pos q]; unfold thOK; dsimp only; omega
  · rw [if_neg q]; unfold thOK; dsimp only; omega
theorem sillP_ok {tx : Int → Int} {len p : Int} (h0 : 0 ≤ p) (hp : p ≤ len) : thOK (sillP tx len p) p len := by
  have b := nm_rng (tx := tx) (lo := 0) (hi := 39) h0 (by omega) hp (by omega)
  unfold sillP
  by_cases q : nmV tx len 0 39 p = -1
  · rw [if_pos q]; unfold thOK; dsimp only; omega
  · rw [if_neg q]
    by_cases q2 : nxI tx len (nmE tx len 0 39 p) = 61
    · rw [if_pos q2]
      have i := nxI_in (tx := tx) (len := len) (p := nmE tx len 0 39 p) (by omega)
      have c := nm_rng (tx := tx) (len := len) (lo := 0) (hi := 60) (p := nmE tx len 0 39 p + 1) (by omega) (by omega) (by omega) (by omega)
      by_cases q3 : nmV tx len 0 60 (nmE tx len 0 39 p + 1) = -1
      · rw [if_pos q3]; unfold thOK; dsimp only; omega
      · rw [if_neg q3]; unfold thOK; dsimp only; omega
    · rw [if_neg q2]; unfold thOK; dsimp only; omega
def thOK2 (t : TH) (p len : Int) : Prop := p ≤ t.2.1 ∧ t.2.1 ≤ len ∧ (t.1 = 0 ∨ t.1 = 1 ∧ p + 2 ≤ t.2.1 ∧ (t.2.2.1 = 0 ∧ (-30 ≤ t.2.2.2.1 ∧ t.2.2.2.1 ≤ 30) ∧ (1 ≤ t.2.2.2.2 ∧ t.2.2.2.2 ≤ 99) ∨ t.2.2.1 = 1 ∧ (0 ≤ t.2.2.2.1 ∧ t.2.2.2.1 ≤ 99) ∧ t.2.2.2.2 = 0 ∨ t.2.2.1 = 2 ∧ (0 ≤ t.2.2.2.1 ∧ t.2.2.2.1 ≤ 39) ∧ (0 ≤ t.2.2.2.2 ∧ t.2.2.2.2 ≤ 60)))
theorem thP_ok {tx : Int → Int} {len p : Int} (h0 : 0 ≤ p) (hp : p ≤ len) : thOK2 (thP tx len p) p len := by
  have key : ∀ t : TH, 0 ≤ nxI tx len p → thOK t (p + 1) len → thOK2 t p len := by
    intro t _ k
    unfold thOK at k
    unfold thOK2
    omega
  unfold thP
  by_cases q : nxI tx len p = 116
  · rw [if_pos q]
    have i := nxI_in (tx := tx) (len := len) (p := p) (by omega)
    exact key _ (by omega) (tideP_ok (by omega) (by omega))
  · rw [if_neg q]
    by_cases q2 : nxI tx len p = 114
    · rw [if_pos q2]
      have i := nxI_in (tx := tx) (len := len) (p := p) (by omega)
      exact key _ (by omega) (flowP_ok (by omega) (by omega))
    · rw [if_neg q2]
      by_cases q3 : nxI tx len p = 115
      · rw [if_pos q3]
        have i := nxI_in (tx := tx) (len := len) (p := p) (by omega)
        exact key _ (by omega) (sillP_ok (by omega) (by omega))
      · rw [if_neg q3]; unfold thOK2; dsimp only; omega
theorem stP_rng {tx : Int → Int} {len : Int} (hl : 0 ≤ len) : ∀ n : Nat, (∀ i : Nat, i < n → goP tx len i) → 3 * (n : Int) ≤ stP tx len n ∧ stP tx len n ≤ len := by
  intro n
  induction n with
  | zero => intro _; exact ⟨by show (3 : Int) * ((0 : Nat) : Int) ≤ 0; omega, hl⟩
  | succ n ih =>
    intro h
    have a := ih (fun i hi => h i (by omega))
    have b := h n (by omega)
    have c := thP_ok (tx := tx) (len := len) (p := stP tx len n) (by omega) a.2
    have d := nxI_in (tx := tx) (len := len) (p := (thP tx len (stP tx len n)).2.1) (by rw [b.2]; omega)
    have e := b.1
    unfold thOK2 at c
    show 3 * ((n + 1 : Nat) : Int) ≤ (thP tx len (stP tx len n)).2.1 + 1 ∧ (thP tx len (stP tx len n)).2.1 + 1 ≤ len
    omega
abbrev oScr (z : Nat) (len th p : Int) : PO := oO 2 [r_ (z + 1), i_ len, r_ (z + 2), r_ (z + 3), r_ (z + 4), i_ th, i_ p]
def scAt (h : List PO) (z : Nat) (tx : Int → Int) (len : Int) (ki fi se : Int → Int) (th p : Int) : Prop := h[z]? = some (oScr z len th p) ∧ h[z + 1]? = some (oC 60 tx) ∧ h[z + 2]? = some (oI 20 ki) ∧ h[z + 3]? = some (oI 20 fi) ∧ h[z + 4]? = some (oI 20 se)
theorem scAt.fr {h h2 : List PO} {z lo hi : Nat} {tx ki fi se : Int → Int} {len th p : Int} (a : scAt h z tx len ki fi se th p) (f : Fr h h2 lo hi) (q : z + 5 ≤ lo ∨ hi ≤ z) : scAt h2 z tx len ki fi se th p := by
  obtain ⟨a0, a1, a2, a3, a4⟩ := a
  exact ⟨f.at' a0 (by omega), f.at' a1 (by omega), f.at' a2 (by omega), f.at' a3 (by omega), f.at' a4 (by omega)⟩
theorem scAt.obj {h : List PO} {z : Nat} {tx ki fi se : Int → Int} {len th p : Int} (a : scAt h z tx len ki fi se th p) (len2 th2 p2 : Int) : scAt (h.set z (oScr z len2 th2 p2)) z tx len2 ki fi se th2 p2 := by
  obtain ⟨a0, a1, a2, a3, a4⟩ := a
  exact ⟨set_at a0, set_off a1 (by omega), set_off a2 (by omega), set_off a3 (by omega), set_off a4 (by omega)⟩
theorem scAt.set1 {h : List PO} {z : Nat} {tx ki fi se : Int → Int} {len th p : Int} (a : scAt h z tx len ki fi se th p) (q : Int → Int) : scAt (h.set (z + 1) (oC 60 q)) z q len ki fi se th p := by
  obtain ⟨a0, a1, a2, a3, a4⟩ := a
  exact ⟨set_off a0 (by omega), set_at a1, set_off a2 (by omega), set_off a3 (by omega), set_off a4 (by omega)⟩
theorem scAt.set2 {h : List PO} {z : Nat} {tx ki fi se : Int → Int} {len th p : Int} (a : scAt h z tx len ki fi se th p) (q : Int → Int) : scAt (h.set (z + 2) (oI 20 q)) z tx len q fi se th p := by
  obtain ⟨a0, a1, a2, a3, a4⟩ := a
  exact ⟨set_off a0 (by omega), set_off a1 (by omega), set_at a2, set_off a3 (by omega), set_off a4 (by omega)⟩
theorem scAt.set3 {h : List PO} {z : Nat} {tx ki fi se : Int → Int} {len th p : Int} (a : scAt h z tx len ki fi se th p) (q : Int → Int) : scAt (h.set (z + 3) (oI 20 q)) z tx len ki q se th p := by
  obtain ⟨a0, a1, a2, a3, a4⟩ := a
  exact ⟨set_off a0 (by omega), set_off a1 (by omega), set_off a2 (by omega), set_at a3, set_off a4 (by omega)⟩
theorem scAt.set4 {h : List PO} {z : Nat} {tx ki fi se : Int → Int} {len th p : Int} (a : scAt h z tx len ki fi se th p) (q : Int → Int) : scAt (h.set (z + 4) (oI 20 q)) z tx len ki fi q th p := by
  obtain ⟨a0, a1, a2, a3, a4⟩ := a
  exact ⟨set_off a0 (by omega), set_off a1 (by omega), set_off a2 (by omega), set_off a3 (by omega), set_at a4⟩
set_option maxRecDepth 100000 in
set_option maxHeartbeats 4000000 in
theorem c_X2_append (h : List PO) (z : Nat) (tx ki fi se : Int → Int) (len th p : Int) (c : Int) (hS : scAt h z tx len ki fi se th p) (hx : RG 0 65535 60 tx) (hl : 0 ≤ len ∧ len ≤ 60) (hc : 0 ≤ c ∧ c ≤ 65535) : PM 0 yX2_append cX2_append 2 (some .int) h [r_ z, i_ c] (fun r0 h2 => r0 = some (i_ (if len < 60 then len + 1 else -3)) ∧ Fr h h2 z (z + 5) ∧ scAt h2 z (if len < 60 then fup tx len c else tx) (if len < 60 then len + 1 else len) ki fi se th p) := by
  refine PM_of_G RX2 [some (r_ z), some (i_ c)] rfl (by decide +kernel) (Nat.le_of_ble_eq_true rfl) rfl ?_
  obtain ⟨hS0, hS1, hS2, hS3, hS4⟩ := id hS
  have hF : Fr h h z (z + 5) := Fr.rf
  refine G_aload_n dX2_append_0 rfl rfl ?_
  refine G_getf fl_X2_25 dX2_append_1 (by assumption) rfl ?_
  refine G_if_lt (tgt := 16) dX2_append_4 (by decide) (inR_of (by omega) (by omega)) (fun hc4 => ?_) (fun hc4 => ?_)
  · skip
    exfalso; omega
  · skip
    refine G_aload_n dX2_append_7 rfl rfl ?_
    refine G_getf fl_X2_25 dX2_append_8 (by assumption) rfl ?_
    refine G_bipush dX2_append_11 rfl ?_
    refine G_icmp_lt (tgt := 19) dX2_append_13 (by decide) (inR_of (by omega) (by omega)) (inR_of (by omega) (by omega)) (fun hc13 => ?_) (fun hc13 => ?_)
    · skip
      refine G_aload_n dX2_append_19 rfl rfl ?_
      refine G_getf fl_X2_9 dX2_append_20 (by assumption) rfl ?_
      refine G_aload_n dX2_append_23 rfl rfl ?_
      refine G_getf fl_X2_25 dX2_append_24 (by assumption) rfl ?_
      refine G_iload_n dX2_append_27 rfl rfl ?_
      refine G_cast dX2_append_28 (by assumption) (by omega) (by omega) (by omega) (by omega) (by decide) rfl ?_
      have hS := hS.set1 (fup tx len c)
      obtain ⟨hS0, hS1, hS2, hS3, hS4⟩ := id hS
      have hF := hF.tr (Fr.set (o := oC 60 (fup tx len c)) (show z ≤ z + 1 by omega) (show z + 1 < z + 5 by omega))
      refine G_aload_n dX2_append_29 rfl rfl ?_
      refine G_dup dX2_append_30 ?_
      refine G_getf fl_X2_25 dX2_append_31 (by assumption) rfl ?_
      refine G_iconst dX2_append_34 ?_
      refine G_iadd dX2_append_35 ?_
      refine G_putI (fs2 := [r_ (z + 1), i_ (len + 1), r_ (z + 2), r_ (z + 3), r_ (z + 4), i_ (th), i_ (p)]) fp_X2_25 dX2_append_36 (by assumption) (Nat.le_of_ble_eq_true rfl) rfl ?_
      have hS := scAt.obj hS (len + 1) (th) (p)
      obtain ⟨hS0, hS1, hS2, hS3, hS4⟩ := id hS
      have hF := hF.tr (Fr.set (o := oScr z (len + 1) (th) (p)) (show z ≤ z by omega) (show z < z + 5 by omega))
      refine G_aload_n dX2_append_39 rfl rfl ?_
      refine G_getf fl_X2_25 dX2_append_40 (by assumption) rfl ?_
      refine G_ireturn dX2_append_43 rfl ?_
      rw [if_pos (by omega), if_pos (by omega), if_pos (by omega)]
      exact ⟨rfl, hF, hS⟩
    · skip
      refine G_bipush dX2_append_16 rfl ?_
      refine G_ireturn dX2_append_18 rfl ?_
      rw [if_neg (by omega), if_neg (by omega), if_neg (by omega)]
      exact ⟨rfl, hF, hS⟩
set_option maxRecDepth 100000 in
set_option maxHeartbeats 4000000 in
theorem c_X2_empty (h : List PO) (z : Nat) (tx ki fi se : Int → Int) (len th p : Int) (hS : scAt h z tx len ki fi se th p) (hx : RG 0 65535 60 tx) (hl : 0 ≤ len ∧ len ≤ 60) : PM 0 yX2_empty cX2_empty 2 (some .int) h [r_ z] (fun r0 h2 => r0 = some (i_ len) ∧ Fr h h2 z (z + 5) ∧ scAt h2 z tx 0 ki fi se th p) := by
  refine PM_of_G RX2 [some (r_ z), none] rfl (by decide +kernel) (Nat.le_of_ble_eq_true rfl) rfl ?_
  obtain ⟨hS0, hS1, hS2, hS3, hS4⟩ := id hS
  have hF : Fr h h z (z + 5) := Fr.rf
  refine G_aload_n dX2_empty_0 rfl rfl ?_
  refine G_getf fl_X2_25 dX2_empty_1 (by assumption) rfl ?_
  refine G_istore_n dX2_empty_4 rfl (by decide) rfl ?_
  refine G_aload_n dX2_empty_5 rfl rfl ?_
  refine G_iconst dX2_empty_6 ?_
  refine G_putI (fs2 := [r_ (z + 1), i_ (0), r_ (z + 2), r_ (z + 3), r_ (z + 4), i_ (th), i_ (p)]) fp_X2_25 dX2_empty_7 (by assumption) (Nat.le_of_ble_eq_true rfl) rfl ?_
  have hS := scAt.obj hS (0) (th) (p)
  obtain ⟨hS0, hS1, hS2, hS3, hS4⟩ := id hS
  have hF := hF.tr (Fr.set (o := oScr z (0) (th) (p)) (show z ≤ z by omega) (show z < z + 5 by omega))
  refine G_iload_n dX2_empty_10 rfl rfl ?_
  refine G_ireturn dX2_empty_11 rfl ?_
  exact ⟨rfl, hF, hS⟩
set_option maxRecDepth 100000 in
set_option maxHeartbeats 4000000 in
theorem c_X2_next (h : List PO) (z : Nat) (tx ki fi se : Int → Int) (len th p : Int) (hS : scAt h z tx len ki fi se th p) (hx : RG 0 65535 60 tx) (hl : 0 ≤ len ∧ len ≤ 60) (hp : 0 ≤ p ∧ p ≤ 70) : PM 0 yX2_next cX2_next 1 (some .int) h [r_ z] (fun r0 h2 => r0 = some (i_ (nxI tx len p)) ∧ h = h2) := by
  refine PM_of_G RX2 [some (r_ z)] rfl (by decide +kernel) (Nat.le_of_ble_eq_true rfl) rfl ?_
  obtain ⟨hS0, hS1, hS2, hS3, hS4⟩ := id hS
  refine G_aload_n dX2_next_0 rfl rfl ?_
  refine G_getf fl_X2_29 dX2_next_1 (by assumption) rfl ?_
  refine G_if_lt (tgt := 27) dX2_next_4 (by decide) (inR_of (by omega) (by omega)) (fun hc4 => ?_) (fun hc4 => ?_)
  · skip
    refine G_iconst dX2_next_27 ?_
    refine G_ireturn dX2_next_28 rfl ?_
    exact ⟨by unfold nxI; rw [if_neg (by omega)], rfl⟩
  · skip
    refine G_aload_n dX2_next_7 rfl rfl ?_
    refine G_getf fl_X2_29 dX2_next_8 (by assumption) rfl ?_
    refine G_aload_n dX2_next_11 rfl rfl ?_
    refine G_getf fl_X2_25 dX2_next_12 (by assumption) rfl ?_
    refine G_icmp_ge (tgt := 27) dX2_next_15 (by decide) (inR_of (by omega) (by omega)) (inR_of (by omega) (by omega)) (fun hc15 => ?_) (fun hc15 => ?_)
    · skip
      refine G_iconst dX2_next_27 ?_
      refine G_ireturn dX2_next_28 rfl ?_
      exact ⟨by unfold nxI; rw [if_neg (by omega)], rfl⟩
    · skip
      refine G_aload_n dX2_next_18 rfl rfl ?_
      refine G_getf fl_X2_29 dX2_next_19 (by assumption) rfl ?_
      refine G_bipush dX2_next_22 rfl ?_
      refine G_icmp_lt (tgt := 29) dX2_next_24 (by decide) (inR_of (by omega) (by omega)) (inR_of (by omega) (by omega)) (fun hc24 => ?_) (fun hc24 => ?_)
      · skip
        refine G_aload_n dX2_next_29 rfl rfl ?_
        refine G_getf fl_X2_9 dX2_next_30 (by assumption) rfl ?_
        refine G_aload_n dX2_next_33 rfl rfl ?_
        refine G_getf fl_X2_29 dX2_next_34 (by assumption) rfl ?_
        refine G_cald dX2_next_37 (by assumption) (by omega) (by omega) (by decide) ?_
        refine G_ireturn dX2_next_38 rfl ?_
        exact ⟨by unfold nxI; rw [if_pos (by omega)], rfl⟩
      · skip
        exfalso; omega
set_option maxRecDepth 100000 in
set_option maxHeartbeats 4000000 in
theorem c_X2_digit (h : List PO) (z : Nat) (tx ki fi se : Int → Int) (len th p : Int) (hS : scAt h z tx len ki fi se th p) (hx : RG 0 65535 60 tx) (hl : 0 ≤ len ∧ len ≤ 60) (hp : 0 ≤ p ∧ p ≤ 70) : PM 1 yX2_digit cX2_digit 2 (some .int) h [r_ z] (fun r0 h2 => r0 = some (i_ (dgI tx len p)) ∧ h = h2) := by
  refine PM_of_G RX2 [some (r_ z), none] rfl (by decide +kernel) (Nat.le_of_ble_eq_true rfl) rfl ?_
  obtain ⟨hS0, hS1, hS2, hS3, hS4⟩ := id hS
  have hxr := nxI_rng (p := p) hx hl.2
  refine G_aload_n dX2_digit_0 rfl rfl ?_
  refine G_callV (ci := 2) (as := []) (c_X2_next h z tx ki fi se len th p hS hx hl hp) dX2_digit_1 ml_X2_64 cv_X2_next (by assumption) rfl rfl (Nat.le_of_ble_eq_true rfl) (Nat.le_of_ble_eq_true rfl) rfl (fun r h2 hp => ?_)
  obtain ⟨rfl, rfl⟩ := hp
  refine G_istore_n dX2_digit_4 rfl (by decide) rfl ?_
  refine G_iload_n dX2_digit_5 rfl rfl ?_
  refine G_bipush dX2_digit_6 rfl ?_
  refine G_icmp_lt (tgt := 24) dX2_digit_8 (by decide) (inR_of (by omega) (by omega)) (inR_of (by omega) (by omega)) (fun hc8 => ?_) (fun hc8 => ?_)
  · skip
    refine G_iconst dX2_digit_24 ?_
    refine G_ireturn dX2_digit_25 rfl ?_
    exact ⟨by unfold dgI; first | rw [if_pos (by omega)] | rw [if_neg (by omega)], rfl⟩
  · skip
    refine G_iload_n dX2_digit_11 rfl rfl ?_
    refine G_bipush dX2_digit_12 rfl ?_
    refine G_icmp_gt (tgt := 24) dX2_digit_14 (by decide) (inR_of (by omega) (by omega)) (inR_of (by omega) (by omega)) (fun hc14 => ?_) (fun hc14 => ?_)
    · skip
      refine G_iconst dX2_digit_24 ?_
      refine G_ireturn dX2_digit_25 rfl ?_
      exact ⟨by unfold dgI; first | rw [if_pos (by omega)] | rw [if_neg (by omega)], rfl⟩
    · skip
      refine G_iload_n dX2_digit_17 rfl rfl ?_
      refine G_bipush dX2_digit_18 rfl ?_
      refine G_isub dX2_digit_20 ?_
      refine G_goto (tgt := 25) dX2_digit_21 (by decide) ?_
      refine G_ireturn dX2_digit_25 rfl ?_
      exact ⟨by unfold dgI; first | rw [if_pos (by omega)] | rw [if_neg (by omega)], rfl⟩
set_option maxRecDepth 100000 in
set_option maxHeartbeats 4000000 in
theorem c_X2_pass (h : List PO) (z : Nat) (tx ki fi se : Int → Int) (len th p : Int) (c : Int) (hS : scAt h z tx len ki fi se th p) (hx : RG 0 65535 60 tx) (hl : 0 ≤ len ∧ len ≤ 60) (hp : 0 ≤ p ∧ p ≤ 70) (hc : 0 ≤ c ∧ c ≤ 65535) : PM 1 yX2_pass cX2_pass 2 (some .boolean) h [r_ z, i_ c] (fun r0 h2 => ∃ y p2 : Int, r0 = some (i_ y) ∧ Fr h h2 z (z + 5) ∧ scAt h2 z tx len ki fi se th p2 ∧ (y = 1 ∧ nxI tx len p = c ∧ p2 = p + 1 ∧ p + 1 ≤ len ∨ y = 0 ∧ nxI tx len p ≠ c ∧ p2 = p)) := by
  refine PM_of_G RX2 [some (r_ z), some (i_ c)] rfl (by decide +kernel) (Nat.le_of_ble_eq_true rfl) rfl ?_
  obtain ⟨hS0, hS1, hS2, hS3, hS4⟩ := id hS
  have hxr := nxI_rng (p := p) hx hl.2
  have hF : Fr h h z (z + 5) := Fr.rf
  refine G_aload_n dX2_pass_0 rfl rfl ?_
  refine G_callV (ci := 2) (as := []) (c_X2_next h z tx ki fi se len th p hS hx hl hp) dX2_pass_1 ml_X2_64 cv_X2_next (by assumption) rfl rfl (Nat.le_of_ble_eq_true rfl) (Nat.le_of_ble_eq_true rfl) rfl (fun r h2 hp => ?_)
  obtain ⟨rfl, rfl⟩ := hp
  refine G_iload_n dX2_pass_4 rfl rfl ?_
  refine G_icmp_eq (tgt := 10) dX2_pass_5 (by decide) (inR_of (by omega) (by omega)) (inR_of (by omega) (by omega)) (fun hc5 => ?_) (fun hc5 => ?_)
  · skip
    refine G_aload_n dX2_pass_10 rfl rfl ?_
    refine G_dup dX2_pass_11 ?_
    refine G_getf fl_X2_29 dX2_pass_12 (by assumption) rfl ?_
    refine G_iconst dX2_pass_15 ?_
    refine G_iadd dX2_pass_16 ?_
    refine G_putI (fs2 := [r_ (z + 1), i_ (len), r_ (z + 2), r_ (z + 3), r_ (z + 4), i_ (th), i_ (p + 1)]) fp_X2_29 dX2_pass_17 (by assumption) (Nat.le_of_ble_eq_true rfl) rfl ?_
    have hS := scAt.obj hS (len) (th) (p + 1)
    obtain ⟨hS0, hS1, hS2, hS3, hS4⟩ := id hS
    have hF := hF.tr (Fr.set (o := oScr z (len) (th) (p + 1)) (show z ≤ z by omega) (show z < z + 5 by omega))
    refine G_iconst dX2_pass_20 ?_
    refine G_zreturn dX2_pass_21 rfl (by first | exact Or.inl rfl | exact Or.inr rfl) ?_
    have hin := nxI_in (tx := tx) (len := len) (p := p) (by omega)
    exact ⟨_, _, rfl, hF, hS, Or.inl ⟨rfl, by omega, rfl, by omega⟩⟩
  · skip
    refine G_iconst dX2_pass_8 ?_
    refine G_zreturn dX2_pass_9 rfl (by first | exact Or.inl rfl | exact Or.inr rfl) ?_
    exact ⟨_, _, rfl, hF, hS, Or.inr ⟨rfl, by omega, rfl⟩⟩
set_option maxRecDepth 100000 in
set_option maxHeartbeats 4000000 in
theorem c_X2_readNumber (h : List PO) (z : Nat) (tx ki fi se : Int → Int) (len th p : Int) (lo hi : Int) (hS : scAt h z tx len ki fi se th p) (hx : RG 0 65535 60 tx) (hl : 0 ≤ len ∧ len ≤ 60) (hp : 0 ≤ p ∧ p ≤ 65) (hlo : 0 ≤ lo ∧ lo ≤ 1) (hhi : 9 ≤ hi ∧ hi ≤ 99) : PM 2 yX2_readNumber cX2_readNumber 5 (some .int) h [r_ z, i_ lo, i_ hi] (fun r0 h2 => r0 = some (i_ (nmV tx len lo hi p)) ∧ Fr h h2 z (z + 5) ∧ scAt h2 z tx len ki fi se th (nmE tx len lo hi p)) := by
  refine PM_of_G RX2 [some (r_ z), some (i_ lo), some (i_ hi), none, none] rfl (by decide +kernel) (Nat.le_of_ble_eq_true rfl) rfl ?_
  obtain ⟨hS0, hS1, hS2, hS3, hS4⟩ := id hS
  have hF : Fr h h z (z + 5) := Fr.rf
  have hd1 := dgI_rng tx len p
  have hd2 := dgI_rng tx len (p + 1)
  refine G_aload_n dX2_readNumber_0 rfl rfl ?_
  refine G_callV (ci := 2) (as := []) (c_X2_digit h z tx ki fi se len th p hS hx hl (by omega)) dX2_readNumber_1 ml_X2_60 cv_X2_digit (by assumption) rfl rfl (Nat.le_of_ble_eq_true rfl) (Nat.le_of_ble_eq_true rfl) rfl (fun r h2 hp => ?_)
  obtain ⟨rfl, rfl⟩ := hp
  refine G_istore_n dX2_readNumber_4 rfl (by decide) rfl ?_
  refine G_iload_n dX2_readNumber_5 rfl rfl ?_
  refine G_iload_n dX2_readNumber_6 rfl rfl ?_
  refine G_icmp_ge (tgt := 12) dX2_readNumber_7 (by decide) (inR_of (by omega) (by omega)) (inR_of (by omega) (by omega)) (fun hc7 => ?_) (fun hc7 => ?_)
  · skip
    refine G_aload_n dX2_readNumber_12 rfl rfl ?_
    refine G_dup dX2_readNumber_13 ?_
    refine G_getf fl_X2_29 dX2_readNumber_14 (by assumption) rfl ?_
    refine G_iconst dX2_readNumber_17 ?_
    refine G_iadd dX2_readNumber_18 ?_
    refine G_putI (fs2 := [r_ (z + 1), i_ (len), r_ (z + 2), r_ (z + 3), r_ (z + 4), i_ (th), i_ (p + 1)]) fp_X2_29 dX2_readNumber_19 (by assumption) (Nat.le_of_ble_eq_true rfl) rfl ?_
    have hS := scAt.obj hS (len) (th) (p + 1)
    obtain ⟨hS0, hS1, hS2, hS3, hS4⟩ := id hS
    have hF := hF.tr (Fr.set (o := oScr z (len) (th) (p + 1)) (show z ≤ z by omega) (show z < z + 5 by omega))
    refine G_aload_n dX2_readNumber_22 rfl rfl ?_
    refine G_callV (ci := 2) (as := []) (c_X2_digit _ z tx ki fi se len th (p + 1) hS hx hl (by omega)) dX2_readNumber_23 ml_X2_60 cv_X2_digit (by assumption) rfl rfl (Nat.le_of_ble_eq_true rfl) (Nat.le_of_ble_eq_true rfl) rfl (fun r h2 hp => ?_)
    obtain ⟨rfl, rfl⟩ := hp
    refine G_istore dX2_readNumber_26 (by decide) rfl ?_
    refine G_iload_n dX2_readNumber_28 rfl rfl ?_
    refine G_if_le (tgt := 67) dX2_readNumber_29 (by decide) (inR_of (by omega) (by omega)) (fun hc29 => ?_) (fun hc29 => ?_)
    · skip
      refine G_iload_n dX2_readNumber_67 rfl rfl ?_
      refine G_ireturn dX2_readNumber_68 rfl ?_
      have e : nmE tx len lo hi p = p + 1 := by unfold nmE; rw [if_neg (by omega), if_neg (by omega)]
      rw [e]
      exact ⟨by unfold nmV; rw [if_neg (by omega), if_neg (by omega)], hF, hS⟩
    · skip
      refine G_iload dX2_readNumber_32 rfl ?_
      refine G_iconst dX2_readNumber_34 ?_
      refine G_icmp_eq (tgt := 67) dX2_readNumber_35 (by decide) (inR_of (by omega) (by omega)) (inR_of (by omega) (by omega)) (fun hc35 => ?_) (fun hc35 => ?_)
      · skip
        refine G_iload_n dX2_readNumber_67 rfl rfl ?_
        refine G_ireturn dX2_readNumber_68 rfl ?_
        have e : nmE tx len lo hi p = p + 1 := by unfold nmE; rw [if_neg (by omega), if_neg (by omega)]
        rw [e]
        exact ⟨by unfold nmV; rw [if_neg (by omega), if_neg (by omega)], hF, hS⟩
      · skip
        refine G_bipush dX2_readNumber_38 rfl ?_
        refine G_iload_n dX2_readNumber_40 rfl rfl ?_
        refine G_imul dX2_readNumber_41 ?_
        refine G_iload dX2_readNumber_42 rfl ?_
        refine G_iadd dX2_readNumber_44 ?_
        refine G_iload_n dX2_readNumber_45 rfl rfl ?_
        refine G_icmp_gt (tgt := 67) dX2_readNumber_46 (by decide) (inR_of (by omega) (by omega)) (inR_of (by omega) (by omega)) (fun hc46 => ?_) (fun hc46 => ?_)
        · skip
          refine G_iload_n dX2_readNumber_67 rfl rfl ?_
          refine G_ireturn dX2_readNumber_68 rfl ?_
          have e : nmE tx len lo hi p = p + 1 := by unfold nmE; rw [if_neg (by omega), if_neg (by omega)]
          rw [e]
          exact ⟨by unfold nmV; rw [if_neg (by omega), if_neg (by omega)], hF, hS⟩
        · skip
          refine G_aload_n dX2_readNumber_49 rfl rfl ?_
          refine G_dup dX2_readNumber_50 ?_
          refine G_getf fl_X2_29 dX2_readNumber_51 (by assumption) rfl ?_
          refine G_iconst dX2_readNumber_54 ?_
          refine G_iadd dX2_readNumber_55 ?_
          refine G_putI (fs2 := [r_ (z + 1), i_ (len), r_ (z + 2), r_ (z + 3), r_ (z + 4), i_ (th), i_ (p + 1 + 1)]) fp_X2_29 dX2_readNumber_56 (by assumption) (Nat.le_of_ble_eq_true rfl) rfl ?_
          have hS := scAt.obj hS (len) (th) (p + 1 + 1)
          obtain ⟨hS0, hS1, hS2, hS3, hS4⟩ := id hS
          have hF := hF.tr (Fr.set (o := oScr z (len) (th) (p + 1 + 1)) (show z ≤ z by omega) (show z < z + 5 by omega))
          refine G_bipush dX2_readNumber_59 rfl ?_
          refine G_iload_n dX2_readNumber_61 rfl rfl ?_
          refine G_imul dX2_readNumber_62 ?_
          refine G_iload dX2_readNumber_63 rfl ?_
          refine G_iadd dX2_readNumber_65 ?_
          refine G_ireturn dX2_readNumber_66 rfl ?_
          have e : nmE tx len lo hi p = p + 1 + 1 := by unfold nmE; rw [if_neg (by omega), if_pos (by omega)]; omega
          rw [e]
          exact ⟨by unfold nmV; rw [if_neg (by omega), if_pos (by omega)], hF, hS⟩
  · skip
    refine G_iconst dX2_readNumber_10 ?_
    refine G_ireturn dX2_readNumber_11 rfl ?_
    have e : nmE tx len lo hi p = p := by unfold nmE; rw [if_pos (by omega)]
    rw [e]
    exact ⟨by unfold nmV; rw [if_pos (by omega)], hF, hS⟩
set_option maxRecDepth 100000 in
set_option maxHeartbeats 4000000 in
theorem c_X2_note (h : List PO) (z : Nat) (tx ki fi se : Int → Int) (len th p : Int) (k a b : Int) (hS : scAt h z tx len ki fi se th p) (hx : RG 0 65535 60 tx) (hl : 0 ≤ len ∧ len ≤ 60) (hth : 0 ≤ th ∧ th < 20) : PM 0 yX2_note cX2_note 4 (some .boolean) h [r_ z, i_ k, i_ a, i_ b] (fun r0 h2 => r0 = some (i_ 1) ∧ Fr h h2 z (z + 5) ∧ scAt h2 z tx len (fup ki th k) (fup fi th a) (fup se th b) (th + 1) p) := by
  refine PM_of_G RX2 [some (r_ z), some (i_ k), some (i_ a), some (i_ b)] rfl (by decide +kernel) (Nat.le_of_ble_eq_true rfl) rfl ?_
  obtain ⟨hS0, hS1, hS2, hS3, hS4⟩ := id hS
  have hF : Fr h h z (z + 5) := Fr.rf
  refine G_aload_n dX2_note_0 rfl rfl ?_
  refine G_getf fl_X2_32 dX2_note_1 (by assumption) rfl ?_
  refine G_if_lt (tgt := 16) dX2_note_4 (by decide) (inR_of (by omega) (by omega)) (fun hc4 => ?_) (fun hc4 => ?_)
  · skip
    exfalso; omega
  · skip
    refine G_aload_n dX2_note_7 rfl rfl ?_
    refine G_getf fl_X2_32 dX2_note_8 (by assumption) rfl ?_
    refine G_bipush dX2_note_11 rfl ?_
    refine G_icmp_lt (tgt := 18) dX2_note_13 (by decide) (inR_of (by omega) (by omega)) (inR_of (by omega) (by omega)) (fun hc13 => ?_) (fun hc13 => ?_)
    · skip
      refine G_aload_n dX2_note_18 rfl rfl ?_
      refine G_getf fl_X2_15 dX2_note_19 (by assumption) rfl ?_
      refine G_aload_n dX2_note_22 rfl rfl ?_
      refine G_getf fl_X2_32 dX2_note_23 (by assumption) rfl ?_
      refine G_iload_n dX2_note_26 rfl rfl ?_
      refine G_iast dX2_note_27 (by assumption) (by omega) (by omega) (by decide) rfl ?_
      have hS := hS.set2 (fup ki th k)
      obtain ⟨hS0, hS1, hS2, hS3, hS4⟩ := id hS
      have hF := hF.tr (Fr.set (o := oI 20 (fup ki th k)) (show z ≤ z + 2 by omega) (show z + 2 < z + 5 by omega))
      refine G_aload_n dX2_note_28 rfl rfl ?_
      refine G_getf fl_X2_19 dX2_note_29 (by assumption) rfl ?_
      refine G_aload_n dX2_note_32 rfl rfl ?_
      refine G_getf fl_X2_32 dX2_note_33 (by assumption) rfl ?_
      refine G_iload_n dX2_note_36 rfl rfl ?_
      refine G_iast dX2_note_37 (by assumption) (by omega) (by omega) (by decide) rfl ?_
      have hS := hS.set3 (fup fi th a)
      obtain ⟨hS0, hS1, hS2, hS3, hS4⟩ := id hS
      have hF := hF.tr (Fr.set (o := oI 20 (fup fi th a)) (show z ≤ z + 3 by omega) (show z + 3 < z + 5 by omega))
      refine G_aload_n dX2_note_38 rfl rfl ?_
      refine G_getf fl_X2_22 dX2_note_39 (by assumption) rfl ?_
      refine G_aload_n dX2_note_42 rfl rfl ?_
      refine G_getf fl_X2_32 dX2_note_43 (by assumption) rfl ?_
      refine G_iload_n dX2_note_46 rfl rfl ?_
      refine G_iast dX2_note_47 (by assumption) (by omega) (by omega) (by decide) rfl ?_
      have hS := hS.set4 (fup se th b)
      obtain ⟨hS0, hS1, hS2, hS3, hS4⟩ := id hS
      have hF := hF.tr (Fr.set (o := oI 20 (fup se th b)) (show z ≤ z + 4 by omega) (show z + 4 < z + 5 by omega))
      refine G_aload_n dX2_note_48 rfl rfl ?_
      refine G_dup dX2_note_49 ?_
      refine G_getf fl_X2_32 dX2_note_50 (by assumption) rfl ?_
      refine G_iconst dX2_note_53 ?_
      refine G_iadd dX2_note_54 ?_
      refine G_putI (fs2 := [r_ (z + 1), i_ (len), r_ (z + 2), r_ (z + 3), r_ (z + 4), i_ (th + 1), i_ (p)]) fp_X2_32 dX2_note_55 (by assumption) (Nat.le_of_ble_eq_true rfl) rfl ?_
      have hS := scAt.obj hS (len) (th + 1) (p)
      obtain ⟨hS0, hS1, hS2, hS3, hS4⟩ := id hS
      have hF := hF.tr (Fr.set (o := oScr z (len) (th + 1) (p)) (show z ≤ z by omega) (show z < z + 5 by omega))
      refine G_iconst dX2_note_58 ?_
      refine G_zreturn dX2_note_59 rfl (by first | exact Or.inl rfl | exact Or.inr rfl) ?_
      exact ⟨rfl, hF, hS⟩
    · skip
      exfalso; omega
set_option maxRecDepth 100000 in
set_option maxHeartbeats 4000000 in
theorem c_X2_readTide (h : List PO) (z : Nat) (tx ki fi se : Int → Int) (len th p : Int) (hS : scAt h z tx len ki fi se th p) (hx : RG 0 65535 60 tx) (hl : 0 ≤ len ∧ len ≤ 60) (hp : 0 ≤ p ∧ p ≤ len) (hth : 0 ≤ th ∧ (th < 20 ∨ len < p + 1)) : PM 3 yX2_readTide cX2_readTide 4 (some .boolean) h [r_ z] (fun r0 h2 => r0 = some (i_ (tideP tx len p).1) ∧ Fr h h2 z (z + 5) ∧ ((tideP tx len p).1 = 0 ∧ scAt h2 z tx len ki fi se th (tideP tx len p).2.1 ∨ (tideP tx len p).1 = 1 ∧ scAt h2 z tx len (fup ki th (tideP tx len p).2.2.1) (fup fi th (tideP tx len p).2.2.2.1) (fup se th (tideP tx len p).2.2.2.2) (th + 1) (tideP tx len p).2.1)) := by
  refine PM_of_G RX2 [some (r_ z), none, none, none] rfl (by decide +kernel) (Nat.le_of_ble_eq_true rfl) rfl ?_
  obtain ⟨hS0, hS1, hS2, hS3, hS4⟩ := id hS
  have hF : Fr h h z (z + 5) := Fr.rf
  have hq := hp
  refine G_aload_n dX2_readTide_0 rfl rfl ?_
  refine G_bipush dX2_readTide_1 rfl ?_
  refine G_callV (ci := 2) (as := [_]) (c_X2_pass _ z tx ki fi se len th (p) 45 hS hx hl (by omega) (by omega)) dX2_readTide_3 ml_X2_39 cv_X2_pass (by assumption) rfl rfl (Nat.le_of_ble_eq_true rfl) (Nat.le_of_ble_eq_true rfl) rfl (fun r h2 hp => ?_)
  obtain ⟨y1, p1, rfl, hG, hS, hy1⟩ := hp
  have hF := hF.tr hG
  obtain ⟨hS0, hS1, hS2, hS3, hS4⟩ := id hS
  refine G_istore_n dX2_readTide_6 rfl (by decide) rfl ?_
  refine G_aload_n dX2_readTide_7 rfl rfl ?_
  refine G_iconst dX2_readTide_8 ?_
  refine G_bipush dX2_readTide_9 rfl ?_
  refine G_callV (ci := 2) (as := [_, _]) (c_X2_readNumber _ z tx ki fi se len th (p1) 0 30 hS hx hl (by omega) (by omega) (by omega)) dX2_readTide_11 ml_X2_52 cv_X2_readNumber (by assumption) rfl rfl (Nat.le_of_ble_eq_true rfl) (Nat.le_of_ble_eq_true rfl) rfl (fun r h2 hp => ?_)
  obtain ⟨rfl, hG, hS⟩ := hp
  have hF := hF.tr hG
  have e1 : p1 = negA tx len p := by
    unfold negA
    rcases hy1 with q | q
    · rw [if_pos (by omega)]; omega
    · rw [if_neg (by omega)]; omega
  rw [e1] at hS ⊢
  obtain ⟨hS0, hS1, hS2, hS3, hS4⟩ := id hS
  have hna := negA_rng (tx := tx) hq.1 hq.2
  have hnm := nm_rng (tx := tx) (len := len) (lo := 0) (hi := 30) (p := negA tx len p) (by omega) (by omega) (by omega) (by omega)
  refine G_istore_n dX2_readTide_14 rfl (by decide) rfl ?_
  refine G_iload_n dX2_readTide_15 rfl rfl ?_
  refine G_iconst dX2_readTide_16 ?_
  refine G_icmp_ne (tgt := 22) dX2_readTide_17 (by decide) (inR_of (by omega) (by omega)) (inR_of (by omega) (by omega)) (fun hc17 => ?_) (fun hc17 => ?_)
  · skip
    refine G_iconst dX2_readTide_22 ?_
    refine G_istore_n dX2_readTide_23 rfl (by decide) rfl ?_
    refine G_aload_n dX2_readTide_24 rfl rfl ?_
    refine G_bipush dX2_readTide_25 rfl ?_
    refine G_callV (ci := 2) (as := [_]) (c_X2_pass _ z tx ki fi se len th (nmE tx len 0 30 (negA tx len p)) 42 hS hx hl (by omega) (by omega)) dX2_readTide_27 ml_X2_39 cv_X2_pass (by assumption) rfl rfl (Nat.le_of_ble_eq_true rfl) (Nat.le_of_ble_eq_true rfl) rfl (fun r h2 hp => ?_)
    obtain ⟨y2, p2, rfl, hG, hS, hy2⟩ := hp
    have hF := hF.tr hG
    obtain ⟨hS0, hS1, hS2, hS3, hS4⟩ := id hS
    refine G_if_eq (tgt := 48) dX2_readTide_30 (by decide) (inR_of (by omega) (by omega)) (fun hc30 => ?_) (fun hc30 => ?_)
    · skip
      have e2 : p2 = nmE tx len 0 30 (negA tx len p) := by omega
      subst e2
      refine G_aload_n dX2_readTide_48 rfl rfl ?_
      refine G_iconst dX2_readTide_49 ?_
      refine G_iload_n dX2_readTide_50 rfl rfl ?_
      refine G_if_eq (tgt := 59) dX2_readTide_51 (by decide) (inR_of (by omega) (by omega)) (fun hc51 => ?_) (fun hc51 => ?_)
      · skip
        refine G_iload_n dX2_readTide_59 rfl rfl ?_
        refine G_iload_n dX2_readTide_60 rfl rfl ?_
        refine G_callV (ci := 2) (as := [_, _, _]) (c_X2_note _ z tx ki fi se len th (nmE tx len 0 30 (negA tx len p)) (0) (nmV tx len 0 30 (negA tx len p)) (1) hS hx hl (by omega)) dX2_readTide_61 ml_X2_56 cv_X2_note (by assumption) rfl rfl (Nat.le_of_ble_eq_true rfl) (Nat.le_of_ble_eq_true rfl) rfl (fun r h2 hp => ?_)
        obtain ⟨rfl, hG, hS⟩ := hp
        have hF := hF.tr hG
        obtain ⟨hS0, hS1, hS2, hS3, hS4⟩ := id hS
        refine G_zreturn dX2_readTide_64 rfl (by first | exact Or.inl rfl | exact Or.inr rfl) ?_
        have e8 : negV tx len p (nmV tx len 0 30 (negA tx len p)) = nmV tx len 0 30 (negA tx len p) := by unfold negV; rw [if_neg (by omega)]
        have e9 : tideP tx len p = (1, nmE tx len 0 30 (negA tx len p), 0, negV tx len p (nmV tx len 0 30 (negA tx len p)), 1) := by unfold tideP; rw [if_neg (by omega), if_neg (by omega)]
        rw [e9]
        rw [e8]
        exact ⟨rfl, hF, Or.inr ⟨rfl, hS⟩⟩
      · skip
        refine G_iload_n dX2_readTide_54 rfl rfl ?_
        refine G_ineg dX2_readTide_55 ?_
        refine G_goto (tgt := 60) dX2_readTide_56 (by decide) ?_
        refine G_iload_n dX2_readTide_60 rfl rfl ?_
        refine G_callV (ci := 2) (as := [_, _, _]) (c_X2_note _ z tx ki fi se len th (nmE tx len 0 30 (negA tx len p)) (0) (-nmV tx len 0 30 (negA tx len p)) (1) hS hx hl (by omega)) dX2_readTide_61 ml_X2_56 cv_X2_note (by assumption) rfl rfl (Nat.le_of_ble_eq_true rfl) (Nat.le_of_ble_eq_true rfl) rfl (fun r h2 hp => ?_)
        obtain ⟨rfl, hG, hS⟩ := hp
        have hF := hF.tr hG
        obtain ⟨hS0, hS1, hS2, hS3, hS4⟩ := id hS
        refine G_zreturn dX2_readTide_64 rfl (by first | exact Or.inl rfl | exact Or.inr rfl) ?_
        have e8 : negV tx len p (nmV tx len 0 30 (negA tx len p)) = -nmV tx len 0 30 (negA tx len p) := by unfold negV; rw [if_pos (by omega)]
        have e9 : tideP tx len p = (1, nmE tx len 0 30 (negA tx len p), 0, negV tx len p (nmV tx len 0 30 (negA tx len p)), 1) := by unfold tideP; rw [if_neg (by omega), if_neg (by omega)]
        rw [e9]
        rw [e8]
        exact ⟨rfl, hF, Or.inr ⟨rfl, hS⟩⟩
    · skip
      refine G_aload_n dX2_readTide_33 rfl rfl ?_
      refine G_iconst dX2_readTide_34 ?_
      refine G_bipush dX2_readTide_35 rfl ?_
      refine G_callV (ci := 2) (as := [_, _]) (c_X2_readNumber _ z tx ki fi se len th (p2) 1 99 hS hx hl (by omega) (by omega) (by omega)) dX2_readTide_37 ml_X2_52 cv_X2_readNumber (by assumption) rfl rfl (Nat.le_of_ble_eq_true rfl) (Nat.le_of_ble_eq_true rfl) rfl (fun r h2 hp => ?_)
      obtain ⟨rfl, hG, hS⟩ := hp
      have hF := hF.tr hG
      have e2 : p2 = nmE tx len 0 30 (negA tx len p) + 1 := by omega
      subst e2
      obtain ⟨hS0, hS1, hS2, hS3, hS4⟩ := id hS
      have hnm2 := nm_rng (tx := tx) (len := len) (lo := 1) (hi := 99) (p := nmE tx len 0 30 (negA tx len p) + 1) (by omega) (by omega) (by omega) (by omega)
      refine G_istore_n dX2_readTide_40 rfl (by decide) rfl ?_
      refine G_iload_n dX2_readTide_41 rfl rfl ?_
      refine G_iconst dX2_readTide_42 ?_
      refine G_icmp_ne (tgt := 48) dX2_readTide_43 (by decide) (inR_of (by omega) (by omega)) (inR_of (by omega) (by omega)) (fun hc43 => ?_) (fun hc43 => ?_)
      · skip
        refine G_aload_n dX2_readTide_48 rfl rfl ?_
        refine G_iconst dX2_readTide_49 ?_
        refine G_iload_n dX2_readTide_50 rfl rfl ?_
        refine G_if_eq (tgt := 59) dX2_readTide_51 (by decide) (inR_of (by omega) (by omega)) (fun hc51 => ?_) (fun hc51 => ?_)
        · skip
          refine G_iload_n dX2_readTide_59 rfl rfl ?_
          refine G_iload_n dX2_readTide_60 rfl rfl ?_
          refine G_callV (ci := 2) (as := [_, _, _]) (c_X2_note _ z tx ki fi se len th (nmE tx len 1 99 (nmE tx len 0 30 (negA tx len p) + 1)) (0) (nmV tx len 0 30 (negA tx len p)) (nmV tx len 1 99 (nmE tx len 0 30 (negA tx len p) + 1)) hS hx hl (by omega)) dX2_readTide_61 ml_X2_56 cv_X2_note (by assumption) rfl rfl (Nat.le_of_ble_eq_true rfl) (Nat.le_of_ble_eq_true rfl) rfl (fun r h2 hp => ?_)
          obtain ⟨rfl, hG, hS⟩ := hp
          have hF := hF.tr hG
          obtain ⟨hS0, hS1, hS2, hS3, hS4⟩ := id hS
          refine G_zreturn dX2_readTide_64 rfl (by first | exact Or.inl rfl | exact Or.inr rfl) ?_
          have e8 : negV tx len p (nmV tx len 0 30 (negA tx len p)) = nmV tx len 0 30 (negA tx len p) := by unfold negV; rw [if_neg (by omega)]
          have e9 : tideP tx len p = (1, nmE tx len 1 99 (nmE tx len 0 30 (negA tx len p) + 1), 0, negV tx len p (nmV tx len 0 30 (negA tx len p)), nmV tx len 1 99 (nmE tx len 0 30 (negA tx len p) + 1)) := by unfold tideP; rw [if_neg (by omega), if_pos (by omega), if_neg (by omega)]
          rw [e9]
          rw [e8]
          exact ⟨rfl, hF, Or.inr ⟨rfl, hS⟩⟩
        · skip
          refine G_iload_n dX2_readTide_54 rfl rfl ?_
          refine G_ineg dX2_readTide_55 ?_
          refine G_goto (tgt := 60) dX2_readTide_56 (by decide) ?_
          refine G_iload_n dX2_readTide_60 rfl rfl ?_
          refine G_callV (ci := 2) (as := [_, _, _]) (c_X2_note _ z tx ki fi se len th (nmE tx len 1 99 (nmE tx len 0 30 (negA tx len p) + 1)) (0) (-nmV tx len 0 30 (negA tx len p)) (nmV tx len 1 99 (nmE tx len 0 30 (negA tx len p) + 1)) hS hx hl (by omega)) dX2_readTide_61 ml_X2_56 cv_X2_note (by assumption) rfl rfl (Nat.le_of_ble_eq_true rfl) (Nat.le_of_ble_eq_true rfl) rfl (fun r h2 hp => ?_)
          obtain ⟨rfl, hG, hS⟩ := hp
          have hF := hF.tr hG
          obtain ⟨hS0, hS1, hS2, hS3, hS4⟩ := id hS
          refine G_zreturn dX2_readTide_64 rfl (by first | exact Or.inl rfl | exact Or.inr rfl) ?_
          have e8 : negV tx len p (nmV tx len 0 30 (negA tx len p)) = -nmV tx len 0 30 (negA tx len p) := by unfold negV; rw [if_pos (by omega)]
          have e9 : tideP tx len p = (1, nmE tx len 1 99 (nmE tx len 0 30 (negA tx len p) + 1), 0, negV tx len p (nmV tx len 0 30 (negA tx len p)), nmV tx len 1 99 (nmE tx len 0 30 (negA tx len p) + 1)) := by unfold tideP; rw [if_neg (by omega), if_pos (by omega), if_neg (by omega)]
          rw [e9]
          rw [e8]
          exact ⟨rfl, hF, Or.inr ⟨rfl, hS⟩⟩
      · skip
        refine G_iconst dX2_readTide_46 ?_
        refine G_zreturn dX2_readTide_47 rfl (by first | exact Or.inl rfl | exact Or.inr rfl) ?_
        have e9 : tideP tx len p = (0, nmE tx len 1 99 (nmE tx len 0 30 (negA tx len p) + 1), 0, 0, 0) := by unfold tideP; rw [if_neg (by omega), if_pos (by omega), if_pos (by omega)]
        rw [e9]
        exact ⟨rfl, hF, Or.inl ⟨rfl, hS⟩⟩
  · skip
    refine G_iconst dX2_readTide_20 ?_
    refine G_zreturn dX2_readTide_21 rfl (by first | exact Or.inl rfl | exact Or.inr rfl) ?_
    have e9 : tideP tx len p = (0, nmE tx len 0 30 (negA tx len p), 0, 0, 0) := by unfold tideP; rw [if_pos (by omega)]
    rw [e9]
    exact ⟨rfl, hF, Or.inl ⟨rfl, hS⟩⟩
set_option maxRecDepth 100000 in
set_option maxHeartbeats 4000000 in
theorem c_X2_readFlow (h : List PO) (z : Nat) (tx ki fi se : Int → Int) (len th p : Int) (hS : scAt h z tx len ki fi se th p) (hx : RG 0 65535 60 tx) (hl : 0 ≤ len ∧ len ≤ 60) (hp : 0 ≤ p ∧ p ≤ len) (hth : 0 ≤ th ∧ (th < 20 ∨ len < p + 1)) : PM 3 yX2_readFlow cX2_readFlow 2 (some .boolean) h [r_ z] (fun r0 h2 => r0 = some (i_ (flowP tx len p).1) ∧ Fr h h2 z (z + 5) ∧ ((flowP tx len p).1 = 0 ∧ scAt h2 z tx len ki fi se th (flowP tx len p).2.1 ∨ (flowP tx len p).1 = 1 ∧ scAt h2 z tx len (fup ki th (flowP tx len p).2.2.1) (fup fi th (flowP tx len p).2.2.2.1) (fup se th (flowP tx len p).2.2.2.2) (th + 1) (flowP tx len p).2.1)) := by
  refine PM_of_G RX2 [some (r_ z), none] rfl (by decide +kernel) (Nat.le_of_ble_eq_true rfl) rfl ?_
  obtain ⟨hS0, hS1, hS2, hS3, hS4⟩ := id hS
  have hF : Fr h h z (z + 5) := Fr.rf
  have hnm := nm_rng (tx := tx) (len := len) (lo := 0) (hi := 99) (p := p) (by omega) (by omega) (by omega) (by omega)
  refine G_aload_n dX2_readFlow_0 rfl rfl ?_
  refine G_iconst dX2_readFlow_1 ?_
  refine G_bipush dX2_readFlow_2 rfl ?_
  refine G_callV (ci := 2) (as := [_, _]) (c_X2_readNumber _ z tx ki fi se len th (p) 0 99 hS hx hl (by omega) (by omega) (by omega)) dX2_readFlow_4 ml_X2_52 cv_X2_readNumber (by assumption) rfl rfl (Nat.le_of_ble_eq_true rfl) (Nat.le_of_ble_eq_true rfl) rfl (fun r h2 hp => ?_)
  obtain ⟨rfl, hG, hS⟩ := hp
  have hF := hF.tr hG
  obtain ⟨hS0, hS1, hS2, hS3, hS4⟩ := id hS
  refine G_istore_n dX2_readFlow_7 rfl (by decide) rfl ?_
  refine G_iload_n dX2_readFlow_8 rfl rfl ?_
  refine G_iconst dX2_readFlow_9 ?_
  refine G_icmp_eq (tgt := 27) dX2_readFlow_10 (by decide) (inR_of (by omega) (by omega)) (inR_of (by omega) (by omega)) (fun hc10 => ?_) (fun hc10 => ?_)
  · skip
    refine G_iconst dX2_readFlow_27 ?_
    refine G_zreturn dX2_readFlow_28 rfl (by first | exact Or.inl rfl | exact Or.inr rfl) ?_
    first
      | (have e9 : flowP tx len p = (0, nmE tx len 0 99 p, 0, 0, 0) := by unfold flowP; rw [if_pos (by omega)]
         rw [e9]
         exact ⟨rfl, hF, Or.inl ⟨rfl, hS⟩⟩)
      | (have e9 : flowP tx len p = (1, nmE tx len 0 99 p, 1, nmV tx len 0 99 p, 0) := by unfold flowP; rw [if_neg (by omega)]
         rw [e9]
         exact ⟨rfl, hF, Or.inr ⟨rfl, hS⟩⟩)
  · skip
    refine G_aload_n dX2_readFlow_13 rfl rfl ?_
    refine G_iconst dX2_readFlow_14 ?_
    refine G_iload_n dX2_readFlow_15 rfl rfl ?_
    refine G_iconst dX2_readFlow_16 ?_
    refine G_callV (ci := 2) (as := [_, _, _]) (c_X2_note _ z tx ki fi se len th (nmE tx len 0 99 p) (1) (nmV tx len 0 99 p) (0) hS hx hl (by omega)) dX2_readFlow_17 ml_X2_56 cv_X2_note (by assumption) rfl rfl (Nat.le_of_ble_eq_true rfl) (Nat.le_of_ble_eq_true rfl) rfl (fun r h2 hp => ?_)
    obtain ⟨rfl, hG, hS⟩ := hp
    have hF := hF.tr hG
    obtain ⟨hS0, hS1, hS2, hS3, hS4⟩ := id hS
    refine G_if_eq (tgt := 27) dX2_readFlow_20 (by decide) (inR_of (by omega) (by omega)) (fun hc20 => ?_) (fun hc20 => ?_)
    · skip
      exfalso; omega
    · skip
      refine G_iconst dX2_readFlow_23 ?_
      refine G_goto (tgt := 28) dX2_readFlow_24 (by decide) ?_
      refine G_zreturn dX2_readFlow_28 rfl (by first | exact Or.inl rfl | exact Or.inr rfl) ?_
      first
        | (have e9 : flowP tx len p = (0, nmE tx len 0 99 p, 0, 0, 0) := by unfold flowP; rw [if_pos (by omega)]
           rw [e9]
           exact ⟨rfl, hF, Or.inl ⟨rfl, hS⟩⟩)
        | (have e9 : flowP tx len p = (1, nmE tx len 0 99 p, 1, nmV tx len 0 99 p, 0) := by unfold flowP; rw [if_neg (by omega)]
           rw [e9]
           exact ⟨rfl, hF, Or.inr ⟨rfl, hS⟩⟩)
set_option maxRecDepth 100000 in
set_option maxHeartbeats 4000000 in
theorem c_X2_readSill (h : List PO) (z : Nat) (tx ki fi se : Int → Int) (len th p : Int) (hS : scAt h z tx len ki fi se th p) (hx : RG 0 65535 60 tx) (hl : 0 ≤ len ∧ len ≤ 60) (hp : 0 ≤ p ∧ p ≤ len) (hth : 0 ≤ th ∧ (th < 20 ∨ len < p + 1)) : PM 3 yX2_readSill cX2_readSill 3 (some .boolean) h [r_ z] (fun r0 h2 => r0 = some (i_ (sillP tx len p).1) ∧ Fr h h2 z (z + 5) ∧ ((sillP tx len p).1 = 0 ∧ scAt h2 z tx len ki fi se th (sillP tx len p).2.1 ∨ (sillP tx len p).1 = 1 ∧ scAt h2 z tx len (fup ki th (sillP tx len p).2.2.1) (fup fi th (sillP tx len p).2.2.2.1) (fup se th (sillP tx len p).2.2.2.2) (th + 1) (sillP tx len p).2.1)) := by
  refine PM_of_G RX2 [some (r_ z), none, none] rfl (by decide +kernel) (Nat.le_of_ble_eq_true rfl) rfl ?_
  obtain ⟨hS0, hS1, hS2, hS3, hS4⟩ := id hS
  have hF : Fr h h z (z + 5) := Fr.rf
  have hnm := nm_rng (tx := tx) (len := len) (lo := 0) (hi := 39) (p := p) (by omega) (by omega) (by omega) (by omega)
  refine G_aload_n dX2_readSill_0 rfl rfl ?_
  refine G_iconst dX2_readSill_1 ?_
  refine G_bipush dX2_readSill_2 rfl ?_
  refine G_callV (ci := 2) (as := [_, _]) (c_X2_readNumber _ z tx ki fi se len th (p) 0 39 hS hx hl (by omega) (by omega) (by omega)) dX2_readSill_4 ml_X2_52 cv_X2_readNumber (by assumption) rfl rfl (Nat.le_of_ble_eq_true rfl) (Nat.le_of_ble_eq_true rfl) rfl (fun r h2 hp => ?_)
  obtain ⟨rfl, hG, hS⟩ := hp
  have hF := hF.tr hG
  obtain ⟨hS0, hS1, hS2, hS3, hS4⟩ := id hS
  refine G_istore_n dX2_readSill_7 rfl (by decide) rfl ?_
  refine G_iload_n dX2_readSill_8 rfl rfl ?_
  refine G_iconst dX2_readSill_9 ?_
  refine G_icmp_eq (tgt := 22) dX2_readSill_10 (by decide) (inR_of (by omega) (by omega)) (inR_of (by omega) (by omega)) (fun hc10 => ?_) (fun hc10 => ?_)
  · skip
    refine G_iconst dX2_readSill_22 ?_
    refine G_zreturn dX2_readSill_23 rfl (by first | exact Or.inl rfl | exact Or.inr rfl) ?_
    first
      | (have e9 : sillP tx len p = (0, nmE tx len 0 39 p, 0, 0, 0) := by unfold sillP; rw [if_pos (by omega)]
         rw [e9]
         exact ⟨rfl, hF, Or.inl ⟨rfl, hS⟩⟩)
      | (have e2 : p2 = nmE tx len 0 39 p := by omega
         subst e2
         have e9 : sillP tx len p = (0, nmE tx len 0 39 p, 0, 0, 0) := by unfold sillP; rw [if_neg (by omega), if_neg (by omega)]
         rw [e9]
         exact ⟨rfl, hF, Or.inl ⟨rfl, hS⟩⟩)
  · skip
    refine G_aload_n dX2_readSill_13 rfl rfl ?_
    refine G_bipush dX2_readSill_14 rfl ?_
    refine G_callV (ci := 2) (as := [_]) (c_X2_pass _ z tx ki fi se len th (nmE tx len 0 39 p) 61 hS hx hl (by omega) (by omega)) dX2_readSill_16 ml_X2_39 cv_X2_pass (by assumption) rfl rfl (Nat.le_of_ble_eq_true rfl) (Nat.le_of_ble_eq_true rfl) rfl (fun r h2 hp => ?_)
    obtain ⟨y2, p2, rfl, hG, hS, hy2⟩ := hp
    have hF := hF.tr hG
    obtain ⟨hS0, hS1, hS2, hS3, hS4⟩ := id hS
    refine G_if_ne (tgt := 24) dX2_readSill_19 (by decide) (inR_of (by omega) (by omega)) (fun hc19 => ?_) (fun hc19 => ?_)
    · skip
      refine G_aload_n dX2_readSill_24 rfl rfl ?_
      refine G_iconst dX2_readSill_25 ?_
      refine G_bipush dX2_readSill_26 rfl ?_
      refine G_callV (ci := 2) (as := [_, _]) (c_X2_readNumber _ z tx ki fi se len th (p2) 0 60 hS hx hl (by omega) (by omega) (by omega)) dX2_readSill_28 ml_X2_52 cv_X2_readNumber (by assumption) rfl rfl (Nat.le_of_ble_eq_true rfl) (Nat.le_of_ble_eq_true rfl) rfl (fun r h2 hp => ?_)
      obtain ⟨rfl, hG, hS⟩ := hp
      have hF := hF.tr hG
      have e2 : p2 = nmE tx len 0 39 p + 1 := by omega
      subst e2
      obtain ⟨hS0, hS1, hS2, hS3, hS4⟩ := id hS
      have hnm2 := nm_rng (tx := tx) (len := len) (lo := 0) (hi := 60) (p := nmE tx len 0 39 p + 1) (by omega) (by omega) (by omega) (by omega)
      refine G_istore_n dX2_readSill_31 rfl (by decide) rfl ?_
      refine G_iload_n dX2_readSill_32 rfl rfl ?_
      refine G_iconst dX2_readSill_33 ?_
      refine G_icmp_eq (tgt := 51) dX2_readSill_34 (by decide) (inR_of (by omega) (by omega)) (inR_of (by omega) (by omega)) (fun hc34 => ?_) (fun hc34 => ?_)
      · skip
        refine G_iconst dX2_readSill_51 ?_
        refine G_zreturn dX2_readSill_52 rfl (by first | exact Or.inl rfl | exact Or.inr rfl) ?_
        first
          | (have e9 : sillP tx len p = (0, nmE tx len 0 60 (nmE tx len 0 39 p + 1), 0, 0, 0) := by unfold sillP; rw [if_neg (by omega), if_pos (by omega), if_pos (by omega)]
             rw [e9]
             exact ⟨rfl, hF, Or.inl ⟨rfl, hS⟩⟩)
          | (have e9 : sillP tx len p = (1, nmE tx len 0 60 (nmE tx len 0 39 p + 1), 2, nmV tx len 0 39 p, nmV tx len 0 60 (nmE tx len 0 39 p + 1)) := by unfold sillP; rw [if_neg (by omega), if_pos (by omega), if_neg (by omega)]
             rw [e9]
             exact ⟨rfl, hF, Or.inr ⟨rfl, hS⟩⟩)
      · skip
        refine G_aload_n dX2_readSill_37 rfl rfl ?_
        refine G_iconst dX2_readSill_38 ?_
        refine G_iload_n dX2_readSill_39 rfl rfl ?_
        refine G_iload_n dX2_readSill_40 rfl rfl ?_
        refine G_callV (ci := 2) (as := [_, _, _]) (c_X2_note _ z tx ki fi se len th (nmE tx len 0 60 (nmE tx len 0 39 p + 1)) (2) (nmV tx len 0 39 p) (nmV tx len 0 60 (nmE tx len 0 39 p + 1)) hS hx hl (by omega)) dX2_readSill_41 ml_X2_56 cv_X2_note (by assumption) rfl rfl (Nat.le_of_ble_eq_true rfl) (Nat.le_of_ble_eq_true rfl) rfl (fun r h2 hp => ?_)
        obtain ⟨rfl, hG, hS⟩ := hp
        have hF := hF.tr hG
        obtain ⟨hS0, hS1, hS2, hS3, hS4⟩ := id hS
        refine G_if_eq (tgt := 51) dX2_readSill_44 (by decide) (inR_of (by omega) (by omega)) (fun hc44 => ?_) (fun hc44 => ?_)
        · skip
          exfalso; omega
        · skip
          refine G_iconst dX2_readSill_47 ?_
          refine G_goto (tgt := 52) dX2_readSill_48 (by decide) ?_
          refine G_zreturn dX2_readSill_52 rfl (by first | exact Or.inl rfl | exact Or.inr rfl) ?_
          first
            | (have e9 : sillP tx len p = (0, nmE tx len 0 60 (nmE tx len 0 39 p + 1), 0, 0, 0) := by unfold sillP; rw [if_neg (by omega), if_pos (by omega), if_pos (by omega)]
               rw [e9]
               exact ⟨rfl, hF, Or.inl ⟨rfl, hS⟩⟩)
            | (have e9 : sillP tx len p = (1, nmE tx len 0 60 (nmE tx len 0 39 p + 1), 2, nmV tx len 0 39 p, nmV tx len 0 60 (nmE tx len 0 39 p + 1)) := by unfold sillP; rw [if_neg (by omega), if_pos (by omega), if_neg (by omega)]
               rw [e9]
               exact ⟨rfl, hF, Or.inr ⟨rfl, hS⟩⟩)
    · skip
      refine G_iconst dX2_readSill_22 ?_
      refine G_zreturn dX2_readSill_23 rfl (by first | exact Or.inl rfl | exact Or.inr rfl) ?_
      first
        | (have e9 : sillP tx len p = (0, nmE tx len 0 39 p, 0, 0, 0) := by unfold sillP; rw [if_pos (by omega)]
           rw [e9]
           exact ⟨rfl, hF, Or.inl ⟨rfl, hS⟩⟩)
        | (have e2 : p2 = nmE tx len 0 39 p := by omega
           subst e2
           have e9 : sillP tx len p = (0, nmE tx len 0 39 p, 0, 0, 0) := by unfold sillP; rw [if_neg (by omega), if_neg (by omega)]
           rw [e9]
           exact ⟨rfl, hF, Or.inl ⟨rfl, hS⟩⟩)
