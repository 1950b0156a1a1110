def staF (h : List PO) (k : Nat) (d s e w c r sa z dr t : Int → Int) (n : Int) (se : Int → Int) (x y f : Int) : Prop := h[k]? = some (oO 3 [r_ (k + 1), r_ (k + 6), r_ (k + 13), i_ x, i_ y, i_ f]) ∧ bedAt h (k + 1) d s e w ∧ welF h (k + 6) c r sa z dr t n ∧ h[k + 13]? = some (oI 3 se)
theorem staF.bed {h h2 : List PO} {k : Nat} {d s e w c r sa z dr t : Int → Int} {n : Int} {se : Int → Int} {x y f : Int} {d2 s2 e2 w2 : Int → Int} (a : staF h k d s e w c r sa z dr t n se x y f) (q : Fr h h2 (k + 1) (k + 1 + 5)) (b : bedAt h2 (k + 1) d2 s2 e2 w2) : staF h2 k d2 s2 e2 w2 c r sa z dr t n se x y f :=
  ⟨q.at' a.1 (by omega), b, a.2.2.1.fr q (by omega), q.at' a.2.2.2 (by omega)⟩
theorem staF.wel {h h2 : List PO} {k : Nat} {d s e w c r sa z dr t : Int → Int} {n : Int} {se : Int → Int} {x y f : Int} {c2 r2 sa2 z2 dr2 t2 : Int → Int} {n2 : Int} (a : staF h k d s e w c r sa z dr t n se x y f) (q : Fr h h2 (k + 6) (k + 6 + 7)) (b : welF h2 (k + 6) c2 r2 sa2 z2 dr2 t2 n2) : staF h2 k d s e w c2 r2 sa2 z2 dr2 t2 n2 se x y f :=
  ⟨q.at' a.1 (by omega), a.2.1.fr q (by omega), b, q.at' a.2.2.2 (by omega)⟩
theorem staF.obj {h : List PO} {k : Nat} {d s e w c r sa z dr t : Int → Int} {n : Int} {se : Int → Int} {x y f : Int} (a : staF h k d s e w c r sa z dr t n se x y f) (x2 y2 f2 : Int) : staF (h.set k (oO 3 [r_ (k + 1), r_ (k + 6), r_ (k + 13), i_ x2, i_ y2, i_ f2])) k d s e w c r sa z dr t n se x2 y2 f2 :=
  ⟨set_at a.1, a.2.1.fr (Fr.set (lo := k) (hi := k + 1) (by omega) (by omega)) (by omega), a.2.2.1.fr (Fr.set (lo := k) (hi := k + 1) (by omega) (by omega)) (by omega), set_off a.2.2.2 (by omega)⟩
theorem staF.sets {h : List PO} {k : Nat} {d s e w c r sa z dr t : Int → Int} {n : Int} {se : Int → Int} {x y f : Int} (a : staF h k d s e w c r sa z dr t n se x y f) (q : Int → Int) : staF (h.set (k + 13) (oI 3 q)) k d s e w c r sa z dr t n q x y f :=
  ⟨set_off a.1 (by omega), a.2.1.fr (Fr.set (lo := k + 13) (hi := k + 14) (by omega) (by omega)) (by omega), a.2.2.1.fr (Fr.set (lo := k + 13) (hi := k + 14) (by omega) (by omega)) (by omega), set_at a.2.2.2⟩
theorem staF.fr {h h2 : List PO} {k lo hi : Nat} {d s e w c r sa z dr t : Int → Int} {n : Int} {se : Int → Int} {x y f : Int} (a : staF h k d s e w c r sa z dr t n se x y f) (q : Fr h h2 lo hi) (b : k + 14 ≤ lo ∨ hi ≤ k) : staF h2 k d s e w c r sa z dr t n se x y f :=
  ⟨q.at' a.1 (by omega), a.2.1.fr q (by omega), a.2.2.1.fr q (by omega), q.at' a.2.2.2 (by omega)⟩
/-- one tide -/
def pushI (v : SV) (rise : Int) : Int := v 10 0 + rise - v 11 1
def tideH (rise : Int) (v : SV) : Int → Int := heiF (pushI v rise) (v 10 1) (v 10 2) (v 0) (v 1) (v 2)
def tideS (rise : Int) (v : SV) : Int → Int := salF (v 0) (v 1) (tideH rise v) (v 4) (v 5) (v 7) (v 11 0) (v 6)
def tideV (rise : Int) (v : SV) : SV := fun i => match i with
  | 2 => tideH rise v
  | 3 => wetF (tideH rise v) (v 3)
  | 6 => tideS rise v
  | 7 => resF (tideS rise v) (v 11 0) (v 7)
  | 8 => draF (v 5) (v 7) (v 11 0) (v 8)
  | 9 => turF (tideS rise v) (v 7) (v 11 0) (v 9)
  | 11 => fun j => if j = 2 then v 11 2 + 1 else if j = 3 then max (v 11 3) (reachN (tideH rise v) 40) else v 11 j
  | j => v j
def itV (rise : Int) (v : SV) : Nat → SV
  | 0 => v
  | n + 1 => tideV rise (itV rise v n)
theorem reachN_rng {q : Int → Int} : ∀ n : Nat, -5 ≤ reachN q n ∧ reachN q n < n := by
  intro n
  induction n with
  | zero => exact ⟨by show (-5 : Int) ≤ -5; omega, by show (-5 : Int) < 0; omega⟩
  | succ n ih =>
    show -5 ≤ (if 0 < q n then (n : Int) else reachN q n) ∧ (if 0 < q n then (n : Int) else reachN q n) < ((n + 1 : Nat) : Int)
    by_cases e : 0 < q n
    · rw [if_pos e]; omega
    · rw [if_neg e]; omega
theorem OK.tide {v : SV} {rise : Int} (h : OK v) : OK (tideV rise v) := by
  obtain ⟨⟨hrd, hrs, hrh⟩, hset, ⟨hn, hf, hfa⟩, ⟨hc, hr, hs, hz⟩, h49, hdi⟩ := h
  have hH : RG 0 60 40 (tideH rise v) := heiF_rng hrd hrs hrh hset.2.2.1
  have key : ∀ w : Int, 0 ≤ w → w < v 11 0 → 0 ≤ tideS rise v w ∧ tideS rise v w ≤ 300 ∧ (v 7 w = 0 → tideS rise v w ≤ 250) := by
    intro w w0 w1
    have a := hs w w0 w1
    have b := hz w w0 w1
    have c9 := h49 w w0 w1
    unfold tideS salF
    rw [if_pos ⟨w0, w1⟩]
    by_cases q : v 7 w = 0
    · rw [if_pos q]
      have e1 := hc w w0 w1
      have e2 := conI_rng (c := v 4) (z := v 7) (w := w) hr
      have e3 := hrd (v 4 w) (by omega) (by omega)
      have e4 := hrs (v 4 w) (by omega) (by omega)
      have e5 := hH (v 4 w) (by omega) (by omega)
      have e6 : exF (v 0) (v 1) (tideH rise v) (v 4) (v 5) (v 7) (v 11 0) w ≤ 149 := by unfold exF; omega
      have e7 := c9 q
      unfold sbI
      by_cases q2 : 0 < exF (v 0) (v 1) (tideH rise v) (v 4) (v 5) (v 7) (v 11 0) w
      · rw [if_pos q2]; omega
      · rw [if_neg q2]; omega
    · rw [if_neg q]
      unfold sbI
      rw [if_neg (by omega)]
      omega
  refine ⟨⟨hrd, hrs, hH⟩, hset, ⟨hn, hf, ?_⟩, ⟨hc, hr, fun w w0 w1 => ⟨(key w w0 w1).1, (key w w0 w1).2.1⟩, ?_⟩, ?_, hdi⟩
  · have a := reachN_rng (q := tideH rise v) 40
    show -5 ≤ max (v 11 3) (reachN (tideH rise v) 40) ∧ max (v 11 3) (reachN (tideH rise v) 40) ≤ 39
    omega
  · intro w w0 w1
    have w1' : w < v 11 0 := w1
    have b := hz w w0 w1'
    show 0 ≤ resF (tideS rise v) (v 11 0) (v 7) w ∧ resF (tideS rise v) (v 11 0) (v 7) w ≤ 1
    unfold resF
    rw [if_pos ⟨w0, w1'⟩]
    by_cases q : v 7 w = 0 ∧ 50 ≤ tideS rise v w
    · rw [if_pos q]; omega
    · rw [if_neg q]
      by_cases q2 : tideS rise v w = 0
      · rw [if_pos q2]; omega
      · rw [if_neg q2]; omega
  · intro w w0 w1 e
    have w1' : w < v 11 0 := w1
    have e' : resF (tideS rise v) (v 11 0) (v 7) w = 0 := e
    show tideS rise v w ≤ 49
    unfold resF at e'
    rw [if_pos ⟨w0, w1'⟩] at e'
    by_cases q : v 7 w = 0 ∧ 50 ≤ tideS rise v w
    · rw [if_pos q] at e'; omega
    · rw [if_neg q] at e'
      by_cases q2 : tideS rise v w = 0
      · omega
      · rw [if_neg q2] at e'; omega
theorem OK.it {v : SV} {rise : Int} (h : OK v) : ∀ n : Nat, OK (itV rise v n) := by
  intro n
  induction n with
  | zero => exact h
  | succ n ih => exact ih.tide
theorem itV_tides {v : SV} {rise : Int} : ∀ n : Nat, itV rise v n 11 2 = v 11 2 + n := by
  intro n
  induction n with
  | zero => show v 11 2 = _; omega
  | succ n ih =>
    show itV rise v n 11 2 + 1 = _
    rw [ih]; omega
def flowR (v : SV) (q : Int) : Int := if ¬ (0 ≤ q ∧ q ≤ 99) then -2 else if v 11 1 = q then -5 else v 11 1
def flowV (v : SV) (q : Int) : SV := if 0 ≤ flowR v q then vset v 11 (fup (v 11) 1 q) else v
def setR (v : SV) (w q : Int) : Int := if ¬ (0 ≤ w ∧ w < 3) then -1 else if q < leastF w ∨ mostF w < q then -2 else if v 10 w = q then -5 else v 10 w
def setV (v : SV) (w q : Int) : SV := if 0 ≤ setR v w q then vset v 10 (fup (v 10) w q) else v
def tidesR (v : SV) (rise times : Int) : Int := if ¬ ((-30 ≤ rise ∧ rise ≤ 30) ∧ (1 ≤ times ∧ times ≤ 99)) then -2 else if 99999 < v 11 2 + times then -3 else sumN (wetI (itV rise v times.toNat 2)) 40
def tidesV (v : SV) (rise times : Int) : SV := if 0 ≤ tidesR v rise times then itV rise v times.toNat else v
def lfN (v : SV) (c rise : Int) : Nat → Int
  | 0 => -5
  | n + 1 => if mkI (v 10 0 + rise - (99 - n)) (v 10 1) (v 1) (v 0) c = 0 then 99 - n else lfN v c rise n
theorem lfN_s {v : SV} {c rise i : Int} (h0 : 0 ≤ i) (h1 : i ≤ 99) : lfN v c rise (100 - i).toNat = if mkI (v 10 0 + rise - i) (v 10 1) (v 1) (v 0) c = 0 then i else lfN v c rise (100 - (i + 1)).toNat := by
  have e : (100 - i).toNat = (100 - (i + 1)).toNat + 1 := by omega
  have e2 : (99 : Int) - ((100 - (i + 1)).toNat : Nat) = i := by omega
  rw [e]
  show (if _ then _ else _) = _
  rw [e2]
theorem least_rng (w : Int) : 0 ≤ leastF w ∧ leastF w ≤ 1 ∧ 9 ≤ mostF w ∧ mostF w ≤ 60 := by
  unfold leastF mostF
  by_cases a : w = 2
  · rw [if_pos a, if_neg (by omega)]; omega
  · rw [if_neg a]
    by_cases b : w = 1
    · rw [if_pos b]; omega
    · rw [if_neg b]; omega
set_option maxRecDepth 100000 in
set_option maxHeartbeats 4000000 in
theorem c_X3_slope (h : List PO) (k : Nat) (v : SV) (hA : stAt h k v) : PM 0 yX3_slope cX3_slope 1 (some .int) h [r_ k] (fun r0 h2 => r0 = some (i_ (v 10 1)) ∧ h = h2) := by
  refine PM_of_G RX3 [some (r_ k)] rfl (by decide +kernel) (Nat.le_of_ble_eq_true rfl) rfl ?_
  obtain ⟨hA0, hAb, hAw, hAs⟩ := id hA
  obtain ⟨hB0, hB1, hB2, hB3, hB4⟩ := id hAb
  obtain ⟨hW0, hW1, hW2, hW3, hW4, hW5, hW6⟩ := id hAw
  refine G_aload_n dX3_slope_0 rfl rfl ?_
  refine G_getf fl_X3_25 dX3_slope_1 (by assumption) rfl ?_
  refine G_iconst dX3_slope_4 ?_
  refine G_iald dX3_slope_5 (by assumption) (by omega) (by omega) (by decide) ?_
  refine G_ireturn dX3_slope_6 rfl ?_
  exact ⟨rfl, rfl⟩
set_option maxRecDepth 100000 in
set_option maxHeartbeats 4000000 in
theorem c_X3_pushWith (h : List PO) (k : Nat) (v : SV) (river rise : Int) (hA : stAt h k v) : PM 0 yX3_pushWith cX3_pushWith 3 (some .int) h [r_ k, i_ river, i_ rise] (fun r0 h2 => r0 = some (i_ (v 10 0 + rise - river)) ∧ h = h2) := by
  refine PM_of_G RX3 [some (r_ k), some (i_ river), some (i_ rise)] rfl (by decide +kernel) (Nat.le_of_ble_eq_true rfl) rfl ?_
  obtain ⟨hA0, hAb, hAw, hAs⟩ := id hA
  obtain ⟨hB0, hB1, hB2, hB3, hB4⟩ := id hAb
  obtain ⟨hW0, hW1, hW2, hW3, hW4, hW5, hW6⟩ := id hAw
  refine G_aload_n dX3_pushWith_0 rfl rfl ?_
  refine G_getf fl_X3_25 dX3_pushWith_1 (by assumption) rfl ?_
  refine G_iconst dX3_pushWith_4 ?_
  refine G_iald dX3_pushWith_5 (by assumption) (by omega) (by omega) (by decide) ?_
  refine G_iload_n dX3_pushWith_6 rfl rfl ?_
  refine G_iadd dX3_pushWith_7 ?_
  refine G_iload_n dX3_pushWith_8 rfl rfl ?_
  refine G_isub dX3_pushWith_9 ?_
  refine G_ireturn dX3_pushWith_10 rfl ?_
  exact ⟨rfl, rfl⟩
set_option maxRecDepth 100000 in
set_option maxHeartbeats 4000000 in
theorem c_X3_pushOf (h : List PO) (k : Nat) (v : SV) (rise : Int) (hA : stAt h k v) : PM 1 yX3_pushOf cX3_pushOf 2 (some .int) h [r_ k, i_ rise] (fun r0 h2 => r0 = some (i_ (pushI v rise)) ∧ h = h2) := by
  refine PM_of_G RX3 [some (r_ k), some (i_ rise)] rfl (by decide +kernel) (Nat.le_of_ble_eq_true rfl) rfl ?_
  obtain ⟨hA0, hAb, hAw, hAs⟩ := id hA
  obtain ⟨hB0, hB1, hB2, hB3, hB4⟩ := id hAb
  obtain ⟨hW0, hW1, hW2, hW3, hW4, hW5, hW6⟩ := id hAw
  refine G_aload_n dX3_pushOf_0 rfl rfl ?_
  refine G_aload_n dX3_pushOf_1 rfl rfl ?_
  refine G_getf fl_X3_29 dX3_pushOf_2 (by assumption) rfl ?_
  refine G_iload_n dX3_pushOf_5 rfl rfl ?_
  refine G_callV (ci := 3) (as := [_, _]) (c_X3_pushWith h k v _ rise hA) dX3_pushOf_6 ml_X3_58 cv_X3_pushWith (by assumption) rfl rfl (Nat.le_of_ble_eq_true rfl) (Nat.le_of_ble_eq_true rfl) rfl (fun r h2 hp => ?_)
  obtain ⟨rfl, rfl⟩ := hp
  refine G_ireturn dX3_pushOf_9 rfl ?_
  exact ⟨rfl, rfl⟩
set_option maxRecDepth 100000 in
set_option maxHeartbeats 4000000 in
theorem c_X3_changeFlow (h : List PO) (k : Nat) (v : SV) (q : Int) (hA : stAt h k v) (hV : OK v) (hq : inR q) : PM 0 yX3_changeFlow cX3_changeFlow 3 (some .int) h [r_ k, i_ q] (fun r0 h2 => r0 = some (i_ (flowR v q)) ∧ Fr h h2 k (k + 14) ∧ stAt h2 k (flowV v q)) := by
  refine PM_of_G RX3 [some (r_ k), some (i_ q), none] rfl (by decide +kernel) (Nat.le_of_ble_eq_true rfl) rfl ?_
  obtain ⟨⟨hrd, hrs, hrh⟩, ⟨hs0, hs1, hs2⟩, ⟨hn, hf, hfa⟩, ⟨hc, hr, hs, hz⟩, h49, hdi⟩ := id hV
  obtain ⟨hA0, hAb, hAw, hAs⟩ := id hA
  obtain ⟨hB0, hB1, hB2, hB3, hB4⟩ := id hAb
  obtain ⟨hW0, hW1, hW2, hW3, hW4, hW5, hW6⟩ := id hAw
  have hq1 := hq.1
  have hq2 := hq.2
  refine G_iload_n dX3_changeFlow_0 rfl rfl ?_
  refine G_if_lt (tgt := 10) dX3_changeFlow_1 (by decide) (inR_of (by omega) (by omega)) (fun hc1 => ?_) (fun hc1 => ?_)
  · skip
    refine G_bipush dX3_changeFlow_10 rfl ?_
    refine G_ireturn dX3_changeFlow_12 rfl ?_
    have e : flowR v q = -2 := by unfold flowR; rw [if_pos (by omega)]
    have e2 : flowV v q = v := by unfold flowV; rw [if_neg (by omega)]
    rw [e2]
    exact ⟨by rw [e], Fr.rf, hA⟩
  · skip
    refine G_iload_n dX3_changeFlow_4 rfl rfl ?_
    refine G_bipush dX3_changeFlow_5 rfl ?_
    refine G_icmp_le (tgt := 13) dX3_changeFlow_7 (by decide) (inR_of (by omega) (by omega)) (inR_of (by omega) (by omega)) (fun hc7 => ?_) (fun hc7 => ?_)
    · skip
      refine G_aload_n dX3_changeFlow_13 rfl rfl ?_
      refine G_getf fl_X3_29 dX3_changeFlow_14 (by assumption) rfl ?_
      refine G_istore_n dX3_changeFlow_17 rfl (by decide) rfl ?_
      refine G_aload_n dX3_changeFlow_18 rfl rfl ?_
      refine G_iload_n dX3_changeFlow_19 rfl rfl ?_
      refine G_putI (fs2 := [r_ (k + 1), r_ (k + 6), r_ (k + 13), i_ q, i_ (v 11 2), i_ (v 11 3)]) fp_X3_29 dX3_changeFlow_20 (by assumption) (Nat.le_of_ble_eq_true rfl) rfl ?_
      have hA2 := staF.obj hA q (v 11 2) (v 11 3)
      refine G_iload_n dX3_changeFlow_23 rfl rfl ?_
      refine G_iload_n dX3_changeFlow_24 rfl rfl ?_
      refine G_icmp_ne (tgt := 33) dX3_changeFlow_25 (by decide) (inR_of (by omega) (by omega)) (inR_of (by omega) (by omega)) (fun hc25 => ?_) (fun hc25 => ?_)
      · skip
        refine G_iload_n dX3_changeFlow_33 rfl rfl ?_
        refine G_ireturn dX3_changeFlow_34 rfl ?_
        first
          | (have e : flowR v q = -5 := by unfold flowR; rw [if_neg (by omega), if_pos (by omega)]
             have e2 : flowV v q = v := by unfold flowV; rw [if_neg (by omega)]
             have e3 : q = v 11 1 := by omega
             subst e3
             rw [e2]
             exact ⟨by rw [e], Fr.set (by omega) (by omega), hA2⟩)
          | (have e : flowR v q = v 11 1 := by unfold flowR; rw [if_neg (by omega), if_neg (by omega)]
             have e2 : flowV v q = vset v 11 (fup (v 11) 1 q) := by unfold flowV; rw [if_pos (by omega)]
             rw [e2]
             exact ⟨by rw [e], Fr.set (by omega) (by omega), hA2⟩)
      · skip
        refine G_bipush dX3_changeFlow_28 rfl ?_
        refine G_goto (tgt := 34) dX3_changeFlow_30 (by decide) ?_
        refine G_ireturn dX3_changeFlow_34 rfl ?_
        first
          | (have e : flowR v q = -5 := by unfold flowR; rw [if_neg (by omega), if_pos (by omega)]
             have e2 : flowV v q = v := by unfold flowV; rw [if_neg (by omega)]
             have e3 : q = v 11 1 := by omega
             subst e3
             rw [e2]
             exact ⟨by rw [e], Fr.set (by omega) (by omega), hA2⟩)
          | (have e : flowR v q = v 11 1 := by unfold flowR; rw [if_neg (by omega), if_neg (by omega)]
             have e2 : flowV v q = vset v 11 (fup (v 11) 1 q) := by unfold flowV; rw [if_pos (by omega)]
             rw [e2]
             exact ⟨by rw [e], Fr.set (by omega) (by omega), hA2⟩)
    · skip
      refine G_bipush dX3_changeFlow_10 rfl ?_
      refine G_ireturn dX3_changeFlow_12 rfl ?_
      have e : flowR v q = -2 := by unfold flowR; rw [if_pos (by omega)]
      have e2 : flowV v q = v := by unfold flowV; rw [if_neg (by omega)]
      rw [e2]
      exact ⟨by rw [e], Fr.rf, hA⟩
set_option maxRecDepth 100000 in
set_option maxHeartbeats 4000000 in
theorem c_X3_changeSetting (h : List PO) (k : Nat) (v : SV) (w q : Int) (hA : stAt h k v) (hV : OK v) (hw : inR w) (hq : inR q) : PM 0 yX3_changeSetting cX3_changeSetting 4 (some .int) h [r_ k, i_ w, i_ q] (fun r0 h2 => r0 = some (i_ (setR v w q)) ∧ Fr h h2 k (k + 14) ∧ stAt h2 k (setV v w q)) := by
  refine PM_of_G RX3 [some (r_ k), some (i_ w), some (i_ q), none] rfl (by decide +kernel) (Nat.le_of_ble_eq_true rfl) rfl ?_
  obtain ⟨⟨hrd, hrs, hrh⟩, ⟨hs0, hs1, hs2⟩, ⟨hn, hf, hfa⟩, ⟨hc, hr, hs, hz⟩, h49, hdi⟩ := id hV
  obtain ⟨hA0, hAb, hAw, hAs⟩ := id hA
  obtain ⟨hB0, hB1, hB2, hB3, hB4⟩ := id hAb
  obtain ⟨hW0, hW1, hW2, hW3, hW4, hW5, hW6⟩ := id hAw
  have hq1 := hq.1
  have hq2 := hq.2
  have hw1 := hw.1
  have hw2 := hw.2
  have hlr := least_rng w
  refine G_iload_n dX3_changeSetting_0 rfl rfl ?_
  refine G_if_lt (tgt := 9) dX3_changeSetting_1 (by decide) (inR_of (by omega) (by omega)) (fun hc1 => ?_) (fun hc1 => ?_)
  · skip
    refine G_iconst dX3_changeSetting_9 ?_
    refine G_ireturn dX3_changeSetting_10 rfl ?_
    have e : setR v w q = -1 := by unfold setR; rw [if_pos (by omega)]
    have e2 : setV v w q = v := by unfold setV; rw [if_neg (by omega)]
    rw [e2]
    exact ⟨by rw [e], Fr.rf, hA⟩
  · skip
    refine G_iload_n dX3_changeSetting_4 rfl rfl ?_
    refine G_iconst dX3_changeSetting_5 ?_
    refine G_icmp_lt (tgt := 11) dX3_changeSetting_6 (by decide) (inR_of (by omega) (by omega)) (inR_of (by omega) (by omega)) (fun hc6 => ?_) (fun hc6 => ?_)
    · skip
      refine G_iload_n dX3_changeSetting_11 rfl rfl ?_
      refine G_getsL rfl dX3_changeSetting_12 ?_
      refine G_iload_n dX3_changeSetting_15 rfl rfl ?_
      refine G_sald dX3_changeSetting_16 (Or.inl ⟨rfl, rfl⟩) (by omega) (by omega) ?_
      refine G_icmp_lt (tgt := 29) dX3_changeSetting_17 (by decide) (inR_of (by omega) (by omega)) (inR_of (by omega) (by omega)) (fun hc17 => ?_) (fun hc17 => ?_)
      · skip
        refine G_bipush dX3_changeSetting_29 rfl ?_
        refine G_ireturn dX3_changeSetting_31 rfl ?_
        have e : setR v w q = -2 := by unfold setR; rw [if_neg (by omega), if_pos (by omega)]
        have e2 : setV v w q = v := by unfold setV; rw [if_neg (by omega)]
        rw [e2]
        exact ⟨by rw [e], Fr.rf, hA⟩
      · skip
        refine G_iload_n dX3_changeSetting_20 rfl rfl ?_
        refine G_getsM rfl dX3_changeSetting_21 ?_
        refine G_iload_n dX3_changeSetting_24 rfl rfl ?_
        refine G_sald dX3_changeSetting_25 (Or.inr ⟨rfl, rfl⟩) (by omega) (by omega) ?_
        refine G_icmp_le (tgt := 32) dX3_changeSetting_26 (by decide) (inR_of (by omega) (by omega)) (inR_of (by omega) (by omega)) (fun hc26 => ?_) (fun hc26 => ?_)
        · skip
          refine G_aload_n dX3_changeSetting_32 rfl rfl ?_
          refine G_getf fl_X3_25 dX3_changeSetting_33 (by assumption) rfl ?_
          refine G_iload_n dX3_changeSetting_36 rfl rfl ?_
          refine G_iald dX3_changeSetting_37 (by assumption) (by omega) (by omega) (by decide) ?_
          have hvw : 0 ≤ v 10 w ∧ v 10 w ≤ 60 := by
            rcases (show w = 0 ∨ w = 1 ∨ w = 2 from by omega) with e | e | e <;> rw [e] <;> omega
          refine G_istore_n dX3_changeSetting_38 rfl (by decide) rfl ?_
          refine G_aload_n dX3_changeSetting_39 rfl rfl ?_
          refine G_getf fl_X3_25 dX3_changeSetting_40 (by assumption) rfl ?_
          refine G_iload_n dX3_changeSetting_43 rfl rfl ?_
          refine G_iload_n dX3_changeSetting_44 rfl rfl ?_
          refine G_iast dX3_changeSetting_45 (by assumption) (by omega) (by omega) (by decide) rfl ?_
          have hA2 := staF.sets hA (fup (v 10) w q)
          refine G_iload_n dX3_changeSetting_46 rfl rfl ?_
          refine G_iload_n dX3_changeSetting_47 rfl rfl ?_
          refine G_icmp_ne (tgt := 56) dX3_changeSetting_48 (by decide) (inR_of (by omega) (by omega)) (inR_of (by omega) (by omega)) (fun hc48 => ?_) (fun hc48 => ?_)
          · skip
            refine G_iload_n dX3_changeSetting_56 rfl rfl ?_
            refine G_ireturn dX3_changeSetting_57 rfl ?_
            first
              | (have e : setR v w q = -5 := by unfold setR; rw [if_neg (by omega), if_neg (by omega), if_pos (by omega)]
                 have e2 : setV v w q = v := by unfold setV; rw [if_neg (by omega)]
                 rw [fup_same (by omega)] at hA2 ⊢
                 rw [e2]
                 exact ⟨by rw [e], Fr.set (by omega) (by omega), hA2⟩)
              | (have e : setR v w q = v 10 w := by unfold setR; rw [if_neg (by omega), if_neg (by omega), if_neg (by omega)]
                 have e2 : setV v w q = vset v 10 (fup (v 10) w q) := by unfold setV; rw [if_pos (by omega)]
                 rw [e2]
                 exact ⟨by rw [e], Fr.set (by omega) (by omega), hA2⟩)
          · skip
            refine G_bipush dX3_changeSetting_51 rfl ?_
            refine G_goto (tgt := 57) dX3_changeSetting_53 (by decide) ?_
            refine G_ireturn dX3_changeSetting_57 rfl ?_
            first
              | (have e : setR v w q = -5 := by unfold setR; rw [if_neg (by omega), if_neg (by omega), if_pos (by omega)]
                 have e2 : setV v w q = v := by unfold setV; rw [if_neg (by omega)]
                 rw [fup_same (by omega)] at hA2 ⊢
                 rw [e2]
                 exact ⟨by rw [e], Fr.set (by omega) (by omega), hA2⟩)
              | (have e : setR v w q = v 10 w := by unfold setR; rw [if_neg (by omega), if_neg (by omega), if_neg (by omega)]
                 have e2 : setV v w q = vset v 10 (fup (v 10) w q) := by unfold setV; rw [if_pos (by omega)]
                 rw [e2]
                 exact ⟨by rw [e], Fr.set (by omega) (by omega), hA2⟩)
        · skip
          refine G_bipush dX3_changeSetting_29 rfl ?_
          refine G_ireturn dX3_changeSetting_31 rfl ?_
          have e : setR v w q = -2 := by unfold setR; rw [if_neg (by omega), if_pos (by omega)]
          have e2 : setV v w q = v := by unfold setV; rw [if_neg (by omega)]
          rw [e2]
          exact ⟨by rw [e], Fr.rf, hA⟩
    · skip
      refine G_iconst dX3_changeSetting_9 ?_
      refine G_ireturn dX3_changeSetting_10 rfl ?_
      have e : setR v w q = -1 := by unfold setR; rw [if_pos (by omega)]
      have e2 : setV v w q = v := by unfold setV; rw [if_neg (by omega)]
      rw [e2]
      exact ⟨by rw [e], Fr.rf, hA⟩
set_option maxRecDepth 100000 in
set_option maxHeartbeats 4000000 in
theorem c_X3_letOneTideCome (h : List PO) (k : Nat) (v : SV) (rise : Int) (hA : stAt h k v) (hV : OK v) (hri : -30 ≤ rise ∧ rise ≤ 30) : PM 3 yX3_letOneTideCome cX3_letOneTideCome 2 none h [r_ k, i_ rise] (fun r0 h2 => r0 = none ∧ Fr h h2 k (k + 14) ∧ stAt h2 k (tideV rise v)) := by
  refine PM_of_G RX3 [some (r_ k), some (i_ rise)] rfl (by decide +kernel) (Nat.le_of_ble_eq_true rfl) rfl ?_
  obtain ⟨⟨hrd, hrs, hrh⟩, ⟨hs0, hs1, hs2⟩, ⟨hn, hf, hfa⟩, ⟨hc, hr, hs, hz⟩, h49, hdi⟩ := id hV
  obtain ⟨hA0, hAb, hAw, hAs⟩ := id hA
  obtain ⟨hB0, hB1, hB2, hB3, hB4⟩ := id hAb
  obtain ⟨hW0, hW1, hW2, hW3, hW4, hW5, hW6⟩ := id hAw
  have hp : -200 ≤ pushI v rise ∧ pushI v rise ≤ 200 := by unfold pushI; omega
  have hH : RG 0 60 40 (tideH rise v) := heiF_rng hrd hrs hrh hs2.1
  refine G_aload_n dX3_letOneTideCome_0 rfl rfl ?_
  refine G_getf fl_X3_12 dX3_letOneTideCome_1 (by assumption) rfl ?_
  refine G_aload_n dX3_letOneTideCome_4 rfl rfl ?_
  refine G_iload_n dX3_letOneTideCome_5 rfl rfl ?_
  refine G_callV (ci := 3) (as := [_]) (c_X3_pushOf h k v rise hA) dX3_letOneTideCome_6 ml_X3_75 cv_X3_pushOf (by assumption) rfl rfl (Nat.le_of_ble_eq_true rfl) (Nat.le_of_ble_eq_true rfl) rfl (fun r h2 hp => ?_)
  obtain ⟨rfl, rfl⟩ := hp
  refine G_aload_n dX3_letOneTideCome_9 rfl rfl ?_
  refine G_callV (ci := 3) (as := []) (c_X3_slope h k v hA) dX3_letOneTideCome_10 ml_X3_79 cv_X3_slope (by assumption) rfl rfl (Nat.le_of_ble_eq_true rfl) (Nat.le_of_ble_eq_true rfl) rfl (fun r h2 hp => ?_)
  obtain ⟨rfl, rfl⟩ := hp
  refine G_aload_n dX3_letOneTideCome_13 rfl rfl ?_
  refine G_getf fl_X3_25 dX3_letOneTideCome_14 (by assumption) rfl ?_
  refine G_iconst dX3_letOneTideCome_17 ?_
  refine G_iald dX3_letOneTideCome_18 (by assumption) (by omega) (by omega) (by decide) ?_
  refine G_callV (ci := 0) (as := [_, _, _]) (c_X0_follow h (k + 1) (v 0) (v 1) (v 2) (v 3) (pushI v rise) (v 10 1) (v 10 2) hAb hrd hrs hrh hp hs1 hs2) dX3_letOneTideCome_19 ml_X3_82 cv_X0_follow (by assumption) rfl rfl (Nat.le_of_ble_eq_true rfl) (Nat.le_of_ble_eq_true rfl) rfl (fun r h2 hp => ?_)
  obtain ⟨rfl, hF1, hb1⟩ := hp
  have hA1 : staF h2 k (v 0) (v 1) (tideH rise v) (wetF (tideH rise v) (v 3)) (v 4) (v 5) (v 6) (v 7) (v 8) (v 9) (v 11 0) (v 10) (v 11 1) (v 11 2) (v 11 3) := staF.bed hA hF1 hb1
  have hF : Fr h h2 k (k + 14) := hF1.wide (by omega) (by omega)
  obtain ⟨hX0, hXb, hXw, hXs⟩ := id hA1
  generalize h2 = H1 at *
  obtain ⟨hY0, hY1, hY2, hY3, hY4⟩ := id hXb
  obtain ⟨hZ0, hZ1, hZ2, hZ3, hZ4, hZ5, hZ6⟩ := id hXw
  refine G_aload_n dX3_letOneTideCome_22 rfl rfl ?_
  refine G_getf fl_X3_21 dX3_letOneTideCome_23 (by assumption) rfl ?_
  refine G_aload_n dX3_letOneTideCome_26 rfl rfl ?_
  refine G_getf fl_X3_12 dX3_letOneTideCome_27 (by assumption) rfl ?_
  refine G_callV (ci := 4) (as := [_]) (c_X4_drawFrom H1 (k + 6) (v 4) (v 5) (v 6) (v 7) (v 8) (v 9) (v 11 0) (k + 1) (v 0) (v 1) (tideH rise v) (wetF (tideH rise v) (v 3)) hXw hn hXb (by omega) hrd hrs hH hc hr hs hz) dX3_letOneTideCome_30 ml_X3_86 cv_X4_drawFrom (by assumption) rfl rfl (Nat.le_of_ble_eq_true rfl) (Nat.le_of_ble_eq_true rfl) rfl (fun r h2 hp => ?_)
  obtain ⟨rfl, hF2, hw1⟩ := hp
  have hA1 := staF.wel hA1 hF2 hw1
  have hF := hF.tr (hF2.wide (show k ≤ k + 6 by omega) (show k + 6 + 7 ≤ k + 14 by omega))
  obtain ⟨hX0, hXb, hXw, hXs⟩ := id hA1
  obtain ⟨hY0, hY1, hY2, hY3, hY4⟩ := id hXb
  refine G_aload_n dX3_letOneTideCome_33 rfl rfl ?_
  refine G_dup dX3_letOneTideCome_34 ?_
  refine G_getf fl_X3_49 dX3_letOneTideCome_35 (by assumption) rfl ?_
  refine G_iconst dX3_letOneTideCome_38 ?_
  refine G_iadd dX3_letOneTideCome_39 ?_
  refine G_putI (fs2 := [r_ (k + 1), r_ (k + 6), r_ (k + 13), i_ (v 11 1), i_ (v 11 2 + 1), i_ (v 11 3)]) fp_X3_49 dX3_letOneTideCome_40 (by assumption) (Nat.le_of_ble_eq_true rfl) rfl ?_
  have hA1 := hA1.obj (v 11 1) (v 11 2 + 1) (v 11 3)
  have hF := hF.tr (Fr.set (o := oO 3 [r_ (k + 1), r_ (k + 6), r_ (k + 13), i_ (v 11 1), i_ (v 11 2 + 1), i_ (v 11 3)]) (show k ≤ k by omega) (show k < k + 14 by omega))
  obtain ⟨hX0, hXb, hXw, hXs⟩ := id hA1
  have hY0 := hXb.1
  refine G_aload_n dX3_letOneTideCome_43 rfl rfl ?_
  refine G_aload_n dX3_letOneTideCome_44 rfl rfl ?_
  refine G_getf fl_X3_33 dX3_letOneTideCome_45 (by assumption) rfl ?_
  refine G_aload_n dX3_letOneTideCome_48 rfl rfl ?_
  refine G_getf fl_X3_12 dX3_letOneTideCome_49 (by assumption) rfl ?_
  refine G_callV (ci := 0) (as := []) (c_X0_greatestSaltCell _ (k + 1) (v 0) (v 1) (tideH rise v) (wetF (tideH rise v) (v 3)) hXb hH) dX3_letOneTideCome_52 ml_X3_89 cv_X0_greatestSaltCell (by assumption) rfl rfl (Nat.le_of_ble_eq_true rfl) (Nat.le_of_ble_eq_true rfl) rfl (fun r h2 hp => ?_)
  obtain ⟨rfl, rfl⟩ := hp
  have hrr := reachN_rng (q := tideH rise v) 40
  refine G_max dX3_letOneTideCome_55 mm_X3_92 (inR_of (by omega) (by omega)) (inR_of (by omega) (by omega)) (Nat.le_of_ble_eq_true rfl) (Nat.le_of_ble_eq_true rfl) ?_
  refine G_putI (fs2 := [r_ (k + 1), r_ (k + 6), r_ (k + 13), i_ (v 11 1), i_ (v 11 2 + 1), i_ (max (v 11 3) (reachN (tideH rise v) 40))]) fp_X3_33 dX3_letOneTideCome_58 (by assumption) (Nat.le_of_ble_eq_true rfl) rfl ?_
  have hA1 := hA1.obj (v 11 1) (v 11 2 + 1) (max (v 11 3) (reachN (tideH rise v) 40))
  have hF := hF.tr (Fr.set (o := oO 3 [r_ (k + 1), r_ (k + 6), r_ (k + 13), i_ (v 11 1), i_ (v 11 2 + 1), i_ (max (v 11 3) (reachN (tideH rise v) 40))]) (show k ≤ k by omega) (show k < k + 14 by omega))
  refine G_return dX3_letOneTideCome_61 rfl ?_
  exact ⟨rfl, hF, hA1⟩
set_option maxRecDepth 100000 in
set_option maxHeartbeats 4000000 in
theorem c_X3_letTidesCome (h : List PO) (k : Nat) (v : SV) (rise times : Int) (hA : stAt h k v) (hV : OK v) (hT : 0 ≤ v 11 2 ∧ v 11 2 ≤ 99999) (hri0 : inR rise) (hti : inR times) : PM 4 yX3_letTidesCome cX3_letTidesCome 4 (some .int) h [r_ k, i_ rise, i_ times] (fun r0 h2 => r0 = some (i_ (tidesR v rise times)) ∧ Fr h h2 k (k + 14) ∧ stAt h2 k (tidesV v rise times)) := by
  refine PM_of_G RX3 [some (r_ k), some (i_ rise), some (i_ times), none] rfl (by decide +kernel) (Nat.le_of_ble_eq_true rfl) rfl ?_
  obtain ⟨⟨hrd, hrs, hrh⟩, ⟨hs0, hs1, hs2⟩, ⟨hn, hf, hfa⟩, ⟨hc, hr, hs, hz⟩, h49, hdi⟩ := id hV
  obtain ⟨hA0, hAb, hAw, hAs⟩ := id hA
  obtain ⟨hB0, hB1, hB2, hB3, hB4⟩ := id hAb
  obtain ⟨hW0, hW1, hW2, hW3, hW4, hW5, hW6⟩ := id hAw
  have hri1 := hri0.1
  have hri2 := hri0.2
  have hti1 := hti.1
  have hti2 := hti.2
  refine G_iload_n dX3_letTidesCome_0 rfl rfl ?_
  refine G_callSN (as := [_]) (c_X5_isRise h rise hri0) dX3_letTidesCome_1 (fun _ _ E => E.2.1.2.2.1) cs_X5_isRise rfl (Nat.le_of_ble_eq_true rfl) (Nat.le_of_ble_eq_true rfl) rfl (fun r h2 hp => ?_)
  obtain ⟨y, rfl, rfl, hy⟩ := hp
  refine G_if_eq (tgt := 18) dX3_letTidesCome_4 (by decide) (inR_of (by omega) (by omega)) (fun hc4 => ?_) (fun hc4 => ?_)
  · skip
    refine G_bipush dX3_letTidesCome_18 rfl ?_
    refine G_ireturn dX3_letTidesCome_20 rfl ?_
    have e : tidesR v rise times = -2 := by unfold tidesR; rw [if_pos (by omega)]
    have e2 : tidesV v rise times = v := by unfold tidesV; rw [if_neg (by omega)]
    rw [e2]
    exact ⟨by rw [e], Fr.rf, hA⟩
  · skip
    refine G_iload_n dX3_letTidesCome_7 rfl rfl ?_
    refine G_iconst dX3_letTidesCome_8 ?_
    refine G_icmp_lt (tgt := 18) dX3_letTidesCome_9 (by decide) (inR_of (by omega) (by omega)) (inR_of (by omega) (by omega)) (fun hc9 => ?_) (fun hc9 => ?_)
    · skip
      refine G_bipush dX3_letTidesCome_18 rfl ?_
      refine G_ireturn dX3_letTidesCome_20 rfl ?_
      have e : tidesR v rise times = -2 := by unfold tidesR; rw [if_pos (by omega)]
      have e2 : tidesV v rise times = v := by unfold tidesV; rw [if_neg (by omega)]
      rw [e2]
      exact ⟨by rw [e], Fr.rf, hA⟩
    · skip
      refine G_iload_n dX3_letTidesCome_12 rfl rfl ?_
      refine G_bipush dX3_letTidesCome_13 rfl ?_
      refine G_icmp_le (tgt := 21) dX3_letTidesCome_15 (by decide) (inR_of (by omega) (by omega)) (inR_of (by omega) (by omega)) (fun hc15 => ?_) (fun hc15 => ?_)
      · skip
        refine G_aload_n dX3_letTidesCome_21 rfl rfl ?_
        refine G_getf fl_X3_49 dX3_letTidesCome_22 (by assumption) rfl ?_
        refine G_iload_n dX3_letTidesCome_25 rfl rfl ?_
        refine G_iadd dX3_letTidesCome_26 ?_
        refine G_ldc dX3_letTidesCome_27 cn_X3_66 ?_
        refine G_icmp_le (tgt := 35) dX3_letTidesCome_29 (by decide) (inR_of (by omega) (by omega)) (inR_of (by omega) (by omega)) (fun hc29 => ?_) (fun hc29 => ?_)
        · skip
          have hri : -30 ≤ rise ∧ rise ≤ 30 := by omega
          have L : ∀ (fu : Nat) (i : Int) (hh : List PO), 0 ≤ i → i ≤ times → stAt hh k (itV rise v i.toNat) → Fr h hh k (k + 14) → times - i < fu → G 4 cX3_letTidesCome RX3 4 (some .int) hh 37 [some (r_ k), some (i_ rise), some (i_ times), some (i_ i)] [] (fun r0 h2 => r0 = some (i_ (tidesR v rise times)) ∧ Fr h h2 k (k + 14) ∧ stAt h2 k (tidesV v rise times)) := by
            intro fu
            induction fu with
            | zero => intro i hh a1 a2 hA1 hF hmeas; exfalso; omega
            | succ fu ih =>
              intro i hh a1 a2 hA1 hF hmeas
              obtain ⟨hX0, hXb, hXw, hXs⟩ := id hA1
              obtain ⟨hY0, hY1, hY2, hY3, hY4⟩ := id hXb
              refine G_iload_n dX3_letTidesCome_37 rfl rfl ?_
              refine G_iload_n dX3_letTidesCome_38 rfl rfl ?_
              refine G_icmp_ge (tgt := 53) dX3_letTidesCome_39 (by decide) (inR_of (by omega) (by omega)) (inR_of (by omega) (by omega)) (fun hc39 => ?_) (fun hc39 => ?_)
              · skip
                have e : i = times := by omega
                subst e
                refine G_aload_n dX3_letTidesCome_53 rfl rfl ?_
                refine G_getf fl_X3_12 dX3_letTidesCome_54 (by assumption) rfl ?_
                refine G_callV (ci := 0) (as := []) (c_X0_saltCells hh (k + 1) _ _ _ _ hXb (hV.it _).1.2.2) dX3_letTidesCome_57 ml_X3_71 cv_X0_saltCells (by assumption) rfl rfl (Nat.le_of_ble_eq_true rfl) (Nat.le_of_ble_eq_true rfl) rfl (fun r h2 hp => ?_)
                obtain ⟨rfl, rfl⟩ := hp
                refine G_ireturn dX3_letTidesCome_60 rfl ?_
                have hw := wet_rng (q := itV rise v i.toNat 2) 40
                have e : tidesR v rise i = sumN (wetI (itV rise v i.toNat 2)) 40 := by unfold tidesR; rw [if_neg (by omega), if_neg (by omega)]
                have e2 : tidesV v rise i = itV rise v i.toNat := by unfold tidesV; rw [if_pos (by omega)]
                rw [e2]
                exact ⟨by rw [e], hF, hA1⟩
              · skip
                refine G_aload_n dX3_letTidesCome_42 rfl rfl ?_
                refine G_iload_n dX3_letTidesCome_43 rfl rfl ?_
                refine G_callV (ci := 3) (as := [_]) (c_X3_letOneTideCome hh k (itV rise v i.toNat) rise hA1 (hV.it _) hri) dX3_letTidesCome_44 ml_X3_67 cv_X3_letOneTideCome (by assumption) rfl rfl (Nat.le_of_ble_eq_true rfl) (Nat.le_of_ble_eq_true rfl) rfl (fun r h2 hp => ?_)
                obtain ⟨rfl, hF2, hA2⟩ := hp
                refine G_iinc dX3_letTidesCome_47 (by decide) rfl rfl ?_
                refine G_goto (tgt := 37) dX3_letTidesCome_50 (by decide) ?_
                refine ih (i + 1) _ (by omega) (by omega) ?_ (hF.tr hF2) (by omega)
                have e : (i + 1).toNat = i.toNat + 1 := by omega
                rw [e]
                exact hA2
          refine G_iconst dX3_letTidesCome_35 ?_
          refine G_istore_n dX3_letTidesCome_36 rfl (by decide) rfl ?_
          exact L (times.toNat + 1) 0 h (by omega) (by omega) hA Fr.rf (by omega)
        · skip
          refine G_bipush dX3_letTidesCome_32 rfl ?_
          refine G_ireturn dX3_letTidesCome_34 rfl ?_
          have e : tidesR v rise times = -3 := by unfold tidesR; rw [if_neg (by omega), if_pos (by omega)]
          have e2 : tidesV v rise times = v := by unfold tidesV; rw [if_neg (by omega)]
          rw [e2]
          exact ⟨by rw [e], Fr.rf, hA⟩
      · skip
        refine G_bipush dX3_letTidesCome_18 rfl ?_
        refine G_ireturn dX3_letTidesCome_20 rfl ?_
        have e : tidesR v rise times = -2 := by unfold tidesR; rw [if_pos (by omega)]
        have e2 : tidesV v rise times = v := by unfold tidesV; rw [if_neg (by omega)]
        rw [e2]
        exact ⟨by rw [e], Fr.rf, hA⟩
set_option maxRecDepth 100000 in
set_option maxHeartbeats 4000000 in
theorem c_X3_leastFlowFor (h : List PO) (k : Nat) (v : SV) (c rise : Int) (hA : stAt h k v) (hV : OK v) (c0 : 0 ≤ c) (c1 : c < 40) (hri : -30 ≤ rise ∧ rise ≤ 30) : PM 4 yX3_leastFlowFor cX3_leastFlowFor 4 (some .int) h [r_ k, i_ c, i_ rise] (fun r0 h2 => r0 = some (i_ (lfN v c rise 100)) ∧ h = h2) := by
  refine PM_of_G RX3 [some (r_ k), some (i_ c), some (i_ rise), none] rfl (by decide +kernel) (Nat.le_of_ble_eq_true rfl) rfl ?_
  obtain ⟨⟨hrd, hrs, hrh⟩, ⟨hs0, hs1, hs2⟩, ⟨hn, hf, hfa⟩, ⟨hc, hr, hs, hz⟩, h49, hdi⟩ := id hV
  obtain ⟨hA0, hAb, hAw, hAs⟩ := id hA
  obtain ⟨hB0, hB1, hB2, hB3, hB4⟩ := id hAb
  obtain ⟨hW0, hW1, hW2, hW3, hW4, hW5, hW6⟩ := id hAw
  have L : ∀ (fu : Nat) (i : Int), 0 ≤ i → i ≤ 100 → lfN v c rise 100 = lfN v c rise (100 - i).toNat → 100 - i < fu → G 4 cX3_leastFlowFor RX3 4 (some .int) h 2 [some (r_ k), some (i_ c), some (i_ rise), some (i_ i)] [] (fun r0 h2 => r0 = some (i_ (lfN v c rise 100)) ∧ h = h2) := by
    intro fu
    induction fu with
    | zero => intro i a1 a2 hst hmeas; exfalso; omega
    | succ fu ih =>
      intro i a1 a2 hst hmeas
      refine G_iload_n dX3_leastFlowFor_2 rfl rfl ?_
      refine G_bipush dX3_leastFlowFor_3 rfl ?_
      refine G_icmp_gt (tgt := 37) dX3_leastFlowFor_5 (by decide) (inR_of (by omega) (by omega)) (inR_of (by omega) (by omega)) (fun hc5 => ?_) (fun hc5 => ?_)
      · skip
        have e : i = 100 := by omega
        subst e
        refine G_bipush dX3_leastFlowFor_37 rfl ?_
        refine G_ireturn dX3_leastFlowFor_39 rfl ?_
        exact ⟨by rw [hst]; rfl, rfl⟩
      · skip
        refine G_aload_n dX3_leastFlowFor_8 rfl rfl ?_
        refine G_getf fl_X3_12 dX3_leastFlowFor_9 (by assumption) rfl ?_
        refine G_iload_n dX3_leastFlowFor_12 rfl rfl ?_
        refine G_aload_n dX3_leastFlowFor_13 rfl rfl ?_
        refine G_iload_n dX3_leastFlowFor_14 rfl rfl ?_
        refine G_iload_n dX3_leastFlowFor_15 rfl rfl ?_
        refine G_callV (ci := 3) (as := [_, _]) (c_X3_pushWith h k v i rise hA) dX3_leastFlowFor_16 ml_X3_58 cv_X3_pushWith (by assumption) rfl rfl (Nat.le_of_ble_eq_true rfl) (Nat.le_of_ble_eq_true rfl) rfl (fun r h2 hp => ?_)
        obtain ⟨rfl, rfl⟩ := hp
        refine G_aload_n dX3_leastFlowFor_19 rfl rfl ?_
        refine G_callV (ci := 3) (as := []) (c_X3_slope h k v hA) dX3_leastFlowFor_20 ml_X3_79 cv_X3_slope (by assumption) rfl rfl (Nat.le_of_ble_eq_true rfl) (Nat.le_of_ble_eq_true rfl) rfl (fun r h2 hp => ?_)
        obtain ⟨rfl, rfl⟩ := hp
        refine G_callV (ci := 0) (as := [_, _, _]) (c_X0_markOf h (k + 1) (v 0) (v 1) (v 2) (v 3) c _ (v 10 1) hAb hrd hrs c0 c1 (by omega) hs1) dX3_leastFlowFor_23 ml_X3_97 cv_X0_markOf (by assumption) rfl rfl (Nat.le_of_ble_eq_true rfl) (Nat.le_of_ble_eq_true rfl) rfl (fun r h2 hp => ?_)
        obtain ⟨rfl, rfl⟩ := hp
        have hmr := mkI_rng (push := v 10 0 + rise - i) (slope := v 10 1) hrs hrd c0 c1
        refine G_if_ne (tgt := 31) dX3_leastFlowFor_26 (by decide) (inR_of (by omega) (by omega)) (fun hc26 => ?_) (fun hc26 => ?_)
        · skip
          refine G_iinc dX3_leastFlowFor_31 (by decide) rfl rfl ?_
          refine G_goto (tgt := 2) dX3_leastFlowFor_34 (by decide) ?_
          exact ih (i + 1) (by omega) (by omega) (by rw [hst, lfN_s a1 (by omega), if_neg (by omega)]) (by omega)
        · skip
          refine G_iload_n dX3_leastFlowFor_29 rfl rfl ?_
          refine G_ireturn dX3_leastFlowFor_30 rfl ?_
          exact ⟨by rw [hst, lfN_s a1 (by omega), if_pos (by omega)], rfl⟩
  refine G_iconst dX3_leastFlowFor_0 ?_
  refine G_istore_n dX3_leastFlowFor_1 rfl (by decide) rfl ?_
  exact L 101 0 (by omega) (by omega) rfl (by omega)
set_option maxRecDepth 100000 in
set_option maxHeartbeats 4000000 in
theorem c_X3_copyFrom (h : List PO) (k a : Nat) (v u : SV) (hT0 : stAt h k u) (hO : stAt h a v) (hab : a + 14 ≤ k ∨ k + 14 ≤ a) : PM 3 yX3_copyFrom cX3_copyFrom 2 none h [r_ k, r_ a] (fun r0 h2 => r0 = none ∧ Fr h h2 k (k + 14) ∧ stAt h2 k v) := by
  refine PM_of_G RX3 [some (r_ k), some (r_ a)] rfl (by decide +kernel) (Nat.le_of_ble_eq_true rfl) rfl ?_
  have hT : staF h k (u 0) (u 1) (u 2) (u 3) (u 4) (u 5) (u 6) (u 7) (u 8) (u 9) (u 11 0) (u 10) (u 11 1) (u 11 2) (u 11 3) := hT0
  have hF : Fr h h k (k + 14) := Fr.rf
  obtain ⟨hT0, hTb, hTw, hTs⟩ := id hT
  obtain ⟨hO0, hOb, hOw, hOs⟩ := id hO
  have hTb0 := hTb.1
  have hTw0 := hTw.1
  have hOb0 := hOb.1
  have hOw0 := hOw.1
  refine G_aload_n dX3_copyFrom_0 rfl rfl ?_
  refine G_getf fl_X3_12 dX3_copyFrom_1 (by assumption) rfl ?_
  refine G_aload_n dX3_copyFrom_4 rfl rfl ?_
  refine G_getf fl_X3_12 dX3_copyFrom_5 (by assumption) rfl ?_
  refine G_callV (ci := 0) (as := [_]) (c_X0_copyFrom _ (k + 1) (a + 1) _ _ _ _ _ _ _ _ hTb hOb (by omega)) dX3_copyFrom_8 ml_X3_36 cv_X0_copyFrom (by assumption) rfl rfl (Nat.le_of_ble_eq_true rfl) (Nat.le_of_ble_eq_true rfl) rfl (fun r h2 hp => ?_)
  obtain ⟨rfl, hF2, hb⟩ := hp
  have hT := hT.bed hF2 hb
  have hF1 : Fr _ _ k (k + 14) := hF2.wide (by omega) (by omega)
  have hF := hF.tr hF1
  have hO := stAt.fr hO hF1 (by omega)
  obtain ⟨hT0, hTb, hTw, hTs⟩ := id hT
  obtain ⟨hO0, hOb, hOw, hOs⟩ := id hO
  have hTb0 := hTb.1
  have hTw0 := hTw.1
  have hOb0 := hOb.1
  have hOw0 := hOw.1
  refine G_aload_n dX3_copyFrom_11 rfl rfl ?_
  refine G_getf fl_X3_21 dX3_copyFrom_12 (by assumption) rfl ?_
  refine G_aload_n dX3_copyFrom_15 rfl rfl ?_
  refine G_getf fl_X3_21 dX3_copyFrom_16 (by assumption) rfl ?_
  refine G_callV (ci := 4) (as := [_]) (c_X4_copyFrom _ (k + 6) (a + 6) _ _ _ _ _ _ _ _ _ _ _ _ _ _ hTw hOw (by omega)) dX3_copyFrom_19 ml_X3_40 cv_X4_copyFrom (by assumption) rfl rfl (Nat.le_of_ble_eq_true rfl) (Nat.le_of_ble_eq_true rfl) rfl (fun r h2 hp => ?_)
  obtain ⟨rfl, hF2, hb⟩ := hp
  have hT := hT.wel hF2 hb
  have hF1 : Fr _ _ k (k + 14) := hF2.wide (by omega) (by omega)
  have hF := hF.tr hF1
  have hO := stAt.fr hO hF1 (by omega)
  obtain ⟨hT0, hTb, hTw, hTs⟩ := id hT
  obtain ⟨hO0, hOb, hOw, hOs⟩ := id hO
  have hTb0 := hTb.1
  have hTw0 := hTw.1
  have hOb0 := hOb.1
  have hOw0 := hOw.1
  refine G_aload_n dX3_copyFrom_22 rfl rfl ?_
  refine G_getf fl_X3_25 dX3_copyFrom_23 (by assumption) rfl ?_
  refine G_iconst dX3_copyFrom_26 ?_
  refine G_aload_n dX3_copyFrom_27 rfl rfl ?_
  refine G_getf fl_X3_25 dX3_copyFrom_28 (by assumption) rfl ?_
  refine G_iconst dX3_copyFrom_31 ?_
  refine G_iconst dX3_copyFrom_32 ?_
  refine G_copy dX3_copyFrom_33 mc_X3_43 (by assumption) (by assumption) rfl (by decide) (Nat.le_of_ble_eq_true rfl) (Nat.le_of_ble_eq_true rfl) ?_
  have hT := hT.sets (v 10)
  have hF := hF.tr (Fr.set (lo := k) (hi := k + 14) (o := oI 3 (v 10)) (show k ≤ k + 13 by omega) (show k + 13 < k + 14 by omega))
  have hO := stAt.fr hO (Fr.set (lo := k) (hi := k + 14) (o := oI 3 (v 10)) (show k ≤ k + 13 by omega) (show k + 13 < k + 14 by omega)) (by omega)
  obtain ⟨hT0, hTb, hTw, hTs⟩ := id hT
  obtain ⟨hO0, hOb, hOw, hOs⟩ := id hO
  have hTb0 := hTb.1
  have hTw0 := hTw.1
  have hOb0 := hOb.1
  have hOw0 := hOw.1
  refine G_aload_n dX3_copyFrom_36 rfl rfl ?_
  refine G_aload_n dX3_copyFrom_37 rfl rfl ?_
  refine G_getf fl_X3_29 dX3_copyFrom_38 (by assumption) rfl ?_
  refine G_putI (fs2 := [r_ (k + 1), r_ (k + 6), r_ (k + 13), i_ (v 11 1), i_ (u 11 2), i_ (u 11 3)]) fp_X3_29 dX3_copyFrom_41 (by assumption) (Nat.le_of_ble_eq_true rfl) rfl ?_
  have hT := hT.obj (v 11 1) (u 11 2) (u 11 3)
  have hF := hF.tr (Fr.set (lo := k) (hi := k + 14) (o := oO 3 [r_ (k + 1), r_ (k + 6), r_ (k + 13), i_ (v 11 1), i_ (u 11 2), i_ (u 11 3)]) (show k ≤ k by omega) (show k < k + 14 by omega))
  have hO := stAt.fr hO (Fr.set (lo := k) (hi := k + 14) (o := oO 3 [r_ (k + 1), r_ (k + 6), r_ (k + 13), i_ (v 11 1), i_ (u 11 2), i_ (u 11 3)]) (show k ≤ k by omega) (show k < k + 14 by omega)) (by omega)
  obtain ⟨hT0, hTb, hTw, hTs⟩ := id hT
  obtain ⟨hO0, hOb, hOw, hOs⟩ := id hO
  have hTb0 := hTb.1
  have hTw0 := hTw.1
  have hOb0 := hOb.1
  have hOw0 := hOw.1
  refine G_aload_n dX3_copyFrom_44 rfl rfl ?_
  refine G_aload_n dX3_copyFrom_45 rfl rfl ?_
  refine G_getf fl_X3_49 dX3_copyFrom_46 (by assumption) rfl ?_
  refine G_putI (fs2 := [r_ (k + 1), r_ (k + 6), r_ (k + 13), i_ (v 11 1), i_ (v 11 2), i_ (u 11 3)]) fp_X3_49 dX3_copyFrom_49 (by assumption) (Nat.le_of_ble_eq_true rfl) rfl ?_
  have hT := hT.obj (v 11 1) (v 11 2) (u 11 3)
  have hF := hF.tr (Fr.set (lo := k) (hi := k + 14) (o := oO 3 [r_ (k + 1), r_ (k + 6), r_ (k + 13), i_ (v 11 1), i_ (v 11 2), i_ (u 11 3)]) (show k ≤ k by omega) (show k < k + 14 by omega))
  have hO := stAt.fr hO (Fr.set (lo := k) (hi := k + 14) (o := oO 3 [r_ (k + 1), r_ (k + 6), r_ (k + 13), i_ (v 11 1), i_ (v 11 2), i_ (u 11 3)]) (show k ≤ k by omega) (show k < k + 14 by omega)) (by omega)
  obtain ⟨hT0, hTb, hTw, hTs⟩ := id hT
  obtain ⟨hO0, hOb, hOw, hOs⟩ := id hO
  have hTb0 := hTb.1
  have hTw0 := hTw.1
  have hOb0 := hOb.1
  have hOw0 := hOw.1
  refine G_aload_n dX3_copyFrom_52 rfl rfl ?_
  refine G_aload_n dX3_copyFrom_53 rfl rfl ?_
  refine G_getf fl_X3_33 dX3_copyFrom_54 (by assumption) rfl ?_
  refine G_putI (fs2 := [r_ (k + 1), r_ (k + 6), r_ (k + 13), i_ (v 11 1), i_ (v 11 2), i_ (v 11 3)]) fp_X3_33 dX3_copyFrom_57 (by assumption) (Nat.le_of_ble_eq_true rfl) rfl ?_
  have hT := hT.obj (v 11 1) (v 11 2) (v 11 3)
  have hF := hF.tr (Fr.set (lo := k) (hi := k + 14) (o := oO 3 [r_ (k + 1), r_ (k + 6), r_ (k + 13), i_ (v 11 1), i_ (v 11 2), i_ (v 11 3)]) (show k ≤ k by omega) (show k < k + 14 by omega))
  have hO := stAt.fr hO (Fr.set (lo := k) (hi := k + 14) (o := oO 3 [r_ (k + 1), r_ (k + 6), r_ (k + 13), i_ (v 11 1), i_ (v 11 2), i_ (v 11 3)]) (show k ≤ k by omega) (show k < k + 14 by omega)) (by omega)
  obtain ⟨hT0, hTb, hTw, hTs⟩ := id hT
  obtain ⟨hO0, hOb, hOw, hOs⟩ := id hO
  have hTb0 := hTb.1
  have hTw0 := hTw.1
  have hOb0 := hOb.1
  have hOw0 := hOw.1
  refine G_return dX3_copyFrom_60 rfl ?_
  exact ⟨rfl, hF, hT⟩
