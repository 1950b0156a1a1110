/-! the reference's rows behind the first: the history, the snapshot -/
def roX (s : Int → Int) (hv : Int → SV) (sz ks : Int) (w : SV) : Prop := (∀ i : Int, 0 ≤ i → i < sz → rwR s (203 * (i + 1)) (hv i)) ∧ (ks = 1 → rwR s (203 * 5) w)
theorem rwR.fr {s s2 : Int → Int} {b b2 : Int} {v : SV} (h : rwR s b v) (k : frR s s2 b2) (q : b + 203 ≤ b2 ∨ b2 + 203 ≤ b) (hV : OK v) : rwR s2 b v := rwF.fr h k q hV.2.2.1.1.2
theorem cp_to {s : Int → Int} {a b : Int} {v : SV} (h : rwR s (203 * a) v) (hV : OK v) : rwR (cpR s a b) (203 * b) v := cpR_rw h hV.2.2.1.1.2
theorem cp_kp {s : Int → Int} {a b c : Int} {v : SV} (h : rwR s (203 * c) v) (hV : OK v) (q : c ≠ b) : rwR (cpR s a b) (203 * c) v := h.fr cpR_fr (by omega) hV
theorem roX.fr {s s2 : Int → Int} {hv : Int → SV} {sz ks : Int} {w v : SV} {tx : Int → Int} {len b : Int} (h : roX s hv sz ks w) (hI : INV v hv sz ks w tx len) (k : frR s s2 b) (q : b = 0 ∨ 1218 ≤ b) : roX s2 hv sz ks w := by
  obtain ⟨-, hsz, hhv, hks, -⟩ := hI
  refine ⟨fun i i0 i1 => (h.1 i i0 i1).fr k (by omega) (hhv i i0 i1).1, fun e => (h.2 e).fr k (by omega) ?_⟩
  rcases hks with z | z
  · omega
  · exact z.2.1
theorem rec_ro {s : Int → Int} {hv : Int → SV} {sz ks a : Int} {w v V u : SV} {tx : Int → Int} {len : Int} (hI : INV v hv sz ks w tx len) (h : roX s hv sz ks w) (h0 : rwR s 0 V) (hV : OK V) (hu : rwR s (203 * a) u) (hU : OK u) (ha : a = 0 ∨ a = 6) : rwR (recS s sz a) 0 V ∧ roX (recS s sz a) (addH hv sz u) (addZ sz) ks w := by
  obtain ⟨-, hsz, hhv, hks, -⟩ := id hI
  have h0 : rwR s (203 * 0) V := h0
  have hw : ks = 1 → OK w := fun e => by
    rcases hks with z | z
    · omega
    · exact z.2.1
  unfold recS addH addZ
  by_cases q : sz < 4
  · rw [if_pos q, if_pos q, if_pos q]
    refine ⟨(cp_kp h0 hV (by omega) : rwR _ (203 * 0) V), fun i i0 i1 => ?_, fun e => cp_kp (h.2 e) (hw e) (by omega)⟩
    unfold fupG
    by_cases z : i = sz
    · rw [if_pos z, z]
      exact cp_to hu hU
    · rw [if_neg z]
      exact cp_kp (h.1 i i0 (by omega)) (hhv i i0 (by omega)).1 (by omega)
  · rw [if_neg q, if_neg q, if_neg q]
    have e4 : sz = 4 := by omega
    subst e4
    have e3 : rtS s 3 = cpR (cpR (cpR s 2 1) 3 2) 4 3 := rfl
    rw [e3]
    have o0 := (hhv 0 (by omega) (by omega)).1
    have o1 := (hhv 1 (by omega) (by omega)).1
    have o2 := (hhv 2 (by omega) (by omega)).1
    have o3 := (hhv 3 (by omega) (by omega)).1
    have r1 : rwR s (203 * 2) (hv 1) := h.1 1 (by omega) (by omega)
    have r2 : rwR s (203 * 3) (hv 2) := h.1 2 (by omega) (by omega)
    have r3 : rwR s (203 * 4) (hv 3) := h.1 3 (by omega) (by omega)
    have a1 : rwR (cpR s 2 1) (203 * 1) (hv 1) := cp_to r1 o1
    have a2 : rwR (cpR s 2 1) (203 * 3) (hv 2) := cp_kp r2 o2 (by omega)
    have a3 : rwR (cpR s 2 1) (203 * 4) (hv 3) := cp_kp r3 o3 (by omega)
    have b1 : rwR (cpR (cpR s 2 1) 3 2) (203 * 1) (hv 1) := cp_kp a1 o1 (by omega)
    have b2 : rwR (cpR (cpR s 2 1) 3 2) (203 * 2) (hv 2) := cp_to a2 o2
    have b3 : rwR (cpR (cpR s 2 1) 3 2) (203 * 4) (hv 3) := cp_kp a3 o3 (by omega)
    have c1 : rwR (cpR (cpR (cpR s 2 1) 3 2) 4 3) (203 * 1) (hv 1) := cp_kp b1 o1 (by omega)
    have c2 : rwR (cpR (cpR (cpR s 2 1) 3 2) 4 3) (203 * 2) (hv 2) := cp_kp b2 o2 (by omega)
    have c3 : rwR (cpR (cpR (cpR s 2 1) 3 2) 4 3) (203 * 3) (hv 3) := cp_to b3 o3
    have cu : rwR (cpR (cpR (cpR s 2 1) 3 2) 4 3) (203 * a) u := cp_kp (cp_kp (cp_kp hu hU (by omega)) hU (by omega)) hU (by omega)
    have c0 : rwR (cpR (cpR (cpR s 2 1) 3 2) 4 3) (203 * 0) V := cp_kp (cp_kp (cp_kp h0 hV (by omega)) hV (by omega)) hV (by omega)
    refine ⟨(cp_kp c0 hV (by omega) : rwR _ (203 * 0) V), fun i i0 i1 => ?_, fun e => cp_kp (cp_kp (cp_kp (cp_kp (h.2 e) (hw e) (by omega)) (hw e) (by omega)) (hw e) (by omega)) (hw e) (by omega)⟩
    unfold fupG
    rcases (show i = 0 ∨ i = 1 ∨ i = 2 ∨ i = 3 from by omega) with z | z | z | z
    · subst z
      rw [if_neg (by omega), rotG_l (by omega) (by omega)]
      exact cp_kp c1 o1 (by omega)
    · subst z
      rw [if_neg (by omega), rotG_l (by omega) (by omega)]
      exact cp_kp c2 o2 (by omega)
    · subst z
      rw [if_neg (by omega), rotG_l (by omega) (by omega)]
      exact cp_kp c3 o3 (by omega)
    · subst z
      rw [if_pos rfl]
      exact cp_to cu hU
theorem act_ro {s0 s2 : Int → Int} {hv : Int → SV} {sz ks : Int} {w v V : SV} {tx : Int → Int} {len : Int} (hI : INV v hv sz ks w tx len) (h0 : rwR s0 0 v) (hx : roX s0 hv sz ks w) (k : frR (cpR s0 0 6) s2 0) (h2 : rwR s2 0 V) (hV : OKt V) (R : Int) : rwR (rcA s2 sz R) 0 V ∧ roX (rcA s2 sz R) (hvA hv sz v R) (szA sz R) ks w := by
  have hv0 := hI.1.1
  have x1 : roX (cpR s0 0 6) hv sz ks w := hx.fr hI cpR_fr (by omega)
  have x2 : roX s2 hv sz ks w := x1.fr hI k (by omega)
  have u1 : rwR (cpR s0 0 6) (203 * 6) v := cp_to (a := 0) h0 hv0
  have u2 : rwR s2 (203 * 6) v := u1.fr k (by omega) hv0
  unfold rcA hvA szA
  by_cases q : 0 ≤ R
  · rw [if_pos q, if_pos q, if_pos q]
    exact rec_ro hI x2 h2 hV.1 u2 hv0 (Or.inr rfl)
  · rw [if_neg q, if_neg q, if_neg q]
    exact ⟨h2, x2⟩
def mdA (h : List PO) (m : Nat) (v : SV) (hv : Int → SV) (sz ks : Int) (w : SV) (tx : Int → Int) (len sn se : Int) : Prop := ∃ (s mk co : Int → Int) (fi ca sp le on tw : Int), moAt h m s tx mk co sz ks len sn se fi ca sp le on tw ∧ rwR s 0 v ∧ roX s hv sz ks w
set_option maxRecDepth 100000 in
set_option maxHeartbeats 4000000 in
theorem c_X6_dig (h : List PO) (m : Nat) (v : SV) (hv : Int → SV) (sz ks : Int) (sw : SV) (tx : Int → Int) (len sn se : Int) (c d : Int) (hA : mdA h m v hv sz ks sw tx len sn se) (hI : INV v hv sz ks sw tx len) (hc : inR c) (hd : inR d) : PM 7 yX6_dig cX6_dig 3 (some .int) h [r_ m, i_ c, i_ d] (fun r0 h2 => r0 = some (i_ (digR v c d)) ∧ Fr h h2 m (m + 5) ∧ mdA h2 m (digV v c d) (hvA hv sz v (digR v c d)) (szA sz (digR v c d)) (ks) (sw) (tx) (len) (sn) (se)) := by
  refine PM_of_G RX6 [some (r_ m), some (i_ c), some (i_ d)] rfl (by decide +kernel) (Nat.le_of_ble_eq_true rfl) rfl ?_
  obtain ⟨s, mk, co, fi, ca, sp, le, on, tw, hM, hR, hX⟩ := id hA
  obtain ⟨⟨hV, hT⟩, hsz, hhv, hks, hx, hl⟩ := id hI
  obtain ⟨⟨hrd, hrs, hrh⟩, ⟨hs0, hs1, hs2⟩, ⟨hn, hf, hfa⟩, ⟨hc0, hrr, hs, hz⟩, h49, hdi⟩ := id hV
  have hF : Fr h h m (m + 5) := Fr.rf
  obtain ⟨hM0, hM1, hM2, hM3, hM4⟩ := id hM
  refine G_aload_n dX6_dig_0 rfl rfl ?_
  refine G_iconst dX6_dig_1 ?_
  refine G_bipush dX6_dig_2 rfl ?_
  refine G_callV (ci := 6) (as := [_, _]) (c_X6_copies h m s tx mk co sz ks len sn se fi ca sp le on tw 0 6 hM (by omega) (by omega) (by omega)) dX6_dig_4 ml_X6_32 cv_X6_copies (by assumption) rfl rfl (Nat.le_of_ble_eq_true rfl) (Nat.le_of_ble_eq_true rfl) rfl (fun r h2 hp => ?_)
  obtain ⟨rfl, hF1, hM⟩ := hp
  have hF := hF.tr hF1
  have hR1 : rwR (cpR s 0 6) 0 v := hR.fr cpR_fr (by omega) hV
  obtain ⟨hM0, hM1, hM2, hM3, hM4⟩ := id hM
  refine G_aload_n dX6_dig_7 rfl rfl ?_
  refine G_aload_n dX6_dig_8 rfl rfl ?_
  refine G_iload_n dX6_dig_9 rfl rfl ?_
  refine G_iload_n dX6_dig_10 rfl rfl ?_
  refine G_callV (ci := 6) (as := [_, _]) (c_X6_digs _ m (cpR s 0 6) tx mk co sz ks len sn se fi ca sp le on tw c d v hM hR1 hV hc hd) dX6_dig_11 ml_X6_100 cv_X6_digs (by assumption) rfl rfl (Nat.le_of_ble_eq_true rfl) (Nat.le_of_ble_eq_true rfl) rfl (fun r h2 hp => ?_)
  obtain ⟨rfl, hF2, s2, mk2, co2, fi2, ca2, hM, hK, hR2⟩ := hp
  have hF := hF.tr hF2
  obtain ⟨hM0, hM1, hM2, hM3, hM4⟩ := id hM
  refine G_callV (ci := 6) (as := [_]) (c_X6_done _ m s2 tx mk2 co2 sz ks len sn se fi2 ca2 sp le on tw (digR v c d) hM hsz (inR_of (by have := digR_rng (c := c) (d := d) hV; omega) (by have := digR_rng (c := c) (d := d) hV; omega))) dX6_dig_14 ml_X6_103 cv_X6_done (by assumption) rfl rfl (Nat.le_of_ble_eq_true rfl) (Nat.le_of_ble_eq_true rfl) rfl (fun r h2 hp => ?_)
  obtain ⟨rfl, hF3, hM⟩ := hp
  have hF := hF.tr hF3
  refine G_ireturn dX6_dig_17 rfl ?_
  have k := act_ro hI hR hX hK hR2 (hI.1.dig) (digR v c d)
  exact ⟨rfl, hF, _, _, _, _, _, _, _, _, _, hM, k.1, k.2⟩
set_option maxRecDepth 100000 in
set_option maxHeartbeats 4000000 in
theorem c_X6_build (h : List PO) (m : Nat) (v : SV) (hv : Int → SV) (sz ks : Int) (sw : SV) (tx : Int → Int) (len sn se : Int) (c d : Int) (hA : mdA h m v hv sz ks sw tx len sn se) (hI : INV v hv sz ks sw tx len) (hc : inR c) (hd : inR d) : PM 7 yX6_build cX6_build 3 (some .int) h [r_ m, i_ c, i_ d] (fun r0 h2 => r0 = some (i_ (buildR v c d)) ∧ Fr h h2 m (m + 5) ∧ mdA h2 m (buildV v c d) (hvA hv sz v (buildR v c d)) (szA sz (buildR v c d)) (ks) (sw) (tx) (len) (sn) (se)) := by
  refine PM_of_G RX6 [some (r_ m), some (i_ c), some (i_ d)] rfl (by decide +kernel) (Nat.le_of_ble_eq_true rfl) rfl ?_
  obtain ⟨s, mk, co, fi, ca, sp, le, on, tw, hM, hR, hX⟩ := id hA
  obtain ⟨⟨hV, hT⟩, hsz, hhv, hks, hx, hl⟩ := id hI
  obtain ⟨⟨hrd, hrs, hrh⟩, ⟨hs0, hs1, hs2⟩, ⟨hn, hf, hfa⟩, ⟨hc0, hrr, hs, hz⟩, h49, hdi⟩ := id hV
  have hF : Fr h h m (m + 5) := Fr.rf
  obtain ⟨hM0, hM1, hM2, hM3, hM4⟩ := id hM
  refine G_aload_n dX6_build_0 rfl rfl ?_
  refine G_iconst dX6_build_1 ?_
  refine G_bipush dX6_build_2 rfl ?_
  refine G_callV (ci := 6) (as := [_, _]) (c_X6_copies h m s tx mk co sz ks len sn se fi ca sp le on tw 0 6 hM (by omega) (by omega) (by omega)) dX6_build_4 ml_X6_32 cv_X6_copies (by assumption) rfl rfl (Nat.le_of_ble_eq_true rfl) (Nat.le_of_ble_eq_true rfl) rfl (fun r h2 hp => ?_)
  obtain ⟨rfl, hF1, hM⟩ := hp
  have hF := hF.tr hF1
  have hR1 : rwR (cpR s 0 6) 0 v := hR.fr cpR_fr (by omega) hV
  obtain ⟨hM0, hM1, hM2, hM3, hM4⟩ := id hM
  refine G_aload_n dX6_build_7 rfl rfl ?_
  refine G_aload_n dX6_build_8 rfl rfl ?_
  refine G_iload_n dX6_build_9 rfl rfl ?_
  refine G_iload_n dX6_build_10 rfl rfl ?_
  refine G_callV (ci := 6) (as := [_, _]) (c_X6_builds _ m (cpR s 0 6) tx mk co sz ks len sn se fi ca sp le on tw c d v hM hR1 hV hc hd) dX6_build_11 ml_X6_106 cv_X6_builds (by assumption) rfl rfl (Nat.le_of_ble_eq_true rfl) (Nat.le_of_ble_eq_true rfl) rfl (fun r h2 hp => ?_)
  obtain ⟨rfl, hF2, s2, mk2, co2, fi2, ca2, hM, hK, hR2⟩ := hp
  have hF := hF.tr hF2
  obtain ⟨hM0, hM1, hM2, hM3, hM4⟩ := id hM
  refine G_callV (ci := 6) (as := [_]) (c_X6_done _ m s2 tx mk2 co2 sz ks len sn se fi2 ca2 sp le on tw (buildR v c d) hM hsz (inR_of (by have := buildR_rng (c := c) (d := d) hV; omega) (by have := buildR_rng (c := c) (d := d) hV; omega))) dX6_build_14 ml_X6_103 cv_X6_done (by assumption) rfl rfl (Nat.le_of_ble_eq_true rfl) (Nat.le_of_ble_eq_true rfl) rfl (fun r h2 hp => ?_)
  obtain ⟨rfl, hF3, hM⟩ := hp
  have hF := hF.tr hF3
  refine G_ireturn dX6_build_17 rfl ?_
  have k := act_ro hI hR hX hK hR2 (hI.1.build) (buildR v c d)
  exact ⟨rfl, hF, _, _, _, _, _, _, _, _, _, hM, k.1, k.2⟩
set_option maxRecDepth 100000 in
set_option maxHeartbeats 4000000 in
theorem c_X6_flow (h : List PO) (m : Nat) (v : SV) (hv : Int → SV) (sz ks : Int) (sw : SV) (tx : Int → Int) (len sn se : Int) (c : Int) (hA : mdA h m v hv sz ks sw tx len sn se) (hI : INV v hv sz ks sw tx len) (hc : inR c) : PM 7 yX6_flow cX6_flow 2 (some .int) h [r_ m, i_ c] (fun r0 h2 => r0 = some (i_ (flowR v c)) ∧ Fr h h2 m (m + 5) ∧ mdA h2 m (flowV v c) (hvA hv sz v (flowR v c)) (szA sz (flowR v c)) (ks) (sw) (tx) (len) (sn) (se)) := by
  refine PM_of_G RX6 [some (r_ m), some (i_ c)] rfl (by decide +kernel) (Nat.le_of_ble_eq_true rfl) rfl ?_
  obtain ⟨s, mk, co, fi, ca, sp, le, on, tw, hM, hR, hX⟩ := id hA
  obtain ⟨⟨hV, hT⟩, hsz, hhv, hks, hx, hl⟩ := id hI
  obtain ⟨⟨hrd, hrs, hrh⟩, ⟨hs0, hs1, hs2⟩, ⟨hn, hf, hfa⟩, ⟨hc0, hrr, hs, hz⟩, h49, hdi⟩ := id hV
  have hF : Fr h h m (m + 5) := Fr.rf
  obtain ⟨hM0, hM1, hM2, hM3, hM4⟩ := id hM
  refine G_aload_n dX6_flow_0 rfl rfl ?_
  refine G_iconst dX6_flow_1 ?_
  refine G_bipush dX6_flow_2 rfl ?_
  refine G_callV (ci := 6) (as := [_, _]) (c_X6_copies h m s tx mk co sz ks len sn se fi ca sp le on tw 0 6 hM (by omega) (by omega) (by omega)) dX6_flow_4 ml_X6_32 cv_X6_copies (by assumption) rfl rfl (Nat.le_of_ble_eq_true rfl) (Nat.le_of_ble_eq_true rfl) rfl (fun r h2 hp => ?_)
  obtain ⟨rfl, hF1, hM⟩ := hp
  have hF := hF.tr hF1
  have hR1 : rwR (cpR s 0 6) 0 v := hR.fr cpR_fr (by omega) hV
  obtain ⟨hM0, hM1, hM2, hM3, hM4⟩ := id hM
  refine G_aload_n dX6_flow_7 rfl rfl ?_
  refine G_aload_n dX6_flow_8 rfl rfl ?_
  refine G_iload_n dX6_flow_9 rfl rfl ?_
  refine G_callV (ci := 6) (as := [_]) (c_X6_flows _ m (cpR s 0 6) tx mk co sz ks len sn se fi ca sp le on tw c v hM hR1 hV hc) dX6_flow_10 ml_X6_109 cv_X6_flows (by assumption) rfl rfl (Nat.le_of_ble_eq_true rfl) (Nat.le_of_ble_eq_true rfl) rfl (fun r h2 hp => ?_)
  obtain ⟨rfl, hF2, s2, mk2, co2, fi2, ca2, hM, hK, hR2⟩ := hp
  have hF := hF.tr hF2
  obtain ⟨hM0, hM1, hM2, hM3, hM4⟩ := id hM
  refine G_callV (ci := 6) (as := [_]) (c_X6_done _ m s2 tx mk2 co2 sz ks len sn se fi2 ca2 sp le on tw (flowR v c) hM hsz (inR_of (by have := flowR_rng (q := c) hV; omega) (by have := flowR_rng (q := c) hV; omega))) dX6_flow_13 ml_X6_103 cv_X6_done (by assumption) rfl rfl (Nat.le_of_ble_eq_true rfl) (Nat.le_of_ble_eq_true rfl) rfl (fun r h2 hp => ?_)
  obtain ⟨rfl, hF3, hM⟩ := hp
  have hF := hF.tr hF3
  refine G_ireturn dX6_flow_16 rfl ?_
  have k := act_ro hI hR hX hK hR2 (hI.1.flow) (flowR v c)
  exact ⟨rfl, hF, _, _, _, _, _, _, _, _, _, hM, k.1, k.2⟩
set_option maxRecDepth 100000 in
set_option maxHeartbeats 4000000 in
theorem c_X6_set (h : List PO) (m : Nat) (v : SV) (hv : Int → SV) (sz ks : Int) (sw : SV) (tx : Int → Int) (len sn se : Int) (c d : Int) (hA : mdA h m v hv sz ks sw tx len sn se) (hI : INV v hv sz ks sw tx len) (hc : inR c) (hd : inR d) : PM 7 yX6_set cX6_set 3 (some .int) h [r_ m, i_ c, i_ d] (fun r0 h2 => r0 = some (i_ (setR v c d)) ∧ Fr h h2 m (m + 5) ∧ mdA h2 m (setV v c d) (hvA hv sz v (setR v c d)) (szA sz (setR v c d)) (ks) (sw) (tx) (len) (sn) (se)) := by
  refine PM_of_G RX6 [some (r_ m), some (i_ c), some (i_ d)] rfl (by decide +kernel) (Nat.le_of_ble_eq_true rfl) rfl ?_
  obtain ⟨s, mk, co, fi, ca, sp, le, on, tw, hM, hR, hX⟩ := id hA
  obtain ⟨⟨hV, hT⟩, hsz, hhv, hks, hx, hl⟩ := id hI
  obtain ⟨⟨hrd, hrs, hrh⟩, ⟨hs0, hs1, hs2⟩, ⟨hn, hf, hfa⟩, ⟨hc0, hrr, hs, hz⟩, h49, hdi⟩ := id hV
  have hF : Fr h h m (m + 5) := Fr.rf
  obtain ⟨hM0, hM1, hM2, hM3, hM4⟩ := id hM
  refine G_aload_n dX6_set_0 rfl rfl ?_
  refine G_iconst dX6_set_1 ?_
  refine G_bipush dX6_set_2 rfl ?_
  refine G_callV (ci := 6) (as := [_, _]) (c_X6_copies h m s tx mk co sz ks len sn se fi ca sp le on tw 0 6 hM (by omega) (by omega) (by omega)) dX6_set_4 ml_X6_32 cv_X6_copies (by assumption) rfl rfl (Nat.le_of_ble_eq_true rfl) (Nat.le_of_ble_eq_true rfl) rfl (fun r h2 hp => ?_)
  obtain ⟨rfl, hF1, hM⟩ := hp
  have hF := hF.tr hF1
  have hR1 : rwR (cpR s 0 6) 0 v := hR.fr cpR_fr (by omega) hV
  obtain ⟨hM0, hM1, hM2, hM3, hM4⟩ := id hM
  refine G_aload_n dX6_set_7 rfl rfl ?_
  refine G_aload_n dX6_set_8 rfl rfl ?_
  refine G_iload_n dX6_set_9 rfl rfl ?_
  refine G_iload_n dX6_set_10 rfl rfl ?_
  refine G_callV (ci := 6) (as := [_, _]) (c_X6_sets _ m (cpR s 0 6) tx mk co sz ks len sn se fi ca sp le on tw c d v hM hR1 hV hc hd) dX6_set_11 ml_X6_112 cv_X6_sets (by assumption) rfl rfl (Nat.le_of_ble_eq_true rfl) (Nat.le_of_ble_eq_true rfl) rfl (fun r h2 hp => ?_)
  obtain ⟨rfl, hF2, s2, mk2, co2, fi2, ca2, hM, hK, hR2⟩ := hp
  have hF := hF.tr hF2
  obtain ⟨hM0, hM1, hM2, hM3, hM4⟩ := id hM
  refine G_callV (ci := 6) (as := [_]) (c_X6_done _ m s2 tx mk2 co2 sz ks len sn se fi2 ca2 sp le on tw (setR v c d) hM hsz (inR_of (by have := setR_rng (w := c) (q := d) hV; omega) (by have := setR_rng (w := c) (q := d) hV; omega))) dX6_set_14 ml_X6_103 cv_X6_done (by assumption) rfl rfl (Nat.le_of_ble_eq_true rfl) (Nat.le_of_ble_eq_true rfl) rfl (fun r h2 hp => ?_)
  obtain ⟨rfl, hF3, hM⟩ := hp
  have hF := hF.tr hF3
  refine G_ireturn dX6_set_17 rfl ?_
  have k := act_ro hI hR hX hK hR2 (hI.1.set) (setR v c d)
  exact ⟨rfl, hF, _, _, _, _, _, _, _, _, _, hM, k.1, k.2⟩
set_option maxRecDepth 100000 in
set_option maxHeartbeats 4000000 in
theorem c_X6_sink (h : List PO) (m : Nat) (v : SV) (hv : Int → SV) (sz ks : Int) (sw : SV) (tx : Int → Int) (len sn se : Int) (c d : Int) (hA : mdA h m v hv sz ks sw tx len sn se) (hI : INV v hv sz ks sw tx len) (hc : inR c) (hd : inR d) : PM 7 yX6_sink cX6_sink 3 (some .int) h [r_ m, i_ c, i_ d] (fun r0 h2 => r0 = some (i_ (sinkR (v 4) (v 11 0) c d)) ∧ Fr h h2 m (m + 5) ∧ mdA h2 m (sinkV v c d) (hvA hv sz v (sinkR (v 4) (v 11 0) c d)) (szA sz (sinkR (v 4) (v 11 0) c d)) (ks) (sw) (tx) (len) (sn) (se)) := by
  refine PM_of_G RX6 [some (r_ m), some (i_ c), some (i_ d)] rfl (by decide +kernel) (Nat.le_of_ble_eq_true rfl) rfl ?_
  obtain ⟨s, mk, co, fi, ca, sp, le, on, tw, hM, hR, hX⟩ := id hA
  obtain ⟨⟨hV, hT⟩, hsz, hhv, hks, hx, hl⟩ := id hI
  obtain ⟨⟨hrd, hrs, hrh⟩, ⟨hs0, hs1, hs2⟩, ⟨hn, hf, hfa⟩, ⟨hc0, hrr, hs, hz⟩, h49, hdi⟩ := id hV
  have hF : Fr h h m (m + 5) := Fr.rf
  obtain ⟨hM0, hM1, hM2, hM3, hM4⟩ := id hM
  refine G_aload_n dX6_sink_0 rfl rfl ?_
  refine G_iconst dX6_sink_1 ?_
  refine G_bipush dX6_sink_2 rfl ?_
  refine G_callV (ci := 6) (as := [_, _]) (c_X6_copies h m s tx mk co sz ks len sn se fi ca sp le on tw 0 6 hM (by omega) (by omega) (by omega)) dX6_sink_4 ml_X6_32 cv_X6_copies (by assumption) rfl rfl (Nat.le_of_ble_eq_true rfl) (Nat.le_of_ble_eq_true rfl) rfl (fun r h2 hp => ?_)
  obtain ⟨rfl, hF1, hM⟩ := hp
  have hF := hF.tr hF1
  have hR1 : rwR (cpR s 0 6) 0 v := hR.fr cpR_fr (by omega) hV
  obtain ⟨hM0, hM1, hM2, hM3, hM4⟩ := id hM
  refine G_aload_n dX6_sink_7 rfl rfl ?_
  refine G_aload_n dX6_sink_8 rfl rfl ?_
  refine G_iload_n dX6_sink_9 rfl rfl ?_
  refine G_iload_n dX6_sink_10 rfl rfl ?_
  refine G_callV (ci := 6) (as := [_, _]) (c_X6_sinks _ m (cpR s 0 6) tx mk co sz ks len sn se fi ca sp le on tw c d v hM hR1 hV hc hd) dX6_sink_11 ml_X6_115 cv_X6_sinks (by assumption) rfl rfl (Nat.le_of_ble_eq_true rfl) (Nat.le_of_ble_eq_true rfl) rfl (fun r h2 hp => ?_)
  obtain ⟨rfl, hF2, s2, mk2, co2, fi2, ca2, hM, hK, hR2⟩ := hp
  have hF := hF.tr hF2
  obtain ⟨hM0, hM1, hM2, hM3, hM4⟩ := id hM
  refine G_callV (ci := 6) (as := [_]) (c_X6_done _ m s2 tx mk2 co2 sz ks len sn se fi2 ca2 sp le on tw (sinkR (v 4) (v 11 0) c d) hM hsz (inR_of (by have := sinkR_rng (k := c) (q := d) hV; omega) (by have := sinkR_rng (k := c) (q := d) hV; omega))) dX6_sink_14 ml_X6_103 cv_X6_done (by assumption) rfl rfl (Nat.le_of_ble_eq_true rfl) (Nat.le_of_ble_eq_true rfl) rfl (fun r h2 hp => ?_)
  obtain ⟨rfl, hF3, hM⟩ := hp
  have hF := hF.tr hF3
  refine G_ireturn dX6_sink_17 rfl ?_
  have k := act_ro hI hR hX hK hR2 (hI.1.sink) (sinkR (v 4) (v 11 0) c d)
  exact ⟨rfl, hF, _, _, _, _, _, _, _, _, _, hM, k.1, k.2⟩
set_option maxRecDepth 100000 in
set_option maxHeartbeats 4000000 in
theorem c_X6_fillIn (h : List PO) (m : Nat) (v : SV) (hv : Int → SV) (sz ks : Int) (sw : SV) (tx : Int → Int) (len sn se : Int) (c : Int) (hA : mdA h m v hv sz ks sw tx len sn se) (hI : INV v hv sz ks sw tx len) (hc : inR c) : PM 7 yX6_fillIn cX6_fillIn 2 (some .int) h [r_ m, i_ c] (fun r0 h2 => r0 = some (i_ (fillR (v 6) (v 11 0) c)) ∧ Fr h h2 m (m + 5) ∧ mdA h2 m (fillV v c) (hvA hv sz v (fillR (v 6) (v 11 0) c)) (szA sz (fillR (v 6) (v 11 0) c)) (ks) (sw) (tx) (len) (sn) (se)) := by
  refine PM_of_G RX6 [some (r_ m), some (i_ c)] rfl (by decide +kernel) (Nat.le_of_ble_eq_true rfl) rfl ?_
  obtain ⟨s, mk, co, fi, ca, sp, le, on, tw, hM, hR, hX⟩ := id hA
  obtain ⟨⟨hV, hT⟩, hsz, hhv, hks, hx, hl⟩ := id hI
  obtain ⟨⟨hrd, hrs, hrh⟩, ⟨hs0, hs1, hs2⟩, ⟨hn, hf, hfa⟩, ⟨hc0, hrr, hs, hz⟩, h49, hdi⟩ := id hV
  have hF : Fr h h m (m + 5) := Fr.rf
  obtain ⟨hM0, hM1, hM2, hM3, hM4⟩ := id hM
  refine G_aload_n dX6_fillIn_0 rfl rfl ?_
  refine G_iconst dX6_fillIn_1 ?_
  refine G_bipush dX6_fillIn_2 rfl ?_
  refine G_callV (ci := 6) (as := [_, _]) (c_X6_copies h m s tx mk co sz ks len sn se fi ca sp le on tw 0 6 hM (by omega) (by omega) (by omega)) dX6_fillIn_4 ml_X6_32 cv_X6_copies (by assumption) rfl rfl (Nat.le_of_ble_eq_true rfl) (Nat.le_of_ble_eq_true rfl) rfl (fun r h2 hp => ?_)
  obtain ⟨rfl, hF1, hM⟩ := hp
  have hF := hF.tr hF1
  have hR1 : rwR (cpR s 0 6) 0 v := hR.fr cpR_fr (by omega) hV
  obtain ⟨hM0, hM1, hM2, hM3, hM4⟩ := id hM
  refine G_aload_n dX6_fillIn_7 rfl rfl ?_
  refine G_aload_n dX6_fillIn_8 rfl rfl ?_
  refine G_iload_n dX6_fillIn_9 rfl rfl ?_
  refine G_callV (ci := 6) (as := [_]) (c_X6_fills _ m (cpR s 0 6) tx mk co sz ks len sn se fi ca sp le on tw c v hM hR1 hV hc) dX6_fillIn_10 ml_X6_118 cv_X6_fills (by assumption) rfl rfl (Nat.le_of_ble_eq_true rfl) (Nat.le_of_ble_eq_true rfl) rfl (fun r h2 hp => ?_)
  obtain ⟨rfl, hF2, s2, mk2, co2, fi2, ca2, hM, hK, hR2⟩ := hp
  have hF := hF.tr hF2
  obtain ⟨hM0, hM1, hM2, hM3, hM4⟩ := id hM
  refine G_callV (ci := 6) (as := [_]) (c_X6_done _ m s2 tx mk2 co2 sz ks len sn se fi2 ca2 sp le on tw (fillR (v 6) (v 11 0) c) hM hsz (inR_of (by have := fillR_rng (w := c) hV; omega) (by have := fillR_rng (w := c) hV; omega))) dX6_fillIn_13 ml_X6_103 cv_X6_done (by assumption) rfl rfl (Nat.le_of_ble_eq_true rfl) (Nat.le_of_ble_eq_true rfl) rfl (fun r h2 hp => ?_)
  obtain ⟨rfl, hF3, hM⟩ := hp
  have hF := hF.tr hF3
  refine G_ireturn dX6_fillIn_16 rfl ?_
  have k := act_ro hI hR hX hK hR2 (hI.1.fill) (fillR (v 6) (v 11 0) c)
  exact ⟨rfl, hF, _, _, _, _, _, _, _, _, _, hM, k.1, k.2⟩
set_option maxRecDepth 100000 in
set_option maxHeartbeats 4000000 in
theorem c_X6_setRate (h : List PO) (m : Nat) (v : SV) (hv : Int → SV) (sz ks : Int) (sw : SV) (tx : Int → Int) (len sn se : Int) (c d : Int) (hA : mdA h m v hv sz ks sw tx len sn se) (hI : INV v hv sz ks sw tx len) (hc : inR c) (hd : inR d) : PM 7 yX6_setRate cX6_setRate 3 (some .int) h [r_ m, i_ c, i_ d] (fun r0 h2 => r0 = some (i_ (rateR (v 5) (v 11 0) c d)) ∧ Fr h h2 m (m + 5) ∧ mdA h2 m (rateV v c d) (hvA hv sz v (rateR (v 5) (v 11 0) c d)) (szA sz (rateR (v 5) (v 11 0) c d)) (ks) (sw) (tx) (len) (sn) (se)) := by
  refine PM_of_G RX6 [some (r_ m), some (i_ c), some (i_ d)] rfl (by decide +kernel) (Nat.le_of_ble_eq_true rfl) rfl ?_
  obtain ⟨s, mk, co, fi, ca, sp, le, on, tw, hM, hR, hX⟩ := id hA
  obtain ⟨⟨hV, hT⟩, hsz, hhv, hks, hx, hl⟩ := id hI
  obtain ⟨⟨hrd, hrs, hrh⟩, ⟨hs0, hs1, hs2⟩, ⟨hn, hf, hfa⟩, ⟨hc0, hrr, hs, hz⟩, h49, hdi⟩ := id hV
  have hF : Fr h h m (m + 5) := Fr.rf
  obtain ⟨hM0, hM1, hM2, hM3, hM4⟩ := id hM
  refine G_aload_n dX6_setRate_0 rfl rfl ?_
  refine G_iconst dX6_setRate_1 ?_
  refine G_bipush dX6_setRate_2 rfl ?_
  refine G_callV (ci := 6) (as := [_, _]) (c_X6_copies h m s tx mk co sz ks len sn se fi ca sp le on tw 0 6 hM (by omega) (by omega) (by omega)) dX6_setRate_4 ml_X6_32 cv_X6_copies (by assumption) rfl rfl (Nat.le_of_ble_eq_true rfl) (Nat.le_of_ble_eq_true rfl) rfl (fun r h2 hp => ?_)
  obtain ⟨rfl, hF1, hM⟩ := hp
  have hF := hF.tr hF1
  have hR1 : rwR (cpR s 0 6) 0 v := hR.fr cpR_fr (by omega) hV
  obtain ⟨hM0, hM1, hM2, hM3, hM4⟩ := id hM
  refine G_aload_n dX6_setRate_7 rfl rfl ?_
  refine G_aload_n dX6_setRate_8 rfl rfl ?_
  refine G_iload_n dX6_setRate_9 rfl rfl ?_
  refine G_iload_n dX6_setRate_10 rfl rfl ?_
  refine G_callV (ci := 6) (as := [_, _]) (c_X6_rates _ m (cpR s 0 6) tx mk co sz ks len sn se fi ca sp le on tw c d v hM hR1 hV hc hd) dX6_setRate_11 ml_X6_121 cv_X6_rates (by assumption) rfl rfl (Nat.le_of_ble_eq_true rfl) (Nat.le_of_ble_eq_true rfl) rfl (fun r h2 hp => ?_)
  obtain ⟨rfl, hF2, s2, mk2, co2, fi2, ca2, hM, hK, hR2⟩ := hp
  have hF := hF.tr hF2
  obtain ⟨hM0, hM1, hM2, hM3, hM4⟩ := id hM
  refine G_callV (ci := 6) (as := [_]) (c_X6_done _ m s2 tx mk2 co2 sz ks len sn se fi2 ca2 sp le on tw (rateR (v 5) (v 11 0) c d) hM hsz (inR_of (by have := rateR_rng (w := c) (q := d) hV; omega) (by have := rateR_rng (w := c) (q := d) hV; omega))) dX6_setRate_14 ml_X6_103 cv_X6_done (by assumption) rfl rfl (Nat.le_of_ble_eq_true rfl) (Nat.le_of_ble_eq_true rfl) rfl (fun r h2 hp => ?_)
  obtain ⟨rfl, hF3, hM⟩ := hp
  have hF := hF.tr hF3
  refine G_ireturn dX6_setRate_17 rfl ?_
  have k := act_ro hI hR hX hK hR2 (hI.1.rate) (rateR (v 5) (v 11 0) c d)
  exact ⟨rfl, hF, _, _, _, _, _, _, _, _, _, hM, k.1, k.2⟩
set_option maxRecDepth 100000 in
set_option maxHeartbeats 4000000 in
theorem c_X6_tide (h : List PO) (m : Nat) (v : SV) (hv : Int → SV) (sz ks : Int) (sw : SV) (tx : Int → Int) (len sn se : Int) (c d : Int) (hA : mdA h m v hv sz ks sw tx len sn se) (hI : INV v hv sz ks sw tx len) (hc : inR c) (hd : inR d) : PM 7 yX6_tide cX6_tide 3 (some .int) h [r_ m, i_ c, i_ d] (fun r0 h2 => r0 = some (i_ (tidesR v c d)) ∧ Fr h h2 m (m + 5) ∧ mdA h2 m (tidesV v c d) (hvA hv sz v (tidesR v c d)) (szA sz (tidesR v c d)) (ks) (sw) (tx) (len) (sn) (se)) := by
  refine PM_of_G RX6 [some (r_ m), some (i_ c), some (i_ d)] rfl (by decide +kernel) (Nat.le_of_ble_eq_true rfl) rfl ?_
  obtain ⟨s, mk, co, fi, ca, sp, le, on, tw, hM, hR, hX⟩ := id hA
  obtain ⟨⟨hV, hT⟩, hsz, hhv, hks, hx, hl⟩ := id hI
  obtain ⟨⟨hrd, hrs, hrh⟩, ⟨hs0, hs1, hs2⟩, ⟨hn, hf, hfa⟩, ⟨hc0, hrr, hs, hz⟩, h49, hdi⟩ := id hV
  have hF : Fr h h m (m + 5) := Fr.rf
  obtain ⟨hM0, hM1, hM2, hM3, hM4⟩ := id hM
  refine G_aload_n dX6_tide_0 rfl rfl ?_
  refine G_iconst dX6_tide_1 ?_
  refine G_bipush dX6_tide_2 rfl ?_
  refine G_callV (ci := 6) (as := [_, _]) (c_X6_copies h m s tx mk co sz ks len sn se fi ca sp le on tw 0 6 hM (by omega) (by omega) (by omega)) dX6_tide_4 ml_X6_32 cv_X6_copies (by assumption) rfl rfl (Nat.le_of_ble_eq_true rfl) (Nat.le_of_ble_eq_true rfl) rfl (fun r h2 hp => ?_)
  obtain ⟨rfl, hF1, hM⟩ := hp
  have hF := hF.tr hF1
  have hR1 : rwR (cpR s 0 6) 0 v := hR.fr cpR_fr (by omega) hV
  obtain ⟨hM0, hM1, hM2, hM3, hM4⟩ := id hM
  refine G_aload_n dX6_tide_7 rfl rfl ?_
  refine G_aload_n dX6_tide_8 rfl rfl ?_
  refine G_iload_n dX6_tide_9 rfl rfl ?_
  refine G_iload_n dX6_tide_10 rfl rfl ?_
  refine G_callV (ci := 6) (as := [_, _]) (c_X6_tides _ m (cpR s 0 6) tx mk co sz ks len sn se fi ca sp le on tw c d v hM hR1 hV hT hc hd) dX6_tide_11 ml_X6_124 cv_X6_tides (by assumption) rfl rfl (Nat.le_of_ble_eq_true rfl) (Nat.le_of_ble_eq_true rfl) rfl (fun r h2 hp => ?_)
  obtain ⟨rfl, hF2, s2, mk2, co2, fi2, ca2, hM, hK, hR2⟩ := hp
  have hF := hF.tr hF2
  obtain ⟨hM0, hM1, hM2, hM3, hM4⟩ := id hM
  refine G_callV (ci := 6) (as := [_]) (c_X6_done _ m s2 tx mk2 co2 sz ks len sn se fi2 ca2 sp le on tw (tidesR v c d) hM hsz (inR_of (by have := tidesR_rng (v := v) (a := c) (b := d); omega) (by have := tidesR_rng (v := v) (a := c) (b := d); omega))) dX6_tide_14 ml_X6_103 cv_X6_done (by assumption) rfl rfl (Nat.le_of_ble_eq_true rfl) (Nat.le_of_ble_eq_true rfl) rfl (fun r h2 hp => ?_)
  obtain ⟨rfl, hF3, hM⟩ := hp
  have hF := hF.tr hF3
  refine G_ireturn dX6_tide_17 rfl ?_
  have k := act_ro hI hR hX hK hR2 (hI.1.tides) (tidesR v c d)
  exact ⟨rfl, hF, _, _, _, _, _, _, _, _, _, hM, k.1, k.2⟩
set_option maxRecDepth 100000 in
set_option maxHeartbeats 4000000 in
theorem c_X6_type (h : List PO) (m : Nat) (v : SV) (hv : Int → SV) (sz ks : Int) (sw : SV) (tx : Int → Int) (len sn se : Int) (c : Int) (hA : mdA h m v hv sz ks sw tx len sn se) (hI : INV v hv sz ks sw tx len) (hc : 0 ≤ c ∧ c ≤ 65535) : PM 7 yX6_type cX6_type 2 (some .int) h [r_ m, i_ c] (fun r0 h2 => r0 = some (i_ (typR len)) ∧ Fr h h2 m (m + 5) ∧ mdA h2 m (v) (hv) (sz) (ks) (sw) (typT tx len c) (typL len) (sn) (se)) := by
  refine PM_of_G RX6 [some (r_ m), some (i_ c)] rfl (by decide +kernel) (Nat.le_of_ble_eq_true rfl) rfl ?_
  obtain ⟨s, mk, co, fi, ca, sp, le, on, tw, hM, hR, hX⟩ := id hA
  obtain ⟨⟨hV, hT⟩, hsz, hhv, hks, hx, hl⟩ := id hI
  obtain ⟨⟨hrd, hrs, hrh⟩, ⟨hs0, hs1, hs2⟩, ⟨hn, hf, hfa⟩, ⟨hc0, hrr, hs, hz⟩, h49, hdi⟩ := id hV
  have hF : Fr h h m (m + 5) := Fr.rf
  obtain ⟨hM0, hM1, hM2, hM3, hM4⟩ := id hM
  refine G_aload_n dX6_type_0 rfl rfl ?_
  refine G_getf fl_X6_127 dX6_type_1 (by assumption) rfl ?_
  refine G_bipush dX6_type_4 rfl ?_
  refine G_icmp_ne (tgt := 12) dX6_type_6 (by decide) (inR_of (by omega) (by omega)) (inR_of (by omega) (by omega)) (fun hc6 => ?_) (fun hc6 => ?_)
  · skip
    refine G_aload_n dX6_type_12 rfl rfl ?_
    refine G_getf fl_X6_13 dX6_type_13 (by assumption) rfl ?_
    refine G_aload_n dX6_type_16 rfl rfl ?_
    refine G_getf fl_X6_127 dX6_type_17 (by assumption) rfl ?_
    refine G_iload_n dX6_type_20 rfl rfl ?_
    refine G_iast dX6_type_21 (by assumption) (by omega) (by omega) (by decide) rfl ?_
    have hM := hM.set2 (fup tx len c)
    obtain ⟨hM0, hM1, hM2, hM3, hM4⟩ := id hM
    have hF := hF.tr (Fr.set (o := oI 60 (fup tx len c)) (show m ≤ m + 2 by omega) (show m + 2 < m + 5 by omega))
    refine G_aload_n dX6_type_22 rfl rfl ?_
    refine G_dup dX6_type_23 ?_
    refine G_getf fl_X6_127 dX6_type_24 (by assumption) rfl ?_
    refine G_iconst dX6_type_27 ?_
    refine G_iadd dX6_type_28 ?_
    refine G_putI (fs2 := [r_ (m + 1), i_ (sz), i_ (ks), r_ (m + 2), i_ (len + 1), i_ (sn), i_ (se), r_ (m + 3), i_ (fi), i_ (ca), r_ (m + 4), i_ (sp), i_ (le), i_ (on), i_ (tw)]) fp_X6_127 dX6_type_29 (by assumption) (Nat.le_of_ble_eq_true rfl) rfl ?_
    have hM := hM.obj (sz) (ks) (len + 1) (sn) (se) (fi) (ca) (sp) (le) (on) (tw)
    obtain ⟨hM0, hM1, hM2, hM3, hM4⟩ := id hM
    have hF := hF.tr (Fr.set (o := oMod m (sz) (ks) (len + 1) (sn) (se) (fi) (ca) (sp) (le) (on) (tw)) (show m ≤ m by omega) (show m < m + 5 by omega))
    refine G_aload_n dX6_type_32 rfl rfl ?_
    refine G_getf fl_X6_127 dX6_type_33 (by assumption) rfl ?_
    refine G_ireturn dX6_type_36 rfl ?_
    have e1 : typR len = len + 1 := by unfold typR; rw [if_pos (by omega)]
    have e2 : typT tx len c = fup tx len c := by unfold typT; rw [if_pos (by omega)]
    have e3 : typL len = len + 1 := by unfold typL; rw [if_pos (by omega)]
    rw [e1, e2, e3]
    exact ⟨rfl, hF, _, _, _, _, _, _, _, _, _, hM, hR, hX⟩
  · skip
    refine G_bipush dX6_type_9 rfl ?_
    refine G_ireturn dX6_type_11 rfl ?_
    have e1 : typR len = -3 := by unfold typR; rw [if_neg (by omega)]
    have e2 : typT tx len c = tx := by unfold typT; rw [if_neg (by omega)]
    have e3 : typL len = len := by unfold typL; rw [if_neg (by omega)]
    rw [e1, e2, e3]
    exact ⟨rfl, hF, _, _, _, _, _, _, _, _, _, hM, hR, hX⟩
set_option maxRecDepth 100000 in
set_option maxHeartbeats 4000000 in
theorem c_X6_clearText (h : List PO) (m : Nat) (v : SV) (hv : Int → SV) (sz ks : Int) (sw : SV) (tx : Int → Int) (len sn se : Int) (hA : mdA h m v hv sz ks sw tx len sn se) (hI : INV v hv sz ks sw tx len) : PM 7 yX6_clearText cX6_clearText 2 (some .int) h [r_ m] (fun r0 h2 => r0 = some (i_ (len)) ∧ Fr h h2 m (m + 5) ∧ mdA h2 m (v) (hv) (sz) (ks) (sw) (tx) (0) (sn) (se)) := by
  refine PM_of_G RX6 [some (r_ m), none] rfl (by decide +kernel) (Nat.le_of_ble_eq_true rfl) rfl ?_
  obtain ⟨s, mk, co, fi, ca, sp, le, on, tw, hM, hR, hX⟩ := id hA
  obtain ⟨⟨hV, hT⟩, hsz, hhv, hks, hx, hl⟩ := id hI
  obtain ⟨⟨hrd, hrs, hrh⟩, ⟨hs0, hs1, hs2⟩, ⟨hn, hf, hfa⟩, ⟨hc0, hrr, hs, hz⟩, h49, hdi⟩ := id hV
  have hF : Fr h h m (m + 5) := Fr.rf
  obtain ⟨hM0, hM1, hM2, hM3, hM4⟩ := id hM
  refine G_aload_n dX6_clearText_0 rfl rfl ?_
  refine G_getf fl_X6_127 dX6_clearText_1 (by assumption) rfl ?_
  refine G_istore_n dX6_clearText_4 rfl (by decide) rfl ?_
  refine G_aload_n dX6_clearText_5 rfl rfl ?_
  refine G_iconst dX6_clearText_6 ?_
  refine G_putI (fs2 := [r_ (m + 1), i_ (sz), i_ (ks), r_ (m + 2), i_ (0), i_ (sn), i_ (se), r_ (m + 3), i_ (fi), i_ (ca), r_ (m + 4), i_ (sp), i_ (le), i_ (on), i_ (tw)]) fp_X6_127 dX6_clearText_7 (by assumption) (Nat.le_of_ble_eq_true rfl) rfl ?_
  have hM := hM.obj (sz) (ks) (0) (sn) (se) (fi) (ca) (sp) (le) (on) (tw)
  obtain ⟨hM0, hM1, hM2, hM3, hM4⟩ := id hM
  have hF := hF.tr (Fr.set (o := oMod m (sz) (ks) (0) (sn) (se) (fi) (ca) (sp) (le) (on) (tw)) (show m ≤ m by omega) (show m < m + 5 by omega))
  refine G_iload_n dX6_clearText_10 rfl rfl ?_
  refine G_ireturn dX6_clearText_11 rfl ?_
  exact ⟨rfl, hF, _, _, _, _, _, _, _, _, _, hM, hR, hX⟩
set_option maxRecDepth 100000 in
set_option maxHeartbeats 4000000 in
theorem c_X6_stopped (h : List PO) (m : Nat) (v : SV) (hv : Int → SV) (sz ks : Int) (sw : SV) (tx : Int → Int) (len sn se : Int) (c : Int) (hA : mdA h m v hv sz ks sw tx len sn se) (hI : INV v hv sz ks sw tx len) (hc : inR c) : PM 7 yX6_stopped cX6_stopped 2 (some .int) h [r_ m, i_ c] (fun r0 h2 => r0 = some (i_ (stpR sn se c)) ∧ Fr h h2 m (m + 5) ∧ mdA h2 m (v) (hv) (sz) (ks) (sw) (tx) (len) (sn) (se)) := by
  refine PM_of_G RX6 [some (r_ m), some (i_ c)] rfl (by decide +kernel) (Nat.le_of_ble_eq_true rfl) rfl ?_
  obtain ⟨s, mk, co, fi, ca, sp, le, on, tw, hM, hR, hX⟩ := id hA
  obtain ⟨⟨hV, hT⟩, hsz, hhv, hks, hx, hl⟩ := id hI
  obtain ⟨⟨hrd, hrs, hrh⟩, ⟨hs0, hs1, hs2⟩, ⟨hn, hf, hfa⟩, ⟨hc0, hrr, hs, hz⟩, h49, hdi⟩ := id hV
  have hF : Fr h h m (m + 5) := Fr.rf
  obtain ⟨hM0, hM1, hM2, hM3, hM4⟩ := id hM
  have hc1 := hc.1
  have hc2 := hc.2
  refine G_iload_n dX6_stopped_0 rfl rfl ?_
  refine G_iconst dX6_stopped_1 ?_
  refine G_iconst dX6_stopped_2 ?_
  refine G_callS (as := [_, _, _]) (c_X6_in _ (c) (0) (1) (inR_of (by omega) (by omega)) (inR_of (by omega) (by omega)) (inR_of (by omega) (by omega))) dX6_stopped_3 ml_X6_70 cs_X6_in rfl (Nat.le_of_ble_eq_true rfl) (Nat.le_of_ble_eq_true rfl) rfl (fun r h2 hp => ?_)
  obtain ⟨y, rfl, rfl, hy⟩ := hp
  refine G_if_ne (tgt := 14) dX6_stopped_6 (by decide) (inR_of (by omega) (by omega)) (fun hc6 => ?_) (fun hc6 => ?_)
  · skip
    refine G_iload_n dX6_stopped_14 rfl rfl ?_
    refine G_if_ne (tgt := 25) dX6_stopped_15 (by decide) (inR_of (by omega) (by omega)) (fun hc15 => ?_) (fun hc15 => ?_)
    · skip
      refine G_aload_n dX6_stopped_25 rfl rfl ?_
      refine G_getf fl_X6_20 dX6_stopped_26 (by assumption) rfl ?_
      refine G_ireturn dX6_stopped_29 rfl ?_
      first
        | (have e9 : stpR sn se c = -2 := by unfold stpR; rw [if_pos (by omega)]
           rw [e9]
           exact ⟨rfl, Fr.rf, hA⟩)
        | (have e9 : stpR sn se c = sn := by unfold stpR; rw [if_neg (by omega), if_pos (by omega)]
           rw [e9]
           exact ⟨rfl, Fr.rf, hA⟩)
        | (have e9 : stpR sn se c = se := by unfold stpR; rw [if_neg (by omega), if_neg (by omega)]
           rw [e9]
           exact ⟨rfl, Fr.rf, hA⟩)
    · skip
      refine G_aload_n dX6_stopped_18 rfl rfl ?_
      refine G_getf fl_X6_16 dX6_stopped_19 (by assumption) rfl ?_
      refine G_goto (tgt := 29) dX6_stopped_22 (by decide) ?_
      refine G_ireturn dX6_stopped_29 rfl ?_
      first
        | (have e9 : stpR sn se c = -2 := by unfold stpR; rw [if_pos (by omega)]
           rw [e9]
           exact ⟨rfl, Fr.rf, hA⟩)
        | (have e9 : stpR sn se c = sn := by unfold stpR; rw [if_neg (by omega), if_pos (by omega)]
           rw [e9]
           exact ⟨rfl, Fr.rf, hA⟩)
        | (have e9 : stpR sn se c = se := by unfold stpR; rw [if_neg (by omega), if_neg (by omega)]
           rw [e9]
           exact ⟨rfl, Fr.rf, hA⟩)
  · skip
    refine G_bipush dX6_stopped_9 rfl ?_
    refine G_goto (tgt := 29) dX6_stopped_11 (by decide) ?_
    refine G_ireturn dX6_stopped_29 rfl ?_
    first
      | (have e9 : stpR sn se c = -2 := by unfold stpR; rw [if_pos (by omega)]
         rw [e9]
         exact ⟨rfl, Fr.rf, hA⟩)
      | (have e9 : stpR sn se c = sn := by unfold stpR; rw [if_neg (by omega), if_pos (by omega)]
         rw [e9]
         exact ⟨rfl, Fr.rf, hA⟩)
      | (have e9 : stpR sn se c = se := by unfold stpR; rw [if_neg (by omega), if_neg (by omega)]
         rw [e9]
         exact ⟨rfl, Fr.rf, hA⟩)
set_option maxRecDepth 100000 in
set_option maxHeartbeats 4000000 in
theorem c_X6_undo (h : List PO) (m : Nat) (v : SV) (hv : Int → SV) (sz ks : Int) (sw : SV) (tx : Int → Int) (len sn se : Int) (hA : mdA h m v hv sz ks sw tx len sn se) (hI : INV v hv sz ks sw tx len) : PM 7 yX6_undo cX6_undo 1 (some .int) h [r_ m] (fun r0 h2 => r0 = some (i_ (undR sz)) ∧ Fr h h2 m (m + 5) ∧ mdA h2 m (undV v hv sz) (hv) (undZ sz) (ks) (sw) (tx) (len) (sn) (se)) := by
  refine PM_of_G RX6 [some (r_ m)] rfl (by decide +kernel) (Nat.le_of_ble_eq_true rfl) rfl ?_
  obtain ⟨s, mk, co, fi, ca, sp, le, on, tw, hM, hR, hX⟩ := id hA
  obtain ⟨⟨hV, hT⟩, hsz, hhv, hks, hx, hl⟩ := id hI
  obtain ⟨⟨hrd, hrs, hrh⟩, ⟨hs0, hs1, hs2⟩, ⟨hn, hf, hfa⟩, ⟨hc0, hrr, hs, hz⟩, h49, hdi⟩ := id hV
  have hF : Fr h h m (m + 5) := Fr.rf
  obtain ⟨hM0, hM1, hM2, hM3, hM4⟩ := id hM
  refine G_aload_n dX6_undo_0 rfl rfl ?_
  refine G_getf fl_X6_29 dX6_undo_1 (by assumption) rfl ?_
  refine G_if_ne (tgt := 10) dX6_undo_4 (by decide) (inR_of (by omega) (by omega)) (fun hc4 => ?_) (fun hc4 => ?_)
  · skip
    refine G_aload_n dX6_undo_10 rfl rfl ?_
    refine G_aload_n dX6_undo_11 rfl rfl ?_
    refine G_getf fl_X6_29 dX6_undo_12 (by assumption) rfl ?_
    refine G_iconst dX6_undo_15 ?_
    refine G_callV (ci := 6) (as := [_, _]) (c_X6_copies h m s tx mk co sz ks len sn se fi ca sp le on tw sz 0 hM (by omega) (by omega) (by omega)) dX6_undo_16 ml_X6_32 cv_X6_copies (by assumption) rfl rfl (Nat.le_of_ble_eq_true rfl) (Nat.le_of_ble_eq_true rfl) rfl (fun r h2 hp => ?_)
    obtain ⟨rfl, hF1, hM⟩ := hp
    have hF := hF.tr hF1
    obtain ⟨hM0, hM1, hM2, hM3, hM4⟩ := id hM
    refine G_aload_n dX6_undo_19 rfl rfl ?_
    refine G_dup dX6_undo_20 ?_
    refine G_getf fl_X6_29 dX6_undo_21 (by assumption) rfl ?_
    refine G_iconst dX6_undo_24 ?_
    refine G_isub dX6_undo_25 ?_
    refine G_putI (fs2 := [r_ (m + 1), i_ (sz - 1), i_ (ks), r_ (m + 2), i_ (len), i_ (sn), i_ (se), r_ (m + 3), i_ (fi), i_ (ca), r_ (m + 4), i_ (sp), i_ (le), i_ (on), i_ (tw)]) fp_X6_29 dX6_undo_26 (by assumption) (Nat.le_of_ble_eq_true rfl) rfl ?_
    have hM := hM.obj (sz - 1) (ks) (len) (sn) (se) (fi) (ca) (sp) (le) (on) (tw)
    obtain ⟨hM0, hM1, hM2, hM3, hM4⟩ := id hM
    have hF := hF.tr (Fr.set (o := oMod m (sz - 1) (ks) (len) (sn) (se) (fi) (ca) (sp) (le) (on) (tw)) (show m ≤ m by omega) (show m < m + 5 by omega))
    refine G_aload_n dX6_undo_29 rfl rfl ?_
    refine G_getf fl_X6_29 dX6_undo_30 (by assumption) rfl ?_
    refine G_ireturn dX6_undo_33 rfl ?_
    have e1 : undR sz = sz - 1 := by unfold undR; rw [if_neg (by omega)]
    have e2 : undV v hv sz = hv (sz - 1) := by unfold undV; rw [if_neg (by omega)]
    have e3 : undZ sz = sz - 1 := by unfold undZ; rw [if_neg (by omega)]
    rw [e1, e2, e3]
    have hr := hX.1 (sz - 1) (by omega) (by omega)
    rw [show sz - 1 + 1 = sz from by omega] at hr
    have hr2 : rwR (cpR s sz 0) (203 * 0) (hv (sz - 1)) := cp_to hr (hhv _ (by omega) (by omega)).1
    have hx2 : roX (cpR s sz 0) hv sz ks sw := hX.fr hI cpR_fr (by omega)
    exact ⟨rfl, hF, _, _, _, _, _, _, _, _, _, hM, hr2, fun i i0 i1 => hx2.1 i i0 (by omega), hx2.2⟩
  · skip
    refine G_bipush dX6_undo_7 rfl ?_
    refine G_ireturn dX6_undo_9 rfl ?_
    have e1 : undR sz = -5 := by unfold undR; rw [if_pos (by omega)]
    have e2 : undV v hv sz = v := by unfold undV; rw [if_pos (by omega)]
    have e3 : undZ sz = sz := by unfold undZ; rw [if_pos (by omega)]
    rw [e1, e2, e3]
    exact ⟨rfl, hF, _, _, _, _, _, _, _, _, _, hM, hR, hX⟩
set_option maxRecDepth 100000 in
set_option maxHeartbeats 4000000 in
theorem c_X6_keep (h : List PO) (m : Nat) (v : SV) (hv : Int → SV) (sz ks : Int) (sw : SV) (tx : Int → Int) (len sn se : Int) (hA : mdA h m v hv sz ks sw tx len sn se) (hI : INV v hv sz ks sw tx len) : PM 7 yX6_keep cX6_keep 1 (some .int) h [r_ m] (fun r0 h2 => r0 = some (i_ (v 11 2)) ∧ Fr h h2 m (m + 5) ∧ mdA h2 m (v) (hv) (sz) (1) (v) (tx) (len) (sn) (se)) := by
  refine PM_of_G RX6 [some (r_ m)] rfl (by decide +kernel) (Nat.le_of_ble_eq_true rfl) rfl ?_
  obtain ⟨s, mk, co, fi, ca, sp, le, on, tw, hM, hR, hX⟩ := id hA
  obtain ⟨⟨hV, hT⟩, hsz, hhv, hks, hx, hl⟩ := id hI
  obtain ⟨⟨hrd, hrs, hrh⟩, ⟨hs0, hs1, hs2⟩, ⟨hn, hf, hfa⟩, ⟨hc0, hrr, hs, hz⟩, h49, hdi⟩ := id hV
  have hF : Fr h h m (m + 5) := Fr.rf
  obtain ⟨hM0, hM1, hM2, hM3, hM4⟩ := id hM
  refine G_aload_n dX6_keep_0 rfl rfl ?_
  refine G_iconst dX6_keep_1 ?_
  refine G_iconst dX6_keep_2 ?_
  refine G_callV (ci := 6) (as := [_, _]) (c_X6_copies h m s tx mk co sz ks len sn se fi ca sp le on tw 0 5 hM (by omega) (by omega) (by omega)) dX6_keep_3 ml_X6_32 cv_X6_copies (by assumption) rfl rfl (Nat.le_of_ble_eq_true rfl) (Nat.le_of_ble_eq_true rfl) rfl (fun r h2 hp => ?_)
  obtain ⟨rfl, hF1, hM⟩ := hp
  have hF := hF.tr hF1
  have hR1 : rwR (cpR s 0 5) 0 v := hR.fr cpR_fr (by omega) hV
  obtain ⟨hM0, hM1, hM2, hM3, hM4⟩ := id hM
  refine G_aload_n dX6_keep_6 rfl rfl ?_
  refine G_iconst dX6_keep_7 ?_
  refine G_putZ (fs2 := [r_ (m + 1), i_ (sz), i_ (1), r_ (m + 2), i_ (len), i_ (sn), i_ (se), r_ (m + 3), i_ (fi), i_ (ca), r_ (m + 4), i_ (sp), i_ (le), i_ (on), i_ (tw)]) fp_X6_166 dX6_keep_8 (by first | exact Or.inl rfl | exact Or.inr rfl) (by assumption) (Nat.le_of_ble_eq_true rfl) rfl ?_
  have hM := hM.obj (sz) (1) (len) (sn) (se) (fi) (ca) (sp) (le) (on) (tw)
  obtain ⟨hM0, hM1, hM2, hM3, hM4⟩ := id hM
  have hF := hF.tr (Fr.set (o := oMod m (sz) (1) (len) (sn) (se) (fi) (ca) (sp) (le) (on) (tw)) (show m ≤ m by omega) (show m < m + 5 by omega))
  refine G_aload_n dX6_keep_11 rfl rfl ?_
  refine G_getf fl_X6_7 dX6_keep_12 (by assumption) rfl ?_
  refine G_iconst dX6_keep_15 ?_
  refine G_iald dX6_keep_16 (by assumption) (by omega) (by omega) (by decide) ?_
  refine G_top (hR1.2.1.2.2.2.2.1) ?_
  refine G_ireturn dX6_keep_17 rfl ?_
  refine ⟨rfl, hF, _, _, _, _, _, _, _, _, _, hM, hR1, fun i i0 i1 => (hX.1 i i0 i1).fr cpR_fr (by omega) (hhv i i0 i1).1, fun _ => cp_to (a := 0) hR hV⟩
set_option maxRecDepth 100000 in
set_option maxHeartbeats 4000000 in
theorem c_X6_restore (h : List PO) (m : Nat) (v : SV) (hv : Int → SV) (sz ks : Int) (sw : SV) (tx : Int → Int) (len sn se : Int) (hA : mdA h m v hv sz ks sw tx len sn se) (hI : INV v hv sz ks sw tx len) : PM 7 yX6_restore cX6_restore 1 (some .int) h [r_ m] (fun r0 h2 => r0 = some (i_ (rstR ks sw)) ∧ Fr h h2 m (m + 5) ∧ mdA h2 m (rstV v ks sw) (hvA hv sz v (rstR ks sw)) (szA sz (rstR ks sw)) (ks) (sw) (tx) (len) (sn) (se)) := by
  refine PM_of_G RX6 [some (r_ m)] rfl (by decide +kernel) (Nat.le_of_ble_eq_true rfl) rfl ?_
  obtain ⟨s, mk, co, fi, ca, sp, le, on, tw, hM, hR, hX⟩ := id hA
  obtain ⟨⟨hV, hT⟩, hsz, hhv, hks, hx, hl⟩ := id hI
  obtain ⟨⟨hrd, hrs, hrh⟩, ⟨hs0, hs1, hs2⟩, ⟨hn, hf, hfa⟩, ⟨hc0, hrr, hs, hz⟩, h49, hdi⟩ := id hV
  have hF : Fr h h m (m + 5) := Fr.rf
  obtain ⟨hM0, hM1, hM2, hM3, hM4⟩ := id hM
  refine G_aload_n dX6_restore_0 rfl rfl ?_
  refine G_getf fl_X6_166 dX6_restore_1 (by assumption) rfl ?_
  refine G_if_ne (tgt := 10) dX6_restore_4 (by decide) (inR_of (by omega) (by omega)) (fun hc4 => ?_) (fun hc4 => ?_)
  · skip
    have hk1 : ks = 1 := by omega
    have hOw : OKt sw := by
      rcases hks with q | q
      · exact absurd q (by omega)
      · exact q.2
    have e1 : rstR ks sw = sw 11 2 := by unfold rstR; rw [if_pos hk1]
    have e2 : rstV v ks sw = sw := by unfold rstV; rw [if_pos hk1]
    have hOT := hOw.2
    have e3 : hvA hv sz v (sw 11 2) = addH hv sz v := by unfold hvA; rw [if_pos (by omega)]
    have e4 : szA sz (sw 11 2) = addZ sz := by unfold szA; rw [if_pos (by omega)]
    rw [e1, e2, e3, e4]
    have hq := rec_ro hI hX hR hV (a := 0) (u := v) hR hV (Or.inl rfl)
    refine G_aload_n dX6_restore_10 rfl rfl ?_
    refine G_iconst dX6_restore_11 ?_
    refine G_callV (ci := 6) (as := [_]) (c_X6_records _ m s tx mk co sz ks len sn se fi ca sp le on tw 0 hM hsz (by omega) (Or.inl rfl)) dX6_restore_12 ml_X6_97 cv_X6_records (by assumption) rfl rfl (Nat.le_of_ble_eq_true rfl) (Nat.le_of_ble_eq_true rfl) rfl (fun r h2 hp => ?_)
    obtain ⟨rfl, hF1, hM⟩ := hp
    have hF := hF.tr hF1
    obtain ⟨hM0, hM1, hM2, hM3, hM4⟩ := id hM
    refine G_aload_n dX6_restore_15 rfl rfl ?_
    refine G_iconst dX6_restore_16 ?_
    refine G_iconst dX6_restore_17 ?_
    refine G_callV (ci := 6) (as := [_, _]) (c_X6_copies _ m (recS s sz 0) tx mk co (addZ sz) ks len sn se fi ca sp le on tw 5 0 hM (by omega) (by omega) (by omega)) dX6_restore_18 ml_X6_32 cv_X6_copies (by assumption) rfl rfl (Nat.le_of_ble_eq_true rfl) (Nat.le_of_ble_eq_true rfl) rfl (fun r h2 hp => ?_)
    obtain ⟨rfl, hF1, hM⟩ := hp
    have hF := hF.tr hF1
    have hr2 : rwR (cpR (recS s sz 0) 5 0) 0 sw := cp_to (b := 0) (hq.2.2 hk1) hOw.1
    obtain ⟨hM0, hM1, hM2, hM3, hM4⟩ := id hM
    refine G_aload_n dX6_restore_21 rfl rfl ?_
    refine G_getf fl_X6_7 dX6_restore_22 (by assumption) rfl ?_
    refine G_iconst dX6_restore_25 ?_
    refine G_iald dX6_restore_26 (by assumption) (by omega) (by omega) (by decide) ?_
    refine G_top (hr2.2.1.2.2.2.2.1) ?_
    refine G_ireturn dX6_restore_27 rfl ?_
    have hi2 : INV v (hvA hv sz v 0) (szA sz 0) ks sw tx len := hI.act 0 hI.1
    have e5 : hvA hv sz v 0 = addH hv sz v := by unfold hvA; rw [if_pos (by omega)]
    have e6 : szA sz 0 = addZ sz := by unfold szA; rw [if_pos (by omega)]
    rw [e5, e6] at hi2
    exact ⟨rfl, hF, _, _, _, _, _, _, _, _, _, hM, hr2, hq.2.fr hi2 cpR_fr (by omega)⟩
  · skip
    refine G_bipush dX6_restore_7 rfl ?_
    refine G_ireturn dX6_restore_9 rfl ?_
    have e1 : rstR ks sw = -5 := by unfold rstR; rw [if_neg (by omega)]
    have e2 : rstV v ks sw = v := by unfold rstV; rw [if_neg (by omega)]
    have e3 : hvA hv sz v (-5) = hv := by unfold hvA; rw [if_neg (by omega)]
    have e4 : szA sz (-5) = sz := by unfold szA; rw [if_neg (by omega)]
    rw [e1, e2, e3, e4]
    exact ⟨rfl, Fr.rf, hA⟩
set_option maxRecDepth 100000 in
set_option maxHeartbeats 4000000 in
theorem c_X6_perform (h : List PO) (m : Nat) (v : SV) (hv : Int → SV) (sz ks : Int) (sw : SV) (tx : Int → Int) (len sn se : Int) (hA : mdA h m v hv sz ks sw tx len sn se) (hI : INV v hv sz ks sw tx len) : PM 7 yX6_perform cX6_perform 6 (some .int) h [r_ m] (fun r0 h2 => ∃ (R : Int) (V : SV) (sn2 se2 : Int), PF v tx len sn se R V sn2 se2 ∧ r0 = some (i_ R) ∧ Fr h h2 m (m + 5) ∧ mdA h2 m V (hvA hv sz v R) (szA sz R) ks sw tx len sn2 se2) := by
  refine PM_of_G RX6 [some (r_ m), none, none, none, none, none] rfl (by decide +kernel) (Nat.le_of_ble_eq_true rfl) rfl ?_
  obtain ⟨s, mk, co, fi, ca, sp, le, on, tw, hM, hR, hX⟩ := id hA
  obtain ⟨⟨hV, hT⟩, hsz, hhv, hks, hx, hl⟩ := id hI
  obtain ⟨⟨hrd, hrs, hrh⟩, ⟨hs0, hs1, hs2⟩, ⟨hn, hf, hfa⟩, ⟨hc0, hrr, hs, hz⟩, h49, hdi⟩ := id hV
  have hF : Fr h h m (m + 5) := Fr.rf
  obtain ⟨hM0, hM1, hM2, hM3, hM4⟩ := id hM
  refine G_aload_n dX6_perform_0 rfl rfl ?_
  refine G_callV (ci := 6) (as := []) (c_X6_fault h m s tx mk co sz ks len sn se fi ca sp le on tw hM hx hl) dX6_perform_1 ml_X6_159 cv_X6_fault (by assumption) rfl rfl (Nat.le_of_ble_eq_true rfl) (Nat.le_of_ble_eq_true rfl) rfl (fun r h2 hp => ?_)
  obtain ⟨hF, ⟨sp2, le2, on2, tw2, hM⟩, z, hla, hrr⟩ := hp
  obtain ⟨hM0, hM1, hM2, hM3, hM4⟩ := id hM
  have hpr : 0 ≤ (thP tx len (stP tx len z)).2.1 ∧ (thP tx len (stP tx len z)).2.1 ≤ 60 := by
    have a1 := stP_rng (tx := tx) (len := len) hl.1 z hla.1
    have a2 := thP_ok (tx := tx) (len := len) (p := stP tx len z) (by omega) a1.2
    unfold thOK2 at a2
    omega
  rcases hrr with ⟨hen, rfl⟩ | ⟨hne, rfl⟩
  · skip
    refine G_istore_n dX6_perform_4 rfl (by decide) rfl ?_
    refine G_iload_n dX6_perform_5 rfl rfl ?_
    refine G_bipush dX6_perform_6 rfl ?_
    refine G_icmp_eq (tgt := 16) dX6_perform_8 (by decide) (inR_of (by omega) (by omega)) (inR_of (by omega) (by omega)) (fun hc8 => ?_) (fun hc8 => ?_)
    · skip
      refine G_aload_n dX6_perform_16 rfl rfl ?_
      refine G_iconst dX6_perform_17 ?_
      refine G_bipush dX6_perform_18 rfl ?_
      refine G_callV (ci := 6) (as := [_, _]) (c_X6_copies _ m s tx mk co sz ks len sn se fi ca sp2 le2 on2 tw2 0 6 hM (by omega) (by omega) (by omega)) dX6_perform_20 ml_X6_32 cv_X6_copies (by assumption) rfl rfl (Nat.le_of_ble_eq_true rfl) (Nat.le_of_ble_eq_true rfl) rfl (fun r h2 hp => ?_)
      obtain ⟨rfl, hF1, hM⟩ := hp
      have hF := hF.tr hF1
      have hR1 : rwR (cpR s 0 6) 0 v := hR.fr cpR_fr (by omega) hV
      have hB1 : rwR (cpR s 0 6) (203 * 6) v := cp_to (a := 0) hR hV
      have hX1 : roX (cpR s 0 6) hv sz ks sw := hX.fr hI cpR_fr (by omega)
      obtain ⟨hM0, hM1, hM2, hM3, hM4⟩ := id hM
      refine G_aload_n dX6_perform_23 rfl rfl ?_
      refine G_iconst dX6_perform_24 ?_
      refine G_putI (fs2 := [r_ (m + 1), i_ (sz), i_ (ks), r_ (m + 2), i_ (len), i_ (sn), i_ (se), r_ (m + 3), i_ (fi), i_ (ca), r_ (m + 4), i_ (0), i_ (le2), i_ (on2), i_ (tw2)]) fp_X6_130 dX6_perform_25 (by assumption) (Nat.le_of_ble_eq_true rfl) rfl ?_
      have hM := hM.obj (sz) (ks) (len) (sn) (se) (fi) (ca) (0) (le2) (on2) (tw2)
      obtain ⟨hM0, hM1, hM2, hM3, hM4⟩ := id hM
      have hF := hF.tr (Fr.set (o := oMod m (sz) (ks) (len) (sn) (se) (fi) (ca) (0) (le2) (on2) (tw2)) (show m ≤ m by omega) (show m < m + 5 by omega))
      refine G_iconst dX6_perform_28 ?_
      refine G_istore_n dX6_perform_29 rfl (by decide) rfl ?_
      refine G_iconst dX6_perform_30 ?_
      refine G_istore_n dX6_perform_31 rfl (by decide) rfl ?_
      have L : ∀ (fu : Nat) (k : Nat) (hh : List PO) (si : Int → Int) (mk2 : Int → Int) (co2 : Int → Int) (fi2 : Int) (ca2 : Int) (le2 : Int) (on2 : Int) (tw2 : Int) (i : Int), i = k → k ≤ z → moAt hh m si tx mk2 co2 sz ks len sn se fi2 ca2 (stP tx len k) le2 on2 tw2 → Fr h hh m (m + 5) → rwR si 0 (ruV tx len v k) → rwR si (203 * 6) v → roX si hv sz ks sw → (∀ j : Nat, j < k → ¬ erI (ruR tx len v j)) → (z : Int) + 1 - i < fu → G 7 cX6_perform RX6 6 (some .int) hh 32 [some (r_ m), some (i_ (-5)), some (i_ i), some (i_ 1), none, none] [] (fun r0 h2 => ∃ (R : Int) (V : SV) (sn2 se2 : Int), PF v tx len sn se R V sn2 se2 ∧ r0 = some (i_ R) ∧ Fr h h2 m (m + 5) ∧ mdA h2 m V (hvA hv sz v R) (szA sz R) ks sw tx len sn2 se2) := by
        intro fu
        induction fu with
        | zero => intro k hh si mk2 co2 fi2 ca2 le2 on2 tw2 i hik hk hM hF hR hB hX hno hmeas; exfalso; omega
        | succ fu ih =>
          intro k hh si mk2 co2 fi2 ca2 le2 on2 tw2 i hik hk hM hF hR hB hX hno hmeas
          obtain ⟨hM0, hM1, hM2, hM3, hM4⟩ := id hM
          have hgo : ∀ j : Nat, j < k → goP tx len j := fun j hj => hla.1 j (by omega)
          have hsr := stP_rng (tx := tx) (len := len) hl.1 k hgo
          have htk := thP_ok (tx := tx) (len := len) (p := stP tx len k) (by omega) hsr.2
          unfold thOK2 at htk
          have h01 := thP01 tx len (stP tx len k)
          have ht1 : (thP tx len (stP tx len k)).1 = 1 := by
            by_cases e : k = z
            · rw [e]; exact hen.1
            · exact (hla.1 k (by omega)).1
          refine G_iload_n dX6_perform_32 rfl rfl ?_
          refine G_if_eq (tgt := 94) dX6_perform_33 (by decide) (inR_of (by omega) (by omega)) (fun hc33 => ?_) (fun hc33 => ?_)
          · skip
            exfalso; omega
          · skip
            refine G_aload_n dX6_perform_36 rfl rfl ?_
            refine G_callV (ci := 6) (as := []) (c_X6_readsThing _ m si tx mk2 co2 sz ks len sn se fi2 ca2 (stP tx len k) le2 on2 tw2 hM hx hl (by omega)) dX6_perform_37 ml_X6_156 cv_X6_readsThing (by assumption) rfl rfl (Nat.le_of_ble_eq_true rfl) (Nat.le_of_ble_eq_true rfl) rfl (fun r h2 hp => ?_)
            obtain ⟨rfl, hG, le3, on3, tw3, hM, ht⟩ := hp
            have hF := hF.tr hG
            obtain ⟨hM0, hM1, hM2, hM3, hM4⟩ := id hM
            refine G_istore dX6_perform_40 (by decide) rfl ?_
            refine G_aload_n dX6_perform_42 rfl rfl ?_
            refine G_callV (ci := 6) (as := []) (c_X6_does _ m si tx mk2 co2 sz ks len sn se fi2 ca2 (thP tx len (stP tx len k)).2.1 le3 on3 tw3 (ruV tx len v k) (thP tx len (stP tx len k)) hM hR (hI.1.ru k) (by omega) (ht ht1).1 (ht ht1).2.1 (ht ht1).2.2) dX6_perform_43 ml_X6_163 cv_X6_does (by assumption) rfl rfl (Nat.le_of_ble_eq_true rfl) (Nat.le_of_ble_eq_true rfl) rfl (fun r h2 hp => ?_)
            obtain ⟨rfl, hG, s2, mk3, co3, fi3, ca3, hM, hK, hR2⟩ := hp
            have hF := hF.tr hG
            have hR2 : rwR s2 0 (ruV tx len v (k + 1)) := hR2
            have hB2 : rwR s2 (203 * 6) v := hB.fr hK (by omega) hV
            have hX2 : roX s2 hv sz ks sw := hX.fr hI hK (by omega)
            have hdr := doR_rng (t := (thP tx len (stP tx len k))) (hI.1.ru (tx := tx) (len := len) k).1
            obtain ⟨hM0, hM1, hM2, hM3, hM4⟩ := id hM
            refine G_istore dX6_perform_46 (by decide) rfl ?_
            refine G_iload dX6_perform_48 rfl ?_
            refine G_if_ge (tgt := 81) dX6_perform_50 (by decide) (inR_of (by omega) (by omega)) (fun hc50 => ?_) (fun hc50 => ?_)
            · skip
              refine G_iinc dX6_perform_81 (by decide) rfl rfl ?_
              refine G_aload_n dX6_perform_84 rfl rfl ?_
              refine G_bipush dX6_perform_85 rfl ?_
              refine G_callV (ci := 6) (as := [_]) (c_X6_takes _ m s2 tx mk3 co3 sz ks len sn se fi3 ca3 (thP tx len (stP tx len k)).2.1 le3 on3 tw3 59 hM hx hl (by omega) (by omega)) dX6_perform_87 ml_X6_137 cv_X6_takes (by assumption) rfl rfl (Nat.le_of_ble_eq_true rfl) (Nat.le_of_ble_eq_true rfl) rfl (fun r h2 hp => ?_)
              obtain ⟨y2, rfl, hG, hM, hy2⟩ := hp
              have hF := hF.tr hG
              have hno2 : ∀ j : Nat, j < k + 1 → ¬ erI (ruR tx len v j) := fun j hj => by
                by_cases e : j = k
                · rw [e]; unfold erI ruR; omega
                · exact hno j (by omega)
              rcases hy2 with ⟨rfl, hnx⟩ | ⟨rfl, hnx⟩
              · refine G_istore_n dX6_perform_90 rfl (by decide) rfl ?_
                refine G_goto (tgt := 32) dX6_perform_91 (by decide) ?_
                have hg : goP tx len k := ⟨ht1, hnx⟩
                have hkz : k < z := by
                  rcases Nat.lt_or_ge k z with q | q
                  · exact q
                  · have e : k = z := by omega
                    rw [e] at hg
                    exact absurd hg hla.2
                refine G_forget 4 ?_
                refine G_forget 5 ?_
                exact ih (k + 1) _ _ _ _ _ _ _ _ _ (i + 1) (by omega) (by omega) hM hF hR2 hB2 hX2 hno2 (by omega)
              · refine G_istore_n dX6_perform_90 rfl (by decide) rfl ?_
                refine G_goto (tgt := 32) dX6_perform_91 (by decide) ?_
                have hkz : k = z := by
                  rcases Nat.lt_or_ge k z with q | q
                  · exact absurd (hla.1 k q).2 hnx
                  · omega
                rw [Int.add_zero] at hM
                obtain ⟨hM0, hM1, hM2, hM3, hM4⟩ := id hM
                refine G_iload_n dX6_perform_32 rfl rfl ?_
                refine G_if_eq (tgt := 94) dX6_perform_33 (by decide) (inR_of (by omega) (by omega)) (fun hc33 => ?_) (fun hc33 => ?_)
                · skip
                  refine G_aload_n dX6_perform_94 rfl rfl ?_
                  refine G_bipush dX6_perform_95 rfl ?_
                  refine G_callV (ci := 6) (as := [_]) (c_X6_records _ m s2 tx mk3 co3 sz ks len sn se fi3 ca3 _ le3 on3 tw3 6 hM hsz (by omega) (Or.inr rfl)) dX6_perform_97 ml_X6_97 cv_X6_records (by assumption) rfl rfl (Nat.le_of_ble_eq_true rfl) (Nat.le_of_ble_eq_true rfl) rfl (fun r h2 hp => ?_)
                  obtain ⟨rfl, hF4, hM⟩ := hp
                  refine G_iload_n dX6_perform_100 rfl rfl ?_
                  refine G_ireturn dX6_perform_101 rfl ?_
                  have e3 : hvA hv sz v (i + 1) = addH hv sz v := by unfold hvA; rw [if_pos (by omega)]
                  have e4 : szA sz (i + 1) = addZ sz := by unfold szA; rw [if_pos (by omega)]
                  have kk := rec_ro hI hX2 hR2 (hI.1.ru (tx := tx) (len := len) (k + 1)).1 (a := 6) hB2 hV (Or.inr rfl)
                  refine ⟨i + 1, ruV tx len v (k + 1), sn, se, ⟨z, hla, Or.inr (Or.inr ⟨hen, fun j hj => hno2 j (by omega), by omega, by rw [hkz], rfl, rfl⟩)⟩, rfl, hF.tr hF4, ?_⟩
                  rw [e3, e4]
                  exact ⟨_, _, _, _, _, _, _, _, _, hM, kk.1, kk.2⟩
                · skip
                  exfalso; omega
            · skip
              refine G_iload dX6_perform_53 rfl ?_
              refine G_bipush dX6_perform_55 rfl ?_
              refine G_icmp_eq (tgt := 81) dX6_perform_57 (by decide) (inR_of (by omega) (by omega)) (inR_of (by omega) (by omega)) (fun hc57 => ?_) (fun hc57 => ?_)
              · skip
                refine G_iinc dX6_perform_81 (by decide) rfl rfl ?_
                refine G_aload_n dX6_perform_84 rfl rfl ?_
                refine G_bipush dX6_perform_85 rfl ?_
                refine G_callV (ci := 6) (as := [_]) (c_X6_takes _ m s2 tx mk3 co3 sz ks len sn se fi3 ca3 (thP tx len (stP tx len k)).2.1 le3 on3 tw3 59 hM hx hl (by omega) (by omega)) dX6_perform_87 ml_X6_137 cv_X6_takes (by assumption) rfl rfl (Nat.le_of_ble_eq_true rfl) (Nat.le_of_ble_eq_true rfl) rfl (fun r h2 hp => ?_)
                obtain ⟨y2, rfl, hG, hM, hy2⟩ := hp
                have hF := hF.tr hG
                have hno2 : ∀ j : Nat, j < k + 1 → ¬ erI (ruR tx len v j) := fun j hj => by
                  by_cases e : j = k
                  · rw [e]; unfold erI ruR; omega
                  · exact hno j (by omega)
                rcases hy2 with ⟨rfl, hnx⟩ | ⟨rfl, hnx⟩
                · refine G_istore_n dX6_perform_90 rfl (by decide) rfl ?_
                  refine G_goto (tgt := 32) dX6_perform_91 (by decide) ?_
                  have hg : goP tx len k := ⟨ht1, hnx⟩
                  have hkz : k < z := by
                    rcases Nat.lt_or_ge k z with q | q
                    · exact q
                    · have e : k = z := by omega
                      rw [e] at hg
                      exact absurd hg hla.2
                  refine G_forget 4 ?_
                  refine G_forget 5 ?_
                  exact ih (k + 1) _ _ _ _ _ _ _ _ _ (i + 1) (by omega) (by omega) hM hF hR2 hB2 hX2 hno2 (by omega)
                · refine G_istore_n dX6_perform_90 rfl (by decide) rfl ?_
                  refine G_goto (tgt := 32) dX6_perform_91 (by decide) ?_
                  have hkz : k = z := by
                    rcases Nat.lt_or_ge k z with q | q
                    · exact absurd (hla.1 k q).2 hnx
                    · omega
                  rw [Int.add_zero] at hM
                  obtain ⟨hM0, hM1, hM2, hM3, hM4⟩ := id hM
                  refine G_iload_n dX6_perform_32 rfl rfl ?_
                  refine G_if_eq (tgt := 94) dX6_perform_33 (by decide) (inR_of (by omega) (by omega)) (fun hc33 => ?_) (fun hc33 => ?_)
                  · skip
                    refine G_aload_n dX6_perform_94 rfl rfl ?_
                    refine G_bipush dX6_perform_95 rfl ?_
                    refine G_callV (ci := 6) (as := [_]) (c_X6_records _ m s2 tx mk3 co3 sz ks len sn se fi3 ca3 _ le3 on3 tw3 6 hM hsz (by omega) (Or.inr rfl)) dX6_perform_97 ml_X6_97 cv_X6_records (by assumption) rfl rfl (Nat.le_of_ble_eq_true rfl) (Nat.le_of_ble_eq_true rfl) rfl (fun r h2 hp => ?_)
                    obtain ⟨rfl, hF4, hM⟩ := hp
                    refine G_iload_n dX6_perform_100 rfl rfl ?_
                    refine G_ireturn dX6_perform_101 rfl ?_
                    have e3 : hvA hv sz v (i + 1) = addH hv sz v := by unfold hvA; rw [if_pos (by omega)]
                    have e4 : szA sz (i + 1) = addZ sz := by unfold szA; rw [if_pos (by omega)]
                    have kk := rec_ro hI hX2 hR2 (hI.1.ru (tx := tx) (len := len) (k + 1)).1 (a := 6) hB2 hV (Or.inr rfl)
                    refine ⟨i + 1, ruV tx len v (k + 1), sn, se, ⟨z, hla, Or.inr (Or.inr ⟨hen, fun j hj => hno2 j (by omega), by omega, by rw [hkz], rfl, rfl⟩)⟩, rfl, hF.tr hF4, ?_⟩
                    rw [e3, e4]
                    exact ⟨_, _, _, _, _, _, _, _, _, hM, kk.1, kk.2⟩
                  · skip
                    exfalso; omega
              · skip
                refine G_aload_n dX6_perform_60 rfl rfl ?_
                refine G_bipush dX6_perform_61 rfl ?_
                refine G_iconst dX6_perform_63 ?_
                refine G_callV (ci := 6) (as := [_, _]) (c_X6_copies _ m s2 tx mk3 co3 sz ks len sn se fi3 ca3 (thP tx len (stP tx len k)).2.1 le3 on3 tw3 6 0 hM (by omega) (by omega) (by omega)) dX6_perform_64 ml_X6_32 cv_X6_copies (by assumption) rfl rfl (Nat.le_of_ble_eq_true rfl) (Nat.le_of_ble_eq_true rfl) rfl (fun r h2 hp => ?_)
                obtain ⟨rfl, hG, hM⟩ := hp
                have hF := hF.tr hG
                obtain ⟨hM0, hM1, hM2, hM3, hM4⟩ := id hM
                refine G_aload_n dX6_perform_67 rfl rfl ?_
                refine G_iload_n dX6_perform_68 rfl rfl ?_
                refine G_putI (fs2 := [r_ (m + 1), i_ (sz), i_ (ks), r_ (m + 2), i_ (len), i_ (i), i_ (se), r_ (m + 3), i_ (fi3), i_ (ca3), r_ (m + 4), i_ ((thP tx len (stP tx len k)).2.1), i_ (le3), i_ (on3), i_ (tw3)]) fp_X6_16 dX6_perform_69 (by assumption) (Nat.le_of_ble_eq_true rfl) rfl ?_
                have hM := hM.obj (sz) (ks) (len) (i) (se) (fi3) (ca3) ((thP tx len (stP tx len k)).2.1) (le3) (on3) (tw3)
                obtain ⟨hM0, hM1, hM2, hM3, hM4⟩ := id hM
                have hF := hF.tr (Fr.set (o := oMod m (sz) (ks) (len) (i) (se) (fi3) (ca3) ((thP tx len (stP tx len k)).2.1) (le3) (on3) (tw3)) (show m ≤ m by omega) (show m < m + 5 by omega))
                refine G_aload_n dX6_perform_72 rfl rfl ?_
                refine G_iload dX6_perform_73 rfl ?_
                refine G_putI (fs2 := [r_ (m + 1), i_ (sz), i_ (ks), r_ (m + 2), i_ (len), i_ (i), i_ (doR (ruV tx len v k) (thP tx len (stP tx len k))), r_ (m + 3), i_ (fi3), i_ (ca3), r_ (m + 4), i_ ((thP tx len (stP tx len k)).2.1), i_ (le3), i_ (on3), i_ (tw3)]) fp_X6_20 dX6_perform_75 (by assumption) (Nat.le_of_ble_eq_true rfl) rfl ?_
                have hM := hM.obj (sz) (ks) (len) (i) (doR (ruV tx len v k) (thP tx len (stP tx len k))) (fi3) (ca3) ((thP tx len (stP tx len k)).2.1) (le3) (on3) (tw3)
                obtain ⟨hM0, hM1, hM2, hM3, hM4⟩ := id hM
                have hF := hF.tr (Fr.set (o := oMod m (sz) (ks) (len) (i) (doR (ruV tx len v k) (thP tx len (stP tx len k))) (fi3) (ca3) ((thP tx len (stP tx len k)).2.1) (le3) (on3) (tw3)) (show m ≤ m by omega) (show m < m + 5 by omega))
                refine G_bipush dX6_perform_78 rfl ?_
                refine G_ireturn dX6_perform_80 rfl ?_
                have e3 : hvA hv sz v (-4) = hv := by unfold hvA; rw [if_neg (by omega)]
                have e4 : szA sz (-4) = sz := by unfold szA; rw [if_neg (by omega)]
                refine ⟨-4, v, i, doR (ruV tx len v k) (thP tx len (stP tx len k)), ⟨z, hla, Or.inr (Or.inl ⟨hen, k, hk, hno, ?_, rfl, rfl, hik, rfl⟩)⟩, rfl, hF, ?_⟩
                · unfold erI ruR; omega
                · rw [e3, e4]
                  exact ⟨_, _, _, _, _, _, _, _, _, hM, (cp_to (b := 0) hB2 hV : rwR _ (203 * 0) v), hX2.fr hI (b := 203 * 0) cpR_fr (by omega)⟩
      exact L (z + 3) 0 _ _ _ _ _ _ _ _ _ 0 rfl (Nat.zero_le z) hM hF hR1 hB1 hX1 (fun j hj => absurd hj (Nat.not_lt_zero j)) (by omega)
    · skip
      exfalso; omega
  · skip
    refine G_istore_n dX6_perform_4 rfl (by decide) rfl ?_
    refine G_iload_n dX6_perform_5 rfl rfl ?_
    refine G_bipush dX6_perform_6 rfl ?_
    refine G_icmp_eq (tgt := 16) dX6_perform_8 (by decide) (inR_of (by omega) (by omega)) (inR_of (by omega) (by omega)) (fun hc8 => ?_) (fun hc8 => ?_)
    · skip
      exfalso; omega
    · skip
      refine G_bipush dX6_perform_11 rfl ?_
      refine G_iload_n dX6_perform_13 rfl rfl ?_
      refine G_isub dX6_perform_14 ?_
      refine G_ireturn dX6_perform_15 rfl ?_
      have e3 : hvA hv sz v (-100 - (thP tx len (stP tx len z)).2.1) = hv := by unfold hvA; rw [if_neg (by omega)]
      have e4 : szA sz (-100 - (thP tx len (stP tx len z)).2.1) = sz := by unfold szA; rw [if_neg (by omega)]
      refine ⟨-100 - (thP tx len (stP tx len z)).2.1, v, sn, se, ⟨z, hla, Or.inl ⟨hne, rfl, rfl, rfl, rfl⟩⟩, rfl, hF, ?_⟩
      rw [e3, e4]
      exact ⟨_, _, _, _, _, _, _, _, _, hM, hR, hX⟩
