theorem reachN_ext {q1 q2 : Int → Int} : ∀ n : Nat, (∀ j : Int, 0 ≤ j → j < n → q1 j = q2 j) → reachN q1 n = reachN q2 n := by
  intro n
  induction n with
  | zero => intro _; rfl
  | succ n ih =>
    intro h
    show (if 0 < q1 n then (n : Int) else reachN q1 n) = (if 0 < q2 n then (n : Int) else reachN q2 n)
    rw [h n (by omega) (by omega), ih (fun j a b => h j a (by omega))]
theorem parN_rg {lo hi n i : Int} {F g : Int → Int} (h : RG lo hi n F) (hn : n ≤ i) : RG lo hi n (parN F g i) := fun j a b => by
  rw [parN_lt a (by omega)]
  exact h j a b
set_option maxRecDepth 100000 in
set_option maxHeartbeats 4000000 in
theorem c_X6_comes (h : List PO) (m : Nat) (s tx mk co : Int → Int) (st kp ty sn se fi ca sp le on tw : Int) (b r : Int) (v : SV) (hM : moAt h m s tx mk co st kp ty sn se fi ca sp le on tw) (b0 : 0 ≤ b) (b1 : b ≤ 1421) (hR : rwR s b v) (hV : OK v) (hr9 : -30 ≤ r ∧ r ≤ 30) : PM 2 yX6_comes cX6_comes 7 none h [r_ m, i_ b, i_ r] (fun r0 h2 => r0 = none ∧ Fr h h2 m (m + 5) ∧ ∃ (s2 mk2 co2 : Int → Int) (fi2 ca2 : Int), moAt h2 m s2 tx mk2 co2 st kp ty sn se fi2 ca2 sp le on tw ∧ frR s s2 b ∧ rwR s2 b (tideV r v)) := by
  refine PM_of_G RX6 [some (r_ m), some (i_ b), some (i_ r), none, none, none, none] rfl (by decide +kernel) (Nat.le_of_ble_eq_true rfl) rfl ?_
  obtain ⟨hM0, hM1, hM2, hM3, hM4⟩ := id hM
  obtain ⟨⟨hrd, hrs, hrh⟩, ⟨hs0, hs1, hs2⟩, ⟨hn, hf, hfa⟩, ⟨hc, hrr, hs, hz⟩, h49, hdi⟩ := id hV
  have hHE : RG 0 60 40 (tideH r v) := heiF_rng hrd hrs hrh hs2.1
  have hre : reachN (parN (tideH r v) (v 2) 40) 40 = reachN (tideH r v) 40 := reachN_ext 40 (fun j a b => parN_lt a b)
  refine G_aload_n dX6_comes_0 rfl rfl ?_
  refine G_iload_n dX6_comes_1 rfl rfl ?_
  refine G_iload_n dX6_comes_2 rfl rfl ?_
  refine G_callV (ci := 6) (as := [_, _]) (c_X6_findsMarks h m s tx mk co st kp ty sn se fi ca sp le on tw b r (v 0) (v 1) (v 2) (v 3) (v 4) (v 5) (v 6) (v 7) (v 8) (v 9) (v 11 0) (v 10) (v 11 1) (v 11 2) (v 11 3) hM b0 b1 hR hrd hrs hrh ⟨hs0, hs1, hs2⟩ hf hr9) dX6_comes_3 ml_X6_57 cv_X6_findsMarks (by assumption) rfl rfl (Nat.le_of_ble_eq_true rfl) (Nat.le_of_ble_eq_true rfl) rfl (fun r h2 hp => ?_)
  obtain ⟨rfl, hF, mk2, hM, hmk⟩ := hp
  generalize fiI _ 40 = fi2 at hM
  generalize caI _ _ 40 = ca2 at hM
  have L1 : ∀ (fu : Nat) (i : Int) (hh : List PO) (si : Int → Int), 0 ≤ i → i ≤ 40 → moAt hh m si tx mk2 co st kp ty sn se fi2 ca2 sp le on tw → Fr h hh m (m + 5) → frR s si b → rwF si b (v 0) (v 1) (parN (tideH r v) (v 2) i) (parN (wetF (tideH r v) (v 3)) (v 3) i) (v 4) (v 5) (v 6) (v 7) (v 8) (v 9) (v 11 0) (v 10) (v 11 1) (v 11 2) (v 11 3) → 40 - i < fu → G 2 cX6_comes RX6 7 none hh 8 [some (r_ m), some (i_ b), some (i_ r), some (i_ i), none, none, none] [] (fun r0 h2 => r0 = none ∧ Fr h h2 m (m + 5) ∧ ∃ (s2 mk2 co2 : Int → Int) (fi2 ca2 : Int), moAt h2 m s2 tx mk2 co2 st kp ty sn se fi2 ca2 sp le on tw ∧ frR s s2 b ∧ rwR s2 b (tideV r v)) := by
    intro fu
    induction fu with
    | zero => intro i hh si a1 a2 hM hF hK hR hmeas; exfalso; omega
    | succ fu ih =>
      intro i hh si a1 a2 hM hF hK hR hmeas
      obtain ⟨hM0, hM1, hM2, hM3, hM4⟩ := id hM
      obtain ⟨hRc, ⟨hR0, hR1, hR2, hR3, hR4, hR5, hR6⟩, hRw⟩ := id hR
      refine G_iload_n dX6_comes_8 rfl rfl ?_
      refine G_bipush dX6_comes_9 rfl ?_
      refine G_icmp_ge (tgt := 138) dX6_comes_11 (by decide) (inR_of (by omega) (by omega)) (inR_of (by omega) (by omega)) (fun hc11 => ?_) (fun hc11 => ?_)
      · skip
        have e : i = 40 := by omega
        subst e
        have L2 : ∀ (fu : Nat) (j : Int) (hh : List PO) (co2 : Int → Int), 0 ≤ j → j ≤ v 11 0 → moAt hh m si tx mk2 co2 st kp ty sn se fi2 ca2 sp le on tw → Fr h hh m (m + 5) → (∀ q : Int, 0 ≤ q → q < j → co2 q = conI (v 4) (v 5) (v 7) (v 11 0) q) → v 11 0 - j < fu → G 2 cX6_comes RX6 7 none hh 140 [some (r_ m), some (i_ b), some (i_ r), some (i_ j), none, none, none] [] (fun r0 h2 => r0 = none ∧ Fr h h2 m (m + 5) ∧ ∃ (s2 mk2 co2 : Int → Int) (fi2 ca2 : Int), moAt h2 m s2 tx mk2 co2 st kp ty sn se fi2 ca2 sp le on tw ∧ frR s s2 b ∧ rwR s2 b (tideV r v)) := by
          intro fu
          induction fu with
          | zero => intro j hh co2 c0 c1 hM hF hco hmeas; exfalso; omega
          | succ fu ih =>
            intro j hh co2 c0 c1 hM hF hco hmeas
            obtain ⟨hM0, hM1, hM2, hM3, hM4⟩ := id hM
            refine G_iload_n dX6_comes_140 rfl rfl ?_
            refine G_aload_n dX6_comes_141 rfl rfl ?_
            refine G_getf fl_X6_7 dX6_comes_142 (by assumption) rfl ?_
            refine G_iload_n dX6_comes_145 rfl rfl ?_
            refine G_bipush dX6_comes_146 rfl ?_
            refine G_iadd dX6_comes_148 ?_
            refine G_iald dX6_comes_149 (by assumption) (by omega) (by omega) (by decide) ?_
            refine G_top (hR6) ?_
            refine G_icmp_ge (tgt := 171) dX6_comes_150 (by decide) (inR_of (by omega) (by omega)) (inR_of (by omega) (by omega)) (fun hc150 => ?_) (fun hc150 => ?_)
            · skip
              have e : j = v 11 0 := by omega
              rw [e] at hco
              have L3 : ∀ (fu : Nat) (k : Int) (hh : List PO) (sj : Int → Int), 0 ≤ k → k ≤ v 11 0 → moAt hh m sj tx mk2 co2 st kp ty sn se fi2 ca2 sp le on tw → Fr h hh m (m + 5) → frR s sj b → rwF sj b (v 0) (v 1) (parN (tideH r v) (v 2) 40) (parN (wetF (tideH r v) (v 3)) (v 3) 40) (v 4) (v 5) (parN (tideS r v) (v 6) k) (parN (resF (tideS r v) (v 11 0) (v 7)) (v 7) k) (parN (draF (v 5) (v 7) (v 11 0) (v 8)) (v 8) k) (parN (turF (tideS r v) (v 7) (v 11 0) (v 9)) (v 9) k) (v 11 0) (v 10) (v 11 1) (v 11 2) (v 11 3) → v 11 0 - k < fu → G 2 cX6_comes RX6 7 none hh 173 [some (r_ m), some (i_ b), some (i_ r), some (i_ k), none, none, none] [] (fun r0 h2 => r0 = none ∧ Fr h h2 m (m + 5) ∧ ∃ (s2 mk2 co2 : Int → Int) (fi2 ca2 : Int), moAt h2 m s2 tx mk2 co2 st kp ty sn se fi2 ca2 sp le on tw ∧ frR s s2 b ∧ rwR s2 b (tideV r v)) := by
                intro fu
                induction fu with
                | zero => intro k hh sj c0 c1 hM hF hK hR hmeas; exfalso; omega
                | succ fu ih =>
                  intro k hh sj c0 c1 hM hF hK hR hmeas
                  obtain ⟨hM0, hM1, hM2, hM3, hM4⟩ := id hM
                  obtain ⟨hRc, ⟨hR0, hR1, hR2, hR3, hR4, hR5, hR6⟩, hRw⟩ := id hR
                  refine G_iload_n dX6_comes_173 rfl rfl ?_
                  refine G_aload_n dX6_comes_174 rfl rfl ?_
                  refine G_getf fl_X6_7 dX6_comes_175 (by assumption) rfl ?_
                  refine G_iload_n dX6_comes_178 rfl rfl ?_
                  refine G_bipush dX6_comes_179 rfl ?_
                  refine G_iadd dX6_comes_181 ?_
                  refine G_iald dX6_comes_182 (by assumption) (by omega) (by omega) (by decide) ?_
                  refine G_top (hR6) ?_
                  refine G_icmp_ge (tgt := 198) dX6_comes_183 (by decide) (inR_of (by omega) (by omega)) (inR_of (by omega) (by omega)) (fun hc183 => ?_) (fun hc183 => ?_)
                  · skip
                    have e : k = v 11 0 := by omega
                    rw [e] at hR
                    have hrr9 := reachN_rng (q := tideH r v) 40
                    obtain ⟨hRc, ⟨hR0, hR1, hR2, hR3, hR4, hR5, hR6⟩, hRw⟩ := id hR
                    refine G_aload_n dX6_comes_198 rfl rfl ?_
                    refine G_getf fl_X6_7 dX6_comes_199 (by assumption) rfl ?_
                    refine G_iload_n dX6_comes_202 rfl rfl ?_
                    refine G_iconst dX6_comes_203 ?_
                    refine G_iadd dX6_comes_204 ?_
                    refine G_dup2 dX6_comes_205 ?_
                    refine G_iald dX6_comes_206 (by assumption) (by omega) (by omega) (by decide) ?_
                    refine G_top (hR4) ?_
                    refine G_iconst dX6_comes_207 ?_
                    refine G_iadd dX6_comes_208 ?_
                    refine G_iast dX6_comes_209 (by assumption) (by omega) (by omega) (by decide) rfl ?_
                    have hM := hM.set1 (fup sj (b + 4) (v 11 2 + 1))
                    obtain ⟨hM0, hM1, hM2, hM3, hM4⟩ := id hM
                    have hF := hF.tr (Fr.set (o := oI 1624 (fup sj (b + 4) (v 11 2 + 1))) (show m ≤ m + 1 by omega) (show m + 1 < m + 5 by omega))
                    have hR := hR.tid hn.2 (v 11 2 + 1)
                    obtain ⟨hRc, ⟨hR0, hR1, hR2, hR3, hR4, hR5, hR6⟩, hRw⟩ := id hR
                    have hK := hK.put (x := b + 4) (q := v 11 2 + 1) (show b ≤ b + 4 by omega) (show b + 4 < b + 203 by omega)
                    refine G_aload_n dX6_comes_210 rfl rfl ?_
                    refine G_getf fl_X6_7 dX6_comes_211 (by assumption) rfl ?_
                    refine G_iload_n dX6_comes_214 rfl rfl ?_
                    refine G_iconst dX6_comes_215 ?_
                    refine G_iadd dX6_comes_216 ?_
                    refine G_aload_n dX6_comes_217 rfl rfl ?_
                    refine G_iload_n dX6_comes_218 rfl rfl ?_
                    refine G_callV (ci := 6) (as := [_]) (c_X6_reachOf _ m (fup sj (b + 4) (v 11 2 + 1)) tx mk2 co2 st kp ty sn se fi2 ca2 sp le on tw b (v 0) (v 1) (parN (tideH r v) (v 2) 40) (parN (wetF (tideH r v) (v 3)) (v 3) 40) (v 4) (v 5) (parN (tideS r v) (v 6) (v 11 0)) (parN (resF (tideS r v) (v 11 0) (v 7)) (v 7) (v 11 0)) (parN (draF (v 5) (v 7) (v 11 0) (v 8)) (v 8) (v 11 0)) (parN (turF (tideS r v) (v 7) (v 11 0) (v 9)) (v 9) (v 11 0)) (v 11 0) (v 10) (v 11 1) (v 11 2 + 1) (v 11 3) hM b0 b1 hR (parN_rg hHE (by omega))) dX6_comes_219 ml_X6_66 cv_X6_reachOf (by assumption) rfl rfl (Nat.le_of_ble_eq_true rfl) (Nat.le_of_ble_eq_true rfl) rfl (fun r h2 hp => ?_)
                    obtain ⟨rfl, rfl⟩ := hp
                    rw [hre]
                    refine G_aload_n dX6_comes_222 rfl rfl ?_
                    refine G_getf fl_X6_7 dX6_comes_223 (by assumption) rfl ?_
                    refine G_iload_n dX6_comes_226 rfl rfl ?_
                    refine G_iconst dX6_comes_227 ?_
                    refine G_iadd dX6_comes_228 ?_
                    refine G_iald dX6_comes_229 (by assumption) (by omega) (by omega) (by decide) ?_
                    refine G_top (hR5) ?_
                    refine G_icmp_le (tgt := 241) dX6_comes_230 (by decide) (inR_of (by omega) (by omega)) (inR_of (by omega) (by omega)) (fun hc230 => ?_) (fun hc230 => ?_)
                    · skip
                      refine G_aload_n dX6_comes_241 rfl rfl ?_
                      refine G_getf fl_X6_7 dX6_comes_242 (by assumption) rfl ?_
                      refine G_iload_n dX6_comes_245 rfl rfl ?_
                      refine G_iconst dX6_comes_246 ?_
                      refine G_iadd dX6_comes_247 ?_
                      refine G_iald dX6_comes_248 (by assumption) (by omega) (by omega) (by decide) ?_
                      refine G_top (hR5) ?_
                      refine G_top (y := max (v 11 3) (reachN (tideH r v) 40)) (by omega) ?_
                      refine G_iast dX6_comes_249 (by assumption) (by omega) (by omega) (by decide) rfl ?_
                      have hM := hM.set1 (fup (fup sj (b + 4) (v 11 2 + 1)) (b + 5) (max (v 11 3) (reachN (tideH r v) 40)))
                      obtain ⟨hM0, hM1, hM2, hM3, hM4⟩ := id hM
                      have hF := hF.tr (Fr.set (o := oI 1624 (fup (fup sj (b + 4) (v 11 2 + 1)) (b + 5) (max (v 11 3) (reachN (tideH r v) 40)))) (show m ≤ m + 1 by omega) (show m + 1 < m + 5 by omega))
                      have hR := hR.far hn.2 (max (v 11 3) (reachN (tideH r v) 40))
                      have hK := hK.put (x := b + 5) (q := max (v 11 3) (reachN (tideH r v) 40)) (show b ≤ b + 5 by omega) (show b + 5 < b + 203 by omega)
                      refine G_return dX6_comes_250 rfl ?_
                      refine ⟨rfl, hF, _, mk2, co2, fi2, ca2, hM, hK, ?_⟩
                      refine hR.ext (fun j j0 j1 => ⟨rfl, rfl, parN_lt j0 j1, parN_lt j0 j1⟩) ⟨rfl, rfl, rfl, rfl, rfl, rfl, rfl⟩ (fun w w0 w1 => ⟨rfl, rfl, parN_lt w0 w1, parN_lt w0 w1, parN_lt w0 w1, parN_lt w0 w1⟩)
                    · skip
                      refine G_aload_n dX6_comes_233 rfl rfl ?_
                      refine G_iload_n dX6_comes_234 rfl rfl ?_
                      refine G_callV (ci := 6) (as := [_]) (c_X6_reachOf _ m (fup sj (b + 4) (v 11 2 + 1)) tx mk2 co2 st kp ty sn se fi2 ca2 sp le on tw b (v 0) (v 1) (parN (tideH r v) (v 2) 40) (parN (wetF (tideH r v) (v 3)) (v 3) 40) (v 4) (v 5) (parN (tideS r v) (v 6) (v 11 0)) (parN (resF (tideS r v) (v 11 0) (v 7)) (v 7) (v 11 0)) (parN (draF (v 5) (v 7) (v 11 0) (v 8)) (v 8) (v 11 0)) (parN (turF (tideS r v) (v 7) (v 11 0) (v 9)) (v 9) (v 11 0)) (v 11 0) (v 10) (v 11 1) (v 11 2 + 1) (v 11 3) hM b0 b1 hR (parN_rg hHE (by omega))) dX6_comes_235 ml_X6_66 cv_X6_reachOf (by assumption) rfl rfl (Nat.le_of_ble_eq_true rfl) (Nat.le_of_ble_eq_true rfl) rfl (fun r h2 hp => ?_)
                      obtain ⟨rfl, rfl⟩ := hp
                      rw [hre]
                      refine G_goto (tgt := 249) dX6_comes_238 (by decide) ?_
                      refine G_top (y := max (v 11 3) (reachN (tideH r v) 40)) (by omega) ?_
                      refine G_iast dX6_comes_249 (by assumption) (by omega) (by omega) (by decide) rfl ?_
                      have hM := hM.set1 (fup (fup sj (b + 4) (v 11 2 + 1)) (b + 5) (max (v 11 3) (reachN (tideH r v) 40)))
                      obtain ⟨hM0, hM1, hM2, hM3, hM4⟩ := id hM
                      have hF := hF.tr (Fr.set (o := oI 1624 (fup (fup sj (b + 4) (v 11 2 + 1)) (b + 5) (max (v 11 3) (reachN (tideH r v) 40)))) (show m ≤ m + 1 by omega) (show m + 1 < m + 5 by omega))
                      have hR := hR.far hn.2 (max (v 11 3) (reachN (tideH r v) 40))
                      have hK := hK.put (x := b + 5) (q := max (v 11 3) (reachN (tideH r v) 40)) (show b ≤ b + 5 by omega) (show b + 5 < b + 203 by omega)
                      refine G_return dX6_comes_250 rfl ?_
                      refine ⟨rfl, hF, _, mk2, co2, fi2, ca2, hM, hK, ?_⟩
                      refine hR.ext (fun j j0 j1 => ⟨rfl, rfl, parN_lt j0 j1, parN_lt j0 j1⟩) ⟨rfl, rfl, rfl, rfl, rfl, rfl, rfl⟩ (fun w w0 w1 => ⟨rfl, rfl, parN_lt w0 w1, parN_lt w0 w1, parN_lt w0 w1, parN_lt w0 w1⟩)
                  · skip
                    have hkn : k < v 11 0 := by omega
                    have hck := hc k c0 hkn
                    refine G_aload_n dX6_comes_186 rfl rfl ?_
                    refine G_iload_n dX6_comes_187 rfl rfl ?_
                    refine G_iload_n dX6_comes_188 rfl rfl ?_
                    refine G_callV (ci := 6) (as := [_, _]) (c_X6_draws _ m sj tx mk2 co2 st kp ty sn se fi2 ca2 sp le on tw b k (conI (v 4) (v 5) (v 7) (v 11 0) k) (v 0) (v 1) (parN (tideH r v) (v 2) 40) (parN (wetF (tideH r v) (v 3)) (v 3) 40) (v 4) (v 5) (parN (tideS r v) (v 6) k) (parN (resF (tideS r v) (v 11 0) (v 7)) (v 7) k) (parN (draF (v 5) (v 7) (v 11 0) (v 8)) (v 8) k) (parN (turF (tideS r v) (v 7) (v 11 0) (v 9)) (v 9) k) (v 11 0) (v 10) (v 11 1) (v 11 2) (v 11 3) hM b0 b1 hR hn c0 (by omega) (hco k c0 (by omega)) (conI_rng hrr) (hc k c0 (by omega)) (hrr k c0 (by omega)) (by rw [parN_ge (Int.le_refl k)]; exact hs k c0 (by omega)) (by rw [parN_ge (Int.le_refl k)]; exact hz k c0 (by omega)) (hrd _ (by omega) (by omega)) (hrs _ (by omega) (by omega)) (by rw [parN_lt (by omega) (by omega)]; exact hHE _ (by omega) (by omega))) dX6_comes_189 ml_X6_63 cv_X6_draws (by assumption) rfl rfl (Nat.le_of_ble_eq_true rfl) (Nat.le_of_ble_eq_true rfl) rfl (fun r h2 hp => ?_)
                    obtain ⟨rfl, hF2, s2, hM, hK2, hR2⟩ := hp
                    have hF := hF.tr hF2
                    have e6 := parN_ge (F := tideS r v) (g := v 6) (Int.le_refl k)
                    have e7 := parN_ge (F := resF (tideS r v) (v 11 0) (v 7)) (g := v 7) (Int.le_refl k)
                    have e8 := parN_ge (F := draF (v 5) (v 7) (v 11 0) (v 8)) (g := v 8) (Int.le_refl k)
                    have e9 := parN_ge (F := turF (tideS r v) (v 7) (v 11 0) (v 9)) (g := v 9) (Int.le_refl k)
                    have g6 : drS (v 0) (v 1) (parN (tideH r v) (v 2) 40) (v 4) (parN (resF (tideS r v) (v 11 0) (v 7)) (v 7) k) (parN (tideS r v) (v 6) k) k (conI (v 4) (v 5) (v 7) (v 11 0) k) = tideS r v k := by
                      unfold drS
                      rw [e6, e7, parN_lt (by omega) (by omega)]
                      have q : tideS r v k = if 0 ≤ k ∧ k < v 11 0 then sbI (v 6 k) (if v 7 k = 0 then exF (v 0) (v 1) (tideH r v) (v 4) (v 5) (v 7) (v 11 0) k else 0) else v 6 k := rfl
                      rw [q, if_pos (show 0 ≤ k ∧ k < v 11 0 from ⟨c0, hkn⟩)]
                      rfl
                    have g7 : drZ (parN (resF (tideS r v) (v 11 0) (v 7)) (v 7) k) k (tideS r v k) = resF (tideS r v) (v 11 0) (v 7) k := by
                      unfold drZ
                      rw [e7]
                      have q : resF (tideS r v) (v 11 0) (v 7) k = if 0 ≤ k ∧ k < v 11 0 then (if v 7 k = 0 ∧ 50 ≤ tideS r v k then 1 else if tideS r v k = 0 then 0 else v 7 k) else v 7 k := rfl
                      rw [q, if_pos (show 0 ≤ k ∧ k < v 11 0 from ⟨c0, hkn⟩)]
                    have g8 : (if (parN (resF (tideS r v) (v 11 0) (v 7)) (v 7) k) k = 0 then (parN (draF (v 5) (v 7) (v 11 0) (v 8)) (v 8) k) k + v 5 k else (parN (draF (v 5) (v 7) (v 11 0) (v 8)) (v 8) k) k) = draF (v 5) (v 7) (v 11 0) (v 8) k := by
                      have q0 : draF (v 5) (v 7) (v 11 0) (v 8) k = if (0 ≤ k ∧ k < v 11 0) ∧ v 7 k = 0 then v 8 k + v 5 k else v 8 k := rfl
                      rw [e7, e8, q0]
                      by_cases q : v 7 k = 0
                      · rw [if_pos q, if_pos ⟨⟨c0, hkn⟩, q⟩]
                      · rw [if_neg q, if_neg (fun z => q z.2)]
                    have g9 : (if (parN (resF (tideS r v) (v 11 0) (v 7)) (v 7) k) k = 0 ∧ 50 ≤ tideS r v k then (parN (turF (tideS r v) (v 7) (v 11 0) (v 9)) (v 9) k) k + 1 else (parN (turF (tideS r v) (v 7) (v 11 0) (v 9)) (v 9) k) k) = turF (tideS r v) (v 7) (v 11 0) (v 9) k := by
                      have q0 : turF (tideS r v) (v 7) (v 11 0) (v 9) k = if (0 ≤ k ∧ k < v 11 0) ∧ v 7 k = 0 ∧ 50 ≤ tideS r v k then v 9 k + 1 else v 9 k := rfl
                      rw [e7, e9, q0]
                      by_cases q : v 7 k = 0 ∧ 50 ≤ tideS r v k
                      · rw [if_pos q, if_pos ⟨⟨c0, hkn⟩, q⟩]
                      · rw [if_neg q, if_neg (fun z => q z.2)]
                    rw [g6, g7, g8, g9, parN_s c0, parN_s c0, parN_s c0, parN_s c0] at hR2
                    refine G_iinc dX6_comes_192 (by decide) rfl rfl ?_
                    refine G_goto (tgt := 173) dX6_comes_195 (by decide) ?_
                    exact ih (k + 1) _ _ (by omega) (by omega) hM hF (hK.tr hK2) hR2 (by omega)
              refine G_iconst dX6_comes_171 ?_
              refine G_istore_n dX6_comes_172 rfl (by decide) rfl ?_
              exact L3 7 0 _ si (by omega) (by omega) hM hF hK (by rw [parN_0, parN_0, parN_0, parN_0]; exact hR) (by omega)
            · skip
              refine G_aload_n dX6_comes_153 rfl rfl ?_
              refine G_getf fl_X6_26 dX6_comes_154 (by assumption) rfl ?_
              refine G_iload_n dX6_comes_157 rfl rfl ?_
              refine G_aload_n dX6_comes_158 rfl rfl ?_
              refine G_iload_n dX6_comes_159 rfl rfl ?_
              refine G_iload_n dX6_comes_160 rfl rfl ?_
              refine G_callV (ci := 6) (as := [_, _]) (c_X6_cone _ m si tx mk2 co2 st kp ty sn se fi2 ca2 sp le on tw b j (v 0) (v 1) (parN (tideH r v) (v 2) 40) (parN (wetF (tideH r v) (v 3)) (v 3) 40) (v 4) (v 5) (v 6) (v 7) (v 8) (v 9) (v 11 0) (v 10) (v 11 1) (v 11 2) (v 11 3) hM b0 b1 hR hn hc hrr hz c0 (by omega)) dX6_comes_161 ml_X6_60 cv_X6_cone (by assumption) rfl rfl (Nat.le_of_ble_eq_true rfl) (Nat.le_of_ble_eq_true rfl) rfl (fun r h2 hp => ?_)
              obtain ⟨rfl, rfl⟩ := hp
              refine G_iast dX6_comes_164 (by assumption) (by omega) (by omega) (by decide) rfl ?_
              have hM := hM.set4 (fup co2 j (conI (v 4) (v 5) (v 7) (v 11 0) j))
              obtain ⟨hM0, hM1, hM2, hM3, hM4⟩ := id hM
              have hF := hF.tr (Fr.set (o := oI 6 (fup co2 j (conI (v 4) (v 5) (v 7) (v 11 0) j))) (show m ≤ m + 4 by omega) (show m + 4 < m + 5 by omega))
              refine G_iinc dX6_comes_165 (by decide) rfl rfl ?_
              refine G_goto (tgt := 140) dX6_comes_168 (by decide) ?_
              refine ih (j + 1) _ _ (by omega) (by omega) hM hF ?_ (by omega)
              intro q q0 q1
              by_cases e : q = j
              · rw [e, fup_eq]
              · rw [fup_ne e]; exact hco q q0 (by omega)
        refine G_iconst dX6_comes_138 ?_
        refine G_istore_n dX6_comes_139 rfl (by decide) rfl ?_
        exact L2 7 0 _ co (by omega) (by omega) hM hF (fun q q0 q1 => absurd q1 (by omega)) (by omega)
      · skip
        have hi40 : i < 40 := by omega
        have hh9 := hrh i a1 hi40
        have hm9 := mkI_rng (push := v 10 0 + r - v 11 1) (slope := v 10 1) hrs hrd a1 hi40
        have hH9 := hHE i a1 hi40
        skip
        have K : G 2 cX6_comes RX6 7 none hh 95 [some (r_ m), some (i_ b), some (i_ r), some (i_ i), some (i_ (v 2 i)), some (i_ (v 10 2)), some (i_ (mkI (v 10 0 + r - v 11 1) (v 10 1) (v 1) (v 0) i))] [i_ ((tideH r v) i), i_ (b + 87 + i), r_ (m + 1)] (fun r0 h2 => r0 = none ∧ Fr h h2 m (m + 5) ∧ ∃ (s2 mk2 co2 : Int → Int) (fi2 ca2 : Int), moAt h2 m s2 tx mk2 co2 st kp ty sn se fi2 ca2 sp le on tw ∧ frR s s2 b ∧ rwR s2 b (tideV r v)) := by
          refine G_iast dX6_comes_95 (by assumption) (by omega) (by omega) (by decide) rfl ?_
          have hM := hM.set1 (fup si (b + 87 + i) ((tideH r v) i))
          obtain ⟨hM0, hM1, hM2, hM3, hM4⟩ := id hM
          have hF := hF.tr (Fr.set (o := oI 1624 (fup si (b + 87 + i) ((tideH r v) i))) (show m ≤ m + 1 by omega) (show m + 1 < m + 5 by omega))
          have hR := hR.hei hn.2 (i := i) ((tideH r v) i) a1 hi40
          rw [parN_s a1] at hR
          obtain ⟨hRc, ⟨hR0, hR1, hR2, hR3, hR4, hR5, hR6⟩, hRw⟩ := id hR
          have hK := hK.put (x := b + 87 + i) (q := tideH r v i) (show b ≤ b + 87 + i by omega) (show b + 87 + i < b + 203 by omega)
          refine G_aload_n dX6_comes_96 rfl rfl ?_
          refine G_getf fl_X6_7 dX6_comes_97 (by assumption) rfl ?_
          refine G_iload_n dX6_comes_100 rfl rfl ?_
          refine G_bipush dX6_comes_101 rfl ?_
          refine G_iadd dX6_comes_103 ?_
          refine G_iload_n dX6_comes_104 rfl rfl ?_
          refine G_iadd dX6_comes_105 ?_
          refine G_dup2 dX6_comes_106 ?_
          refine G_iald dX6_comes_107 (by assumption) (by omega) (by omega) (by decide) ?_
          refine G_top (((hRc (i) (by omega) (by omega)).2.2.2).trans (parN_ge (Int.le_refl i))) ?_
          refine G_aload_n dX6_comes_108 rfl rfl ?_
          refine G_getf fl_X6_7 dX6_comes_109 (by assumption) rfl ?_
          refine G_iload_n dX6_comes_112 rfl rfl ?_
          refine G_bipush dX6_comes_113 rfl ?_
          refine G_iadd dX6_comes_115 ?_
          refine G_iload_n dX6_comes_116 rfl rfl ?_
          refine G_iadd dX6_comes_117 ?_
          refine G_iald dX6_comes_118 (by assumption) (by omega) (by omega) (by decide) ?_
          refine G_top (((hRc (i) (by omega) (by omega)).2.2.1).trans (parN_lt a1 (by omega))) ?_
          refine G_if_le (tgt := 126) dX6_comes_119 (by decide) (inR_of (by omega) (by omega)) (fun hc119 => ?_) (fun hc119 => ?_)
          · skip
            refine G_iconst dX6_comes_126 ?_
            refine G_callS (as := [_]) (c_X6_flag _ _ (by first | exact Or.inl rfl | exact Or.inr rfl)) dX6_comes_127 ml_X6_53 cs_X6_flag rfl (Nat.le_of_ble_eq_true rfl) (Nat.le_of_ble_eq_true rfl) rfl (fun r h2 hp => ?_)
            obtain ⟨rfl, rfl⟩ := hp
            refine G_iadd dX6_comes_130 ?_
            refine G_top (y := wetF (tideH r v) (v 3) i) (by show _ = v 3 i + wetI (tideH r v) i; first | (rw [wetI_1 (by omega)]; done) | (rw [wetI_0 (by omega)]; done)) ?_
            refine G_iast dX6_comes_131 (by assumption) (by omega) (by omega) (by decide) rfl ?_
            have hM := hM.set1 (fup (fup si (b + 87 + i) ((tideH r v) i)) (b + 127 + i) ((wetF (tideH r v) (v 3)) i))
            obtain ⟨hM0, hM1, hM2, hM3, hM4⟩ := id hM
            have hF := hF.tr (Fr.set (o := oI 1624 (fup (fup si (b + 87 + i) ((tideH r v) i)) (b + 127 + i) ((wetF (tideH r v) (v 3)) i))) (show m ≤ m + 1 by omega) (show m + 1 < m + 5 by omega))
            have hR := hR.wet hn.2 (i := i) ((wetF (tideH r v) (v 3)) i) a1 hi40
            rw [parN_s a1] at hR
            have hK := hK.put (x := b + 127 + i) (q := wetF (tideH r v) (v 3) i) (show b ≤ b + 127 + i by omega) (show b + 127 + i < b + 203 by omega)
            refine G_iinc dX6_comes_132 (by decide) rfl rfl ?_
            refine G_goto (tgt := 8) dX6_comes_135 (by decide) ?_
            refine G_forget 4 ?_
            refine G_forget 5 ?_
            refine G_forget 6 ?_
            exact ih (i + 1) _ _ (by omega) (by omega) hM hF hK hR (by omega)
          · skip
            refine G_iconst dX6_comes_122 ?_
            refine G_goto (tgt := 127) dX6_comes_123 (by decide) ?_
            refine G_callS (as := [_]) (c_X6_flag _ _ (by first | exact Or.inl rfl | exact Or.inr rfl)) dX6_comes_127 ml_X6_53 cs_X6_flag rfl (Nat.le_of_ble_eq_true rfl) (Nat.le_of_ble_eq_true rfl) rfl (fun r h2 hp => ?_)
            obtain ⟨rfl, rfl⟩ := hp
            refine G_iadd dX6_comes_130 ?_
            refine G_top (y := wetF (tideH r v) (v 3) i) (by show _ = v 3 i + wetI (tideH r v) i; first | (rw [wetI_1 (by omega)]; done) | (rw [wetI_0 (by omega)]; done)) ?_
            refine G_iast dX6_comes_131 (by assumption) (by omega) (by omega) (by decide) rfl ?_
            have hM := hM.set1 (fup (fup si (b + 87 + i) ((tideH r v) i)) (b + 127 + i) ((wetF (tideH r v) (v 3)) i))
            obtain ⟨hM0, hM1, hM2, hM3, hM4⟩ := id hM
            have hF := hF.tr (Fr.set (o := oI 1624 (fup (fup si (b + 87 + i) ((tideH r v) i)) (b + 127 + i) ((wetF (tideH r v) (v 3)) i))) (show m ≤ m + 1 by omega) (show m + 1 < m + 5 by omega))
            have hR := hR.wet hn.2 (i := i) ((wetF (tideH r v) (v 3)) i) a1 hi40
            rw [parN_s a1] at hR
            have hK := hK.put (x := b + 127 + i) (q := wetF (tideH r v) (v 3) i) (show b ≤ b + 127 + i by omega) (show b + 127 + i < b + 203 by omega)
            refine G_iinc dX6_comes_132 (by decide) rfl rfl ?_
            refine G_goto (tgt := 8) dX6_comes_135 (by decide) ?_
            refine G_forget 4 ?_
            refine G_forget 5 ?_
            refine G_forget 6 ?_
            exact ih (i + 1) _ _ (by omega) (by omega) hM hF hK hR (by omega)
        refine G_aload_n dX6_comes_14 rfl rfl ?_
        refine G_getf fl_X6_7 dX6_comes_15 (by assumption) rfl ?_
        refine G_iload_n dX6_comes_18 rfl rfl ?_
        refine G_bipush dX6_comes_19 rfl ?_
        refine G_iadd dX6_comes_21 ?_
        refine G_iload_n dX6_comes_22 rfl rfl ?_
        refine G_iadd dX6_comes_23 ?_
        refine G_iald dX6_comes_24 (by assumption) (by omega) (by omega) (by decide) ?_
        refine G_top (((hRc (i) (by omega) (by omega)).2.2.1).trans (parN_ge (Int.le_refl i))) ?_
        refine G_istore dX6_comes_25 (by decide) rfl ?_
        refine G_aload_n dX6_comes_27 rfl rfl ?_
        refine G_getf fl_X6_7 dX6_comes_28 (by assumption) rfl ?_
        refine G_iload_n dX6_comes_31 rfl rfl ?_
        refine G_iconst dX6_comes_32 ?_
        refine G_iadd dX6_comes_33 ?_
        refine G_iald dX6_comes_34 (by assumption) (by omega) (by omega) (by decide) ?_
        refine G_top (hR2) ?_
        refine G_istore dX6_comes_35 (by decide) rfl ?_
        refine G_aload_n dX6_comes_37 rfl rfl ?_
        refine G_getf fl_X6_23 dX6_comes_38 (by assumption) rfl ?_
        refine G_iload_n dX6_comes_41 rfl rfl ?_
        refine G_iald dX6_comes_42 (by assumption) (by omega) (by omega) (by decide) ?_
        refine G_top (hmk i a1 hi40) ?_
        refine G_istore dX6_comes_43 (by decide) rfl ?_
        refine G_aload_n dX6_comes_45 rfl rfl ?_
        refine G_getf fl_X6_7 dX6_comes_46 (by assumption) rfl ?_
        refine G_iload_n dX6_comes_49 rfl rfl ?_
        refine G_bipush dX6_comes_50 rfl ?_
        refine G_iadd dX6_comes_52 ?_
        refine G_iload_n dX6_comes_53 rfl rfl ?_
        refine G_iadd dX6_comes_54 ?_
        refine G_iload dX6_comes_55 rfl ?_
        refine G_iload dX6_comes_57 rfl ?_
        refine G_icmp_ge (tgt := 75) dX6_comes_59 (by decide) (inR_of (by omega) (by omega)) (inR_of (by omega) (by omega)) (fun hc59 => ?_) (fun hc59 => ?_)
        · skip
          refine G_iload dX6_comes_75 rfl ?_
          refine G_iload dX6_comes_77 rfl ?_
          refine G_isub dX6_comes_79 ?_
          refine G_iload dX6_comes_80 rfl ?_
          refine G_icmp_le (tgt := 93) dX6_comes_82 (by decide) (inR_of (by omega) (by omega)) (inR_of (by omega) (by omega)) (fun hc82 => ?_) (fun hc82 => ?_)
          · skip
            refine G_iload dX6_comes_93 rfl ?_
            refine G_top (y := (tideH r v) i) (by show _ = moveI (v 2 i) (mkI (v 10 0 + r - v 11 1) (v 10 1) (v 1) (v 0) i) (v 10 2); unfold moveI; first | (rw [if_pos (by omega)]; omega) | (rw [if_neg (by omega)]; omega)) ?_
            exact K
          · skip
            refine G_iload dX6_comes_85 rfl ?_
            refine G_iload dX6_comes_87 rfl ?_
            refine G_isub dX6_comes_89 ?_
            refine G_goto (tgt := 95) dX6_comes_90 (by decide) ?_
            refine G_top (y := (tideH r v) i) (by show _ = moveI (v 2 i) (mkI (v 10 0 + r - v 11 1) (v 10 1) (v 1) (v 0) i) (v 10 2); unfold moveI; first | (rw [if_pos (by omega)]; omega) | (rw [if_neg (by omega)]; omega)) ?_
            exact K
        · skip
          refine G_iload dX6_comes_62 rfl ?_
          refine G_iload dX6_comes_64 rfl ?_
          refine G_iadd dX6_comes_66 ?_
          refine G_iload dX6_comes_67 rfl ?_
          refine G_callS (as := [_, _]) (c_X6_less _ _ _ (inR_of (by omega) (by omega)) (inR_of (by omega) (by omega))) dX6_comes_69 ml_X6_42 cs_X6_less rfl (Nat.le_of_ble_eq_true rfl) (Nat.le_of_ble_eq_true rfl) rfl (fun r h2 hp => ?_)
          obtain ⟨rfl, rfl⟩ := hp
          refine G_goto (tgt := 95) dX6_comes_72 (by decide) ?_
          refine G_top (y := (tideH r v) i) (by show _ = moveI (v 2 i) (mkI (v 10 0 + r - v 11 1) (v 10 1) (v 1) (v 0) i) (v 10 2); unfold moveI; first | (rw [if_pos (by omega)]; omega) | (rw [if_neg (by omega)]; omega)) ?_
          exact K
  refine G_iconst dX6_comes_6 ?_
  refine G_istore_n dX6_comes_7 rfl (by decide) rfl ?_
  exact L1 41 0 _ s (by omega) (by omega) hM hF frR.rf (by rw [parN_0, parN_0]; exact hR) (by omega)
set_option maxRecDepth 100000 in
set_option maxHeartbeats 4000000 in
theorem c_X6_tides (h : List PO) (m : Nat) (s tx mk co : Int → Int) (st kp ty sn se fi ca sp le on tw : Int) (r n : Int) (v : SV) (hM : moAt h m s tx mk co st kp ty sn se fi ca sp le on tw) (hR : rwR s 0 v) (hV : OK v) (hT : 0 ≤ v 11 2 ∧ v 11 2 ≤ 99999) (hr9 : inR r) (hn9 : inR n) : PM 3 yX6_tides cX6_tides 4 (some .int) h [r_ m, i_ r, i_ n] (fun r0 h2 => r0 = some (i_ (tidesR v r n)) ∧ Fr h h2 m (m + 5) ∧ ∃ (s2 mk2 co2 : Int → Int) (fi2 ca2 : Int), moAt h2 m s2 tx mk2 co2 st kp ty sn se fi2 ca2 sp le on tw ∧ frR s s2 0 ∧ rwR s2 0 (tidesV v r n)) := by
  refine PM_of_G RX6 [some (r_ m), some (i_ r), some (i_ n), none] rfl (by decide +kernel) (Nat.le_of_ble_eq_true rfl) rfl ?_
  obtain ⟨hM0, hM1, hM2, hM3, hM4⟩ := id hM
  have hr1 := hr9.1
  have hr2 := hr9.2
  have hn1 := hn9.1
  have hn2 := hn9.2
  refine G_iload_n dX6_tides_0 rfl rfl ?_
  refine G_callS (as := [_]) (c_X6_isRise _ (r) (inR_of (by omega) (by omega))) dX6_tides_1 ml_X6_87 cs_X6_isRise rfl (Nat.le_of_ble_eq_true rfl) (Nat.le_of_ble_eq_true rfl) rfl (fun r h2 hp => ?_)
  obtain ⟨yr, rfl, rfl, hyr⟩ := hp
  refine G_if_eq (tgt := 17) dX6_tides_4 (by decide) (inR_of (by omega) (by omega)) (fun hc4 => ?_) (fun hc4 => ?_)
  · skip
    refine G_bipush dX6_tides_17 rfl ?_
    refine G_ireturn dX6_tides_19 rfl ?_
    have e : tidesR v r n = -2 := by unfold tidesR; rw [if_pos (by omega)]
    have e2 : tidesV v r n = v := by unfold tidesV; rw [if_neg (by omega)]
    rw [e2]
    exact ⟨by rw [e], Fr.rf, s, mk, co, fi, ca, hM, frR.rf, hR⟩
  · skip
    refine G_iload_n dX6_tides_7 rfl rfl ?_
    refine G_iconst dX6_tides_8 ?_
    refine G_bipush dX6_tides_9 rfl ?_
    refine G_callS (as := [_, _, _]) (c_X6_in _ (n) (1) (99) (inR_of (by omega) (by omega)) (inR_of (by omega) (by omega)) (inR_of (by omega) (by omega))) dX6_tides_11 ml_X6_70 cs_X6_in rfl (Nat.le_of_ble_eq_true rfl) (Nat.le_of_ble_eq_true rfl) rfl (fun r h2 hp => ?_)
    obtain ⟨yn, rfl, rfl, hyn⟩ := hp
    refine G_if_ne (tgt := 20) dX6_tides_14 (by decide) (inR_of (by omega) (by omega)) (fun hc14 => ?_) (fun hc14 => ?_)
    · skip
      refine G_aload_n dX6_tides_20 rfl rfl ?_
      refine G_getf fl_X6_7 dX6_tides_21 (by assumption) rfl ?_
      refine G_iconst dX6_tides_24 ?_
      refine G_iald dX6_tides_25 (by assumption) (by omega) (by omega) (by decide) ?_
      refine G_top ((rwF.zero hR).2.1.2.2.2.2.1) ?_
      refine G_iload_n dX6_tides_26 rfl rfl ?_
      refine G_iadd dX6_tides_27 ?_
      refine G_ldc dX6_tides_28 cn_X6_90 ?_
      refine G_icmp_le (tgt := 36) dX6_tides_30 (by decide) (inR_of (by omega) (by omega)) (inR_of (by omega) (by omega)) (fun hc30 => ?_) (fun hc30 => ?_)
      · skip
        have hri : -30 ≤ r ∧ r ≤ 30 := by omega
        have L : ∀ (fu : Nat) (i : Int) (hh : List PO) (si : Int → Int) (mk2 : Int → Int) (co2 : Int → Int) (fi2 : Int) (ca2 : Int), 0 ≤ i → i ≤ n → moAt hh m si tx mk2 co2 st kp ty sn se fi2 ca2 sp le on tw → Fr h hh m (m + 5) → frR s si 0 → rwR si 0 (itV r v i.toNat) → n - i < fu → G 3 cX6_tides RX6 4 (some .int) hh 38 [some (r_ m), some (i_ r), some (i_ n), some (i_ i)] [] (fun r0 h2 => r0 = some (i_ (tidesR v r n)) ∧ Fr h h2 m (m + 5) ∧ ∃ (s2 mk2 co2 : Int → Int) (fi2 ca2 : Int), moAt h2 m s2 tx mk2 co2 st kp ty sn se fi2 ca2 sp le on tw ∧ frR s s2 0 ∧ rwR s2 0 (tidesV v r n)) := by
          intro fu
          induction fu with
          | zero => intro i hh si mk2 co2 fi2 ca2 a1 a2 hM hF hK hR hmeas; exfalso; omega
          | succ fu ih =>
            intro i hh si mk2 co2 fi2 ca2 a1 a2 hM hF hK hR hmeas
            obtain ⟨hM0, hM1, hM2, hM3, hM4⟩ := id hM
            refine G_iload_n dX6_tides_38 rfl rfl ?_
            refine G_iload_n dX6_tides_39 rfl rfl ?_
            refine G_icmp_ge (tgt := 55) dX6_tides_40 (by decide) (inR_of (by omega) (by omega)) (inR_of (by omega) (by omega)) (fun hc40 => ?_) (fun hc40 => ?_)
            · skip
              have e : i = n := by omega
              subst e
              refine G_aload_n dX6_tides_55 rfl rfl ?_
              refine G_iconst dX6_tides_56 ?_
              refine G_callV (ci := 6) (as := [_]) (c_X6_wetCells hh m si tx mk2 co2 st kp ty sn se fi2 ca2 sp le on tw 0 _ _ _ _ _ _ _ _ _ _ _ _ _ _ _ hM (by omega) (by omega) hR (hV.it _).1.2.2) dX6_tides_57 ml_X6_94 cv_X6_wetCells (by assumption) rfl rfl (Nat.le_of_ble_eq_true rfl) (Nat.le_of_ble_eq_true rfl) rfl (fun r h2 hp => ?_)
              obtain ⟨rfl, rfl⟩ := hp
              refine G_ireturn dX6_tides_60 rfl ?_
              have hw := wet_rng (q := itV r v i.toNat 2) 40
              have e : tidesR v r i = sumN (wetI (itV r v i.toNat 2)) 40 := by unfold tidesR; rw [if_neg (by omega), if_neg (by omega)]
              have e2 : tidesV v r i = itV r v i.toNat := by unfold tidesV; rw [if_pos (by omega)]
              rw [e2]
              exact ⟨by rw [e], hF, si, mk2, co2, fi2, ca2, hM, hK, hR⟩
            · skip
              refine G_aload_n dX6_tides_43 rfl rfl ?_
              refine G_iconst dX6_tides_44 ?_
              refine G_iload_n dX6_tides_45 rfl rfl ?_
              refine G_callV (ci := 6) (as := [_, _]) (c_X6_comes hh m si tx mk2 co2 st kp ty sn se fi2 ca2 sp le on tw 0 r (itV r v i.toNat) hM (by omega) (by omega) hR (hV.it _) hri) dX6_tides_46 ml_X6_91 cv_X6_comes (by assumption) rfl rfl (Nat.le_of_ble_eq_true rfl) (Nat.le_of_ble_eq_true rfl) rfl (fun r h2 hp => ?_)
              obtain ⟨rfl, hF2, s2, mk3, co3, fi3, ca3, hM, hK2, hR2⟩ := hp
              refine G_iinc dX6_tides_49 (by decide) rfl rfl ?_
              refine G_goto (tgt := 38) dX6_tides_52 (by decide) ?_
              refine ih (i + 1) _ s2 mk3 co3 fi3 ca3 (by omega) (by omega) hM (hF.tr hF2) (hK.tr hK2) ?_ (by omega)
              have e : (i + 1).toNat = i.toNat + 1 := by omega
              rw [e]
              exact hR2
        refine G_iconst dX6_tides_36 ?_
        refine G_istore_n dX6_tides_37 rfl (by decide) rfl ?_
        exact L (n.toNat + 1) 0 h s mk co fi ca (by omega) (by omega) hM Fr.rf frR.rf hR (by omega)
      · skip
        refine G_bipush dX6_tides_33 rfl ?_
        refine G_ireturn dX6_tides_35 rfl ?_
        have e : tidesR v r n = -3 := by unfold tidesR; rw [if_neg (by omega), if_pos (by omega)]
        have e2 : tidesV v r n = v := by unfold tidesV; rw [if_neg (by omega)]
        rw [e2]
        exact ⟨by rw [e], Fr.rf, s, mk, co, fi, ca, hM, frR.rf, hR⟩
    · skip
      refine G_bipush dX6_tides_17 rfl ?_
      refine G_ireturn dX6_tides_19 rfl ?_
      have e : tidesR v r n = -2 := by unfold tidesR; rw [if_pos (by omega)]
      have e2 : tidesV v r n = v := by unfold tidesV; rw [if_neg (by omega)]
      rw [e2]
      exact ⟨by rw [e], Fr.rf, s, mk, co, fi, ca, hM, frR.rf, hR⟩
