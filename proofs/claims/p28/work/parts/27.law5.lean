/-! the law: the tide in which a well begins to rest -/
theorem rest_rng {v : SV} {w r : Int} : -5 ≤ restR v w r ∧ restR v w r ≤ 300 := by
  unfold restR
  split
  · omega
  · split
    · omega
    · split
      · omega
      · rcases riN_is (v := v) (w := w) (r := r) 300 (by omega) with ⟨a, -⟩ | ⟨i, a, b, c, -⟩ <;> omega
theorem rest_is {v : SV} {w r : Int} (hw : 0 ≤ w ∧ w < v 11 0) (hr : -30 ≤ r ∧ r ≤ 30) (h0 : v 7 w = 0) : (restR v w r = -5 ∨ ∃ i : Nat, 1 ≤ i ∧ i ≤ 300 ∧ restR v w r = i ∧ itV r v i 7 w = 1) ∧ ∀ j : Nat, (j : Int) ≤ restR v w r - 1 ∨ j = 0 → itV r v j 7 w ≠ 1 := by
  have z0 : itV r v 0 7 w ≠ 1 := by
    show v 7 w ≠ 1
    omega
  have e : restR v w r = riN v w r 300 := by
    unfold restR
    rw [if_neg (fun q => q hw), if_neg (fun q => q hr), if_neg (by omega)]
  rw [e]
  rcases riN_is (v := v) (w := w) (r := r) 300 (by omega) with ⟨a, b⟩ | ⟨i, a, b, c, d, f⟩
  · refine ⟨Or.inl a, fun j hj => ?_⟩
    have hj0 : j = 0 := by omega
    rw [hj0]; exact z0
  · refine ⟨Or.inr ⟨i, by omega, b, c, d⟩, fun j hj => ?_⟩
    by_cases hj0 : j = 0
    · rw [hj0]; exact z0
    · exact f j (by omega) (by omega)
theorem rest_no {v : SV} {w r : Int} (h : v 11 0 ≤ w) : restR v w r = -1 := by
  unfold restR
  rw [if_pos (by omega)]
theorem rest_now {v : SV} {w r : Int} (hw : 0 ≤ w ∧ w < v 11 0) (hr : -30 ≤ r ∧ r ≤ 30) (h : v 7 w = 1) : restR v w r = -4 := by
  unfold restR
  rw [if_neg (fun q => q hw), if_neg (fun q => q hr), if_pos h]
set_option maxRecDepth 100000 in
set_option maxHeartbeats 8000000 in
theorem c_L_rests (h : List PO) (v : SV) (hv : Int → SV) (sz ks : Int) (sw : SV) (w r : Int) (hS : SYS h v hv sz ks sw) (hw : 0 ≤ w ∧ w ≤ 5) (hr : -30 ≤ r ∧ r ≤ 30) (hT : v 11 2 + 300 ≤ 99999) : PMw 8 yL_rests cL_rests 10 (some .boolean) h [r_ 0, i_ w, i_ r] (fun r0 h2 => r0 = some (w_ 1) ∧ ∃ hv2 sz2 ks2 sw2, SYS h2 v hv2 sz2 ks2 sw2) := by
  refine PMw_of [some (p_ 0), some (w_ w), some (w_ r), none, none, none, none, none, none, none] rfl (by decide +kernel) (Nat.le_of_ble_eq_true rfl) rfl ?_
  have hS0 := hS
  have hg := hS.gen
  have hxr := rest_rng (v := v) (w := w) (r := r)
  refine L_aload_n dL_rests_0 rfl rfl ?_
  refine L_iload_n dL_rests_1 rfl rfl ?_
  refine L_iload_n dL_rests_2 rfl rfl ?_
  refine L_callV (ci := 5) (as := [_, _]) (s_restsIn hS (inR_of (by omega) (by omega)) (inR_of (by omega) (by omega))) dL_rests_3 ml_L_89 cv_X5_restsIn hS.obj rfl rfl (Nat.le_of_ble_eq_true rfl) (Nat.le_of_ble_eq_true rfl) rfl (fun r h2 hp => ?_)
  obtain ⟨rfl, hS⟩ := hp
  refine L_istore_n dL_rests_6 rfl (by decide) rfl rfl ?_
  refine L_iload_n dL_rests_7 rfl rfl ?_
  refine L_aload_n dL_rests_8 rfl rfl ?_
  refine L_iconst dL_rests_9 ?_
  refine L_callV (ci := 5) (as := [_]) (s_count (y := v 11 0) hS (inR_of (by omega) (by omega)) rfl) dL_rests_10 ml_L_46 cv_X5_count hS.obj rfl rfl (Nat.le_of_ble_eq_true rfl) (Nat.le_of_ble_eq_true rfl) rfl (fun r h2 hp => ?_)
  obtain ⟨rfl, hS⟩ := hp
  refine L_icmp_lt (tgt := 27) dL_rests_13 (by decide) (inR_of (by omega) (by omega)) (inR_of (by omega) (by omega)) (fun hc13 => ?_) (fun hc13 => ?_)
  · skip
    have hbw := hS.wel (w := w) (by omega) (by omega)
    refine L_aload_n dL_rests_27 rfl rfl ?_
    refine L_iload_n dL_rests_28 rfl rfl ?_
    refine L_iconst dL_rests_29 ?_
    refine L_callV (ci := 5) (as := [_, _]) (s_well hS (inR_of (by omega) (by omega)) (inR_of (by omega) (by omega)) (well_3 (by omega) (by omega))) dL_rests_30 ml_L_49 cv_X5_well hS.obj rfl rfl (Nat.le_of_ble_eq_true rfl) (Nat.le_of_ble_eq_true rfl) rfl (fun r h2 hp => ?_)
    obtain ⟨rfl, hS⟩ := hp
    refine L_iconst dL_rests_33 ?_
    refine L_icmp_ne (tgt := 49) dL_rests_34 (by decide) (inR_of (by omega) (by omega)) (inR_of (by omega) (by omega)) (fun hc34 => ?_) (fun hc34 => ?_)
    · skip
      obtain ⟨hX, hno⟩ := rest_is (v := v) (w := w) (r := r) ⟨by omega, by omega⟩ hr (by omega)
      have hX2 : restR v w r = -5 ∨ 1 ≤ restR v w r := by
        rcases hX with z | ⟨i, i1, i2, i3, -⟩ <;> omega
      refine L_aload_n dL_rests_49 rfl rfl ?_
      refine L_callS (as := [_]) (c_L_print _ _ _ _ _ _ hS) dL_rests_50 ml_L_64 cs_L_print rfl (Nat.le_of_ble_eq_true rfl) (Nat.le_of_ble_eq_true rfl) rfl (fun r h2 hp => ?_)
      obtain ⟨rfl, hS⟩ := hp
      refine L_lstore dL_rests_53 (by decide) rfl rfl ?_
      refine L_aload_n dL_rests_55 rfl rfl ?_
      refine L_callV (ci := 5) (as := []) (s_keep hS) dL_rests_56 ml_L_92 cv_X5_keep hS.obj rfl rfl (Nat.le_of_ble_eq_true rfl) (Nat.le_of_ble_eq_true rfl) rfl (fun r h2 hp => ?_)
      obtain ⟨rfl, hS⟩ := hp
      refine L_istore dL_rests_59 (by decide) rfl rfl ?_
      refine L_aload_n dL_rests_61 rfl rfl ?_
      refine L_iload_n dL_rests_62 rfl rfl ?_
      refine L_bipush dL_rests_63 rfl ?_
      refine L_callV (ci := 5) (as := [_, _]) (s_well hS (inR_of (by omega) (by omega)) (inR_of (by omega) (by omega)) (well_6 (by omega) (by omega))) dL_rests_65 ml_L_49 cv_X5_well hS.obj rfl rfl (Nat.le_of_ble_eq_true rfl) (Nat.le_of_ble_eq_true rfl) rfl (fun r h2 hp => ?_)
      obtain ⟨rfl, hS⟩ := hp
      refine L_istore dL_rests_68 (by decide) rfl rfl ?_
      refine L_iload_n dL_rests_70 rfl rfl ?_
      refine L_bipush dL_rests_71 rfl ?_
      refine L_fork2 92 (1) (fun h => SYS h v hv sz 1 v) rfl (fun h2 hS => ?_) (fun J => ?_)
      · skip
        refine L_istore dL_rests_92 (by decide) rfl rfl ?_
        refine L_iload_n dL_rests_94 rfl rfl ?_
        refine L_iconst dL_rests_95 ?_
        refine L_isub dL_rests_96 ?_
        refine L_top (y := restR v w r - 1 - ((0 : Nat) : Int)) (by omega) ?_
        refine L_istore dL_rests_97 (by decide) rfl rfl ?_
        have L : ∀ (fu : Nat) (n : Nat) (hh : List PO) (hv2 : Int → SV) (sz2 : Int), SYS hh (itV r v n) hv2 sz2 1 v → n = 0 ∨ (n : Int) ≤ restR v w r - 1 → 301 - n < fu → GM 8 cL_rests 10 (some .boolean) hh 99 [some (p_ 0), some (w_ w), some (w_ r), some (w_ (restR v w r)), some (l_ (prnL v)), none, some (w_ (v 11 2)), some (w_ (v 9 w)), some (w_ 1), some (w_ (restR v w r - 1 - (n : Int)))] [] (fun r0 h2 => r0 = some (w_ 1) ∧ ∃ hv2 sz2 ks2 sw2, SYS h2 v hv2 sz2 ks2 sw2) := by
          intro fu
          induction fu with
          | zero => intro n hh hv2 sz2 hS hn hmeas; exfalso; omega
          | succ fu ih =>
            intro n hh hv2 sz2 hS hn hmeas
            refine L_iload dL_rests_99 rfl ?_
            refine L_if_le (tgt := 160) dL_rests_101 (by decide) (inR_of (by omega) (by omega)) (fun hc101 => ?_) (fun hc101 => ?_)
            · skip
              have hgn := hS.gen
              have hwn := hS.wel (w := w) (by omega) (by rw [itV_n]; omega)
              have hnr : itV r v n 7 w ≠ 1 := hno n (by omega)
              have htn : itV r v n 9 w = v 9 w := itV_turn hS0.ok (by omega) (by omega) n (fun j hj => hno j (by omega))
              refine L_iload dL_rests_160 rfl ?_
              refine L_if_eq (tgt := 237) dL_rests_162 (by decide) (inR_of (by omega) (by omega)) (fun hc162 => ?_) (fun hc162 => ?_)
              · skip
                exfalso; omega
              · skip
                refine L_aload_n dL_rests_165 rfl rfl ?_
                refine L_iload_n dL_rests_166 rfl rfl ?_
                refine L_iconst dL_rests_167 ?_
                refine L_callV (ci := 5) (as := [_, _]) (s_well (y := itV r v n 7 w) hS (inR_of (by omega) (by omega)) (inR_of (by omega) (by omega)) (well_3 (by omega) (by rw [itV_n]; omega))) dL_rests_168 ml_L_49 cv_X5_well hS.obj rfl rfl (Nat.le_of_ble_eq_true rfl) (Nat.le_of_ble_eq_true rfl) rfl (fun r h2 hp => ?_)
                obtain ⟨rfl, hS⟩ := hp
                refine L_if_ne (tgt := 237) dL_rests_171 (by decide) (inR_of (by omega) (by omega)) (fun hc171 => ?_) (fun hc171 => ?_)
                · skip
                  exfalso; omega
                · skip
                  refine L_aload_n dL_rests_174 rfl rfl ?_
                  refine L_iload_n dL_rests_175 rfl rfl ?_
                  refine L_bipush dL_rests_176 rfl ?_
                  refine L_callV (ci := 5) (as := [_, _]) (s_well (y := itV r v n 9 w) hS (inR_of (by omega) (by omega)) (inR_of (by omega) (by omega)) (well_6 (by omega) (by rw [itV_n]; omega))) dL_rests_178 ml_L_49 cv_X5_well hS.obj rfl rfl (Nat.le_of_ble_eq_true rfl) (Nat.le_of_ble_eq_true rfl) rfl (fun r h2 hp => ?_)
                  obtain ⟨rfl, hS⟩ := hp
                  refine L_iload dL_rests_181 rfl ?_
                  refine L_icmp_neE dL_rests_183 (by decide) (htn) ?_
                  refine L_iload_n dL_rests_186 rfl rfl ?_
                  refine L_if_lt (tgt := 233) dL_rests_187 (by decide) (inR_of (by omega) (by omega)) (fun hc187 => ?_) (fun hc187 => ?_)
                  · skip
                    refine L_iconst dL_rests_233 ?_
                    refine L_goto (tgt := 238) dL_rests_234 (by decide) ?_
                    refine L_istore dL_rests_238 (by decide) rfl rfl ?_
                    refine L_iload dL_rests_240 rfl ?_
                    refine L_if_eq (tgt := 268) dL_rests_242 (by decide) (inR_of (by omega) (by omega)) (fun hc242 => ?_) (fun hc242 => ?_)
                    · skip
                      exfalso; omega
                    · skip
                      refine L_aload_n dL_rests_245 rfl rfl ?_
                      refine L_callV (ci := 5) (as := []) (s_restore hS hg.2.2.1.1 hS0.xi) dL_rests_246 ml_L_95 cv_X5_restore hS.obj rfl rfl (Nat.le_of_ble_eq_true rfl) (Nat.le_of_ble_eq_true rfl) rfl (fun r h2 hp => ?_)
                      obtain ⟨rfl, hv3, sz3, hS⟩ := hp
                      refine L_iload dL_rests_249 rfl ?_
                      refine L_icmp_neE dL_rests_251 (by decide) (rfl) ?_
                      refine L_aload_n dL_rests_254 rfl rfl ?_
                      refine L_callS (as := [_]) (c_L_print _ _ _ _ _ _ hS) dL_rests_255 ml_L_64 cs_L_print rfl (Nat.le_of_ble_eq_true rfl) (Nat.le_of_ble_eq_true rfl) rfl (fun r h2 hp => ?_)
                      obtain ⟨rfl, hS⟩ := hp
                      refine L_lload dL_rests_258 rfl ?_
                      refine L_lcmpE dL_rests_260 rfl ?_
                      refine L_if_ne (tgt := 268) dL_rests_261 (by decide) (inR_of (by omega) (by omega)) (fun hc261 => ?_) (fun hc261 => ?_)
                      · skip
                        exfalso; omega
                      · skip
                        refine L_iconst dL_rests_264 ?_
                        refine L_goto (tgt := 269) dL_rests_265 (by decide) ?_
                        refine M_zreturn dL_rests_269 rfl (Or.inr rfl) ?_
                        exact ⟨rfl, _, _, _, _, hS⟩
                  · skip
                    have hi : ∃ i : Nat, 1 ≤ i ∧ i ≤ 300 ∧ restR v w r = i ∧ itV r v i 7 w = 1 := by
                      rcases hX with z | z
                      · omega
                      · exact z
                    obtain ⟨i, i1, i2, i3, i4⟩ := hi
                    have hin : i = n + 1 := by omega
                    subst hin
                    have h71 : tideV r (itV r v n) 7 w = 1 := i4
                    have hr1 : restR (itV r v n) w r = 1 := rests_1 ⟨by omega, by rw [itV_n]; omega⟩ hr (by omega) h71
                    have h91 : tideV r (itV r v n) 9 w = v 9 w + 1 := by
                      rw [tide_turn (by omega) (by rw [itV_n]; omega) (by omega) h71, htn]
                    refine L_aload_n dL_rests_190 rfl rfl ?_
                    refine L_iload_n dL_rests_191 rfl rfl ?_
                    refine L_iload_n dL_rests_192 rfl rfl ?_
                    refine L_callV (ci := 5) (as := [_, _]) (s_restsIn hS (inR_of (by omega) (by omega)) (inR_of (by omega) (by omega))) dL_rests_193 ml_L_89 cv_X5_restsIn hS.obj rfl rfl (Nat.le_of_ble_eq_true rfl) (Nat.le_of_ble_eq_true rfl) rfl (fun r h2 hp => ?_)
                    obtain ⟨rfl, hS⟩ := hp
                    refine L_iconst dL_rests_196 ?_
                    refine L_icmp_neE dL_rests_197 (by decide) (hr1) ?_
                    refine L_aload_n dL_rests_200 rfl rfl ?_
                    refine L_iload_n dL_rests_201 rfl rfl ?_
                    refine L_iconst dL_rests_202 ?_
                    refine L_callV (ci := 5) (as := [_, _]) (s_tide hS (inR_of (by omega) (by omega)) (inR_of (by omega) (by omega))) dL_rests_203 ml_L_40 cv_X5_tide hS.obj rfl rfl (Nat.le_of_ble_eq_true rfl) (Nat.le_of_ble_eq_true rfl) rfl (fun r h2 hp => ?_)
                    obtain ⟨rfl, hS⟩ := hp
                    have hnt := itV_tides (v := v) (rise := r) n
                    have td := tides_do (v := itV r v n) (t := 1) hr (by omega) (by omega)
                    have tr := tidesR_rng (v := itV r v n) (a := r) (b := 1)
                    have td3 := td.2.2
                    have td1 : tidesV (itV r v n) r 1 = tideV r (itV r v n) := td.2.1
                    rw [td1] at hS
                    refine L_if_lt (tgt := 237) dL_rests_206 (by decide) (inR_of (by omega) (by omega)) (fun hc206 => ?_) (fun hc206 => ?_)
                    · skip
                      exfalso; omega
                    · skip
                      refine L_aload_n dL_rests_209 rfl rfl ?_
                      refine L_iload_n dL_rests_210 rfl rfl ?_
                      refine L_iconst dL_rests_211 ?_
                      refine L_callV (ci := 5) (as := [_, _]) (s_well (y := tideV r (itV r v n) 7 w) hS (inR_of (by omega) (by omega)) (inR_of (by omega) (by omega)) (well_3 (by omega) (by show w < itV r v n 11 0; rw [itV_n]; omega))) dL_rests_212 ml_L_49 cv_X5_well hS.obj rfl rfl (Nat.le_of_ble_eq_true rfl) (Nat.le_of_ble_eq_true rfl) rfl (fun r h2 hp => ?_)
                      obtain ⟨rfl, hS⟩ := hp
                      refine L_iconst dL_rests_215 ?_
                      refine L_icmp_neE dL_rests_216 (by decide) (h71) ?_
                      refine L_aload_n dL_rests_219 rfl rfl ?_
                      refine L_iload_n dL_rests_220 rfl rfl ?_
                      refine L_bipush dL_rests_221 rfl ?_
                      refine L_callV (ci := 5) (as := [_, _]) (s_well (y := tideV r (itV r v n) 9 w) hS (inR_of (by omega) (by omega)) (inR_of (by omega) (by omega)) (well_6 (by omega) (by show w < itV r v n 11 0; rw [itV_n]; omega))) dL_rests_223 ml_L_49 cv_X5_well hS.obj rfl rfl (Nat.le_of_ble_eq_true rfl) (Nat.le_of_ble_eq_true rfl) rfl (fun r h2 hp => ?_)
                      obtain ⟨rfl, hS⟩ := hp
                      refine L_iload dL_rests_226 rfl ?_
                      refine L_iconst dL_rests_228 ?_
                      refine L_iadd dL_rests_229 ?_
                      refine L_icmp_neE dL_rests_230 (by decide) (h91) ?_
                      refine L_iconst dL_rests_233 ?_
                      refine L_goto (tgt := 238) dL_rests_234 (by decide) ?_
                      refine L_istore dL_rests_238 (by decide) rfl rfl ?_
                      refine L_iload dL_rests_240 rfl ?_
                      refine L_if_eq (tgt := 268) dL_rests_242 (by decide) (inR_of (by omega) (by omega)) (fun hc242 => ?_) (fun hc242 => ?_)
                      · skip
                        exfalso; omega
                      · skip
                        refine L_aload_n dL_rests_245 rfl rfl ?_
                        refine L_callV (ci := 5) (as := []) (s_restore hS hg.2.2.1.1 hS0.xi) dL_rests_246 ml_L_95 cv_X5_restore hS.obj rfl rfl (Nat.le_of_ble_eq_true rfl) (Nat.le_of_ble_eq_true rfl) rfl (fun r h2 hp => ?_)
                        obtain ⟨rfl, hv3, sz3, hS⟩ := hp
                        refine L_iload dL_rests_249 rfl ?_
                        refine L_icmp_neE dL_rests_251 (by decide) (rfl) ?_
                        refine L_aload_n dL_rests_254 rfl rfl ?_
                        refine L_callS (as := [_]) (c_L_print _ _ _ _ _ _ hS) dL_rests_255 ml_L_64 cs_L_print rfl (Nat.le_of_ble_eq_true rfl) (Nat.le_of_ble_eq_true rfl) rfl (fun r h2 hp => ?_)
                        obtain ⟨rfl, hS⟩ := hp
                        refine L_lload dL_rests_258 rfl ?_
                        refine L_lcmpE dL_rests_260 rfl ?_
                        refine L_if_ne (tgt := 268) dL_rests_261 (by decide) (inR_of (by omega) (by omega)) (fun hc261 => ?_) (fun hc261 => ?_)
                        · skip
                          exfalso; omega
                        · skip
                          refine L_iconst dL_rests_264 ?_
                          refine L_goto (tgt := 269) dL_rests_265 (by decide) ?_
                          refine M_zreturn dL_rests_269 rfl (Or.inr rfl) ?_
                          exact ⟨rfl, _, _, _, _, hS⟩
            · skip
              refine L_iload dL_rests_104 rfl ?_
              refine L_if_eq (tgt := 160) dL_rests_106 (by decide) (inR_of (by omega) (by omega)) (fun hc106 => ?_) (fun hc106 => ?_)
              · skip
                exfalso; omega
              · skip
                refine L_aload_n dL_rests_109 rfl rfl ?_
                refine L_iload_n dL_rests_110 rfl rfl ?_
                refine L_iload dL_rests_111 rfl ?_
                refine L_bipush dL_rests_113 rfl ?_
                refine L_fork2 125 (min (restR v w r - 1 - (n : Int)) 99) (fun h => SYS h (itV r v n) hv2 sz2 1 v) rfl (fun h2 hS => ?_) (fun J => ?_)
                · skip
                  refine L_callV (ci := 5) (as := [_, _]) (s_tide hS (inR_of (by omega) (by omega)) (inR_of (by omega) (by omega))) dL_rests_125 ml_L_40 cv_X5_tide hS.obj rfl rfl (Nat.le_of_ble_eq_true rfl) (Nat.le_of_ble_eq_true rfl) rfl (fun r h2 hp => ?_)
                  obtain ⟨rfl, hS⟩ := hp
                  have hnt := itV_tides (v := v) (rise := r) n
                  have td := tides_do (v := itV r v n) (t := min (restR v w r - 1 - (n : Int)) 99) hr (by omega) (by omega)
                  have tr := tidesR_rng (v := itV r v n) (a := r) (b := min (restR v w r - 1 - (n : Int)) 99)
                  have td3 := td.2.2
                  rw [td.2.1, itV_add] at hS
                  refine L_if_lt (tgt := 135) dL_rests_128 (by decide) (inR_of (by omega) (by omega)) (fun hc128 => ?_) (fun hc128 => ?_)
                  · skip
                    exfalso; omega
                  · skip
                    refine L_iconst dL_rests_131 ?_
                    refine L_goto (tgt := 136) dL_rests_132 (by decide) ?_
                    refine L_istore dL_rests_136 (by decide) rfl rfl ?_
                    refine L_iload dL_rests_138 rfl ?_
                    refine L_iload dL_rests_140 rfl ?_
                    refine L_bipush dL_rests_142 rfl ?_
                    refine L_fork2 154 (min (restR v w r - 1 - (n : Int)) 99) (fun h => SYS h (itV r v (n + (min (restR v w r - 1 - (n : Int)) 99).toNat)) (hvA hv2 sz2 (itV r v n) (tidesR (itV r v n) r (min (restR v w r - 1 - (n : Int)) 99))) (szA sz2 (tidesR (itV r v n) r (min (restR v w r - 1 - (n : Int)) 99))) 1 v) rfl (fun h2 hS => ?_) (fun J => ?_)
                    · skip
                      refine L_isub dL_rests_154 ?_
                      refine L_top (y := restR v w r - 1 - ((n + (min (restR v w r - 1 - (n : Int)) 99).toNat : Nat) : Int)) (by omega) ?_
                      refine L_istore dL_rests_155 (by decide) rfl rfl ?_
                      refine L_goto (tgt := 99) dL_rests_157 (by decide) ?_
                      exact ih (n + (min (restR v w r - 1 - (n : Int)) 99).toNat) _ _ _ hS (by omega) (by omega)
                    · skip
                      refine L_icmp_le (tgt := 152) dL_rests_144 (by decide) (inR_of (by omega) (by omega)) (inR_of (by omega) (by omega)) (fun hc144 => ?_) (fun hc144 => ?_)
                      · skip
                        refine L_iload dL_rests_152 rfl ?_
                        exact J _ _ hS (by omega)
                      · skip
                        refine L_bipush dL_rests_147 rfl ?_
                        refine L_goto (tgt := 154) dL_rests_149 (by decide) ?_
                        exact J _ _ hS (by omega)
                · skip
                  refine L_icmp_le (tgt := 123) dL_rests_115 (by decide) (inR_of (by omega) (by omega)) (inR_of (by omega) (by omega)) (fun hc115 => ?_) (fun hc115 => ?_)
                  · skip
                    refine L_iload dL_rests_123 rfl ?_
                    exact J _ _ hS (by omega)
                  · skip
                    refine L_bipush dL_rests_118 rfl ?_
                    refine L_goto (tgt := 125) dL_rests_120 (by decide) ?_
                    exact J _ _ hS (by omega)
        exact L 302 0 _ _ _ hS (Or.inl rfl) (by omega)
      · skip
        refine L_icmp_eq (tgt := 87) dL_rests_73 (by decide) (inR_of (by omega) (by omega)) (inR_of (by omega) (by omega)) (fun hc73 => ?_) (fun hc73 => ?_)
        · skip
          refine L_iconst dL_rests_87 ?_
          refine L_goto (tgt := 92) dL_rests_88 (by decide) ?_
          exact J _ _ hS rfl
        · skip
          refine L_iload_n dL_rests_76 rfl rfl ?_
          refine L_if_le (tgt := 91) dL_rests_77 (by decide) (inR_of (by omega) (by omega)) (fun hc77 => ?_) (fun hc77 => ?_)
          · skip
            exfalso; omega
          · skip
            refine L_iload_n dL_rests_80 rfl rfl ?_
            refine L_sipush dL_rests_81 rfl ?_
            refine L_icmp_gt (tgt := 91) dL_rests_84 (by decide) (inR_of (by omega) (by omega)) (inR_of (by omega) (by omega)) (fun hc84 => ?_) (fun hc84 => ?_)
            · skip
              exfalso; omega
            · skip
              refine L_iconst dL_rests_87 ?_
              refine L_goto (tgt := 92) dL_rests_88 (by decide) ?_
              exact J _ _ hS rfl
    · skip
      refine L_iload_n dL_rests_37 rfl rfl ?_
      refine L_bipush dL_rests_38 rfl ?_
      refine L_icmp_neE dL_rests_40 (by decide) (rest_now ⟨by omega, by omega⟩ hr (by omega)) ?_
      refine L_iconst dL_rests_43 ?_
      refine L_goto (tgt := 48) dL_rests_44 (by decide) ?_
      refine M_zreturn dL_rests_48 rfl (Or.inr rfl) ?_
      exact ⟨rfl, _, _, _, _, hS⟩
  · skip
    refine L_iload_n dL_rests_16 rfl rfl ?_
    refine L_iconst dL_rests_17 ?_
    refine L_icmp_neE dL_rests_18 (by decide) (rest_no (by omega)) ?_
    refine L_iconst dL_rests_21 ?_
    refine L_goto (tgt := 26) dL_rests_22 (by decide) ?_
    refine M_zreturn dL_rests_26 rfl (Or.inr rfl) ?_
    exact ⟨rfl, _, _, _, _, hS⟩
