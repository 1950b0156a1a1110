/-! the law: hangs, print -/
set_option maxRecDepth 100000 in
set_option maxHeartbeats 8000000 in
theorem c_L_hangs (h : List PO) (v : SV) (hv : Int → SV) (sz ks : Int) (sw : SV) (hS : SYS h v hv sz ks sw) : PMw 7 yL_hangs cL_hangs 9 (some .boolean) h [r_ 0] (fun r0 h2 => r0 = some (w_ 1) ∧ SYS h2 v hv sz ks sw) := by
  refine PMw_of [some (p_ 0), none, none, none, none, none, none, none, none] rfl (by decide +kernel) (Nat.le_of_ble_eq_true rfl) rfl ?_
  have L : ∀ (fu : Nat) (k : Nat) (hh : List PO), SYS hh v hv sz ks sw → k ≤ (v 11 0).toNat → (v 11 0).toNat - k < fu → GM 7 cL_hangs 9 (some .boolean) hh 9 [some (p_ 0), some (w_ (sumN (v 7) k)), some (w_ (sumN (v 6) k)), some (w_ (sumN (v 8) k)), some (w_ (k : Int)), none, none, none, none] [] (fun r0 h2 => r0 = some (w_ 1) ∧ SYS h2 v hv sz ks sw) := by
    intro fu
    induction fu with
    | zero => intro k hh hS hk hmeas; exfalso; omega
    | succ fu ih =>
      intro k hh hS hk hmeas
      have hg := hS.gen
      refine L_iload dL_hangs_9 rfl ?_
      refine L_aload_n dL_hangs_11 rfl rfl ?_
      refine L_iconst dL_hangs_12 ?_
      refine L_callV (ci := 5) (as := [_]) (s_count (y := v 11 0) hS (inR_of (by omega) (by omega)) rfl) dL_hangs_13 ml_L_46 cv_X5_count hS.obj rfl rfl (Nat.le_of_ble_eq_true rfl) (Nat.le_of_ble_eq_true rfl) rfl (fun r h2 hp => ?_)
      obtain ⟨rfl, hS⟩ := hp
      refine L_icmp_ge (tgt := 267) dL_hangs_16 (by decide) (inR_of (by omega) (by omega)) (inR_of (by omega) (by omega)) (fun hc16 => ?_) (fun hc16 => ?_)
      · skip
        have hk2 : k = (v 11 0).toNat := by omega
        subst hk2
        have hg := hS.gen
        refine L_aload_n dL_hangs_267 rfl rfl ?_
        refine L_iconst dL_hangs_268 ?_
        refine L_callV (ci := 5) (as := [_]) (s_count (y := sumN (v 7) (v 11 0).toNat) hS (inR_of (by omega) (by omega)) rfl) dL_hangs_269 ml_L_46 cv_X5_count hS.obj rfl rfl (Nat.le_of_ble_eq_true rfl) (Nat.le_of_ble_eq_true rfl) rfl (fun r h2 hp => ?_)
        obtain ⟨rfl, hS⟩ := hp
        refine L_iload_n dL_hangs_272 rfl rfl ?_
        refine L_icmp_neE dL_hangs_273 (by decide) (rfl) ?_
        refine L_aload_n dL_hangs_276 rfl rfl ?_
        refine L_bipush dL_hangs_277 rfl ?_
        refine L_callV (ci := 5) (as := [_]) (s_count (y := sumN (v 6) (v 11 0).toNat) hS (inR_of (by omega) (by omega)) rfl) dL_hangs_279 ml_L_46 cv_X5_count hS.obj rfl rfl (Nat.le_of_ble_eq_true rfl) (Nat.le_of_ble_eq_true rfl) rfl (fun r h2 hp => ?_)
        obtain ⟨rfl, hS⟩ := hp
        refine L_iload_n dL_hangs_282 rfl rfl ?_
        refine L_icmp_neE dL_hangs_283 (by decide) (rfl) ?_
        refine L_aload_n dL_hangs_286 rfl rfl ?_
        refine L_bipush dL_hangs_287 rfl ?_
        refine L_callV (ci := 5) (as := [_]) (s_count (y := sumN (v 8) (v 11 0).toNat) hS (inR_of (by omega) (by omega)) rfl) dL_hangs_289 ml_L_46 cv_X5_count hS.obj rfl rfl (Nat.le_of_ble_eq_true rfl) (Nat.le_of_ble_eq_true rfl) rfl (fun r h2 hp => ?_)
        obtain ⟨rfl, hS⟩ := hp
        refine L_iload_n dL_hangs_292 rfl rfl ?_
        refine L_icmp_neE dL_hangs_293 (by decide) (rfl) ?_
        refine L_aload_n dL_hangs_296 rfl rfl ?_
        refine L_iconst dL_hangs_297 ?_
        refine L_callV (ci := 5) (as := [_]) (s_count (y := v 11 0) hS (inR_of (by omega) (by omega)) rfl) dL_hangs_298 ml_L_46 cv_X5_count hS.obj rfl rfl (Nat.le_of_ble_eq_true rfl) (Nat.le_of_ble_eq_true rfl) rfl (fun r h2 hp => ?_)
        obtain ⟨rfl, hS⟩ := hp
        refine L_bipush dL_hangs_301 rfl ?_
        refine L_icmp_ge (tgt := 317) dL_hangs_303 (by decide) (inR_of (by omega) (by omega)) (inR_of (by omega) (by omega)) (fun hc303 => ?_) (fun hc303 => ?_)
        · skip
          exfalso; omega
        · skip
          refine L_aload_n dL_hangs_306 rfl rfl ?_
          refine L_callS (as := [_]) (c_L_bed _ v hv sz ks sw hS) dL_hangs_307 ml_L_56 cs_L_bed rfl (Nat.le_of_ble_eq_true rfl) (Nat.le_of_ble_eq_true rfl) rfl (fun r h2 hp => ?_)
          obtain ⟨rfl, hS⟩ := hp
          refine L_if_eq (tgt := 317) dL_hangs_310 (by decide) (inR_of (by omega) (by omega)) (fun hc310 => ?_) (fun hc310 => ?_)
          · skip
            exfalso; omega
          · skip
            refine L_iconst dL_hangs_313 ?_
            refine L_goto (tgt := 318) dL_hangs_314 (by decide) ?_
            refine M_zreturn dL_hangs_318 rfl (Or.inr rfl) ?_
            exact ⟨rfl, hS⟩
      · skip
        have hb := hS.wel (w := (k : Int)) (by omega) (by omega)
        have hg := hS.gen
        refine L_aload_n dL_hangs_19 rfl rfl ?_
        refine L_iload dL_hangs_20 rfl ?_
        refine L_iconst dL_hangs_22 ?_
        refine L_callV (ci := 5) (as := [_, _]) (s_well hS (inR_of (by omega) (by omega)) (inR_of (by omega) (by omega)) (well_1 (by omega) (by omega))) dL_hangs_23 ml_L_49 cv_X5_well hS.obj rfl rfl (Nat.le_of_ble_eq_true rfl) (Nat.le_of_ble_eq_true rfl) rfl (fun r h2 hp => ?_)
        obtain ⟨rfl, hS⟩ := hp
        refine L_istore dL_hangs_26 (by decide) rfl rfl ?_
        refine L_aload_n dL_hangs_28 rfl rfl ?_
        refine L_iload dL_hangs_29 rfl ?_
        refine L_iconst dL_hangs_31 ?_
        refine L_callV (ci := 5) (as := [_, _]) (s_well hS (inR_of (by omega) (by omega)) (inR_of (by omega) (by omega)) (well_3 (by omega) (by omega))) dL_hangs_32 ml_L_49 cv_X5_well hS.obj rfl rfl (Nat.le_of_ble_eq_true rfl) (Nat.le_of_ble_eq_true rfl) rfl (fun r h2 hp => ?_)
        obtain ⟨rfl, hS⟩ := hp
        refine L_iconst dL_hangs_35 ?_
        refine L_fork2 44 (v 7 (k : Int)) (fun h => SYS h v hv sz ks sw) rfl (fun h2 hS => ?_) (fun J => ?_)
        · skip
          refine L_istore dL_hangs_44 (by decide) rfl rfl ?_
          refine L_iconst dL_hangs_46 ?_
          refine L_istore dL_hangs_47 (by decide) rfl rfl ?_
          have L2 : ∀ (fu2 : Nat) (m : Nat) (hh2 : List PO), SYS hh2 v hv sz ks sw → m ≤ (v 11 0).toNat → (v 11 0).toNat - m < fu2 → GM 7 cL_hangs 9 (some .boolean) hh2 49 [some (p_ 0), some (w_ (sumN (v 7) k)), some (w_ (sumN (v 6) k)), some (w_ (sumN (v 8) k)), some (w_ (k : Int)), some (w_ (conN (v 4) (v 5) (v 7) (k : Int) m)), some (w_ (v 7 (k : Int))), some (w_ (m : Int)), none] [] (fun r0 h2 => r0 = some (w_ 1) ∧ SYS h2 v hv sz ks sw) := by
            intro fu2
            induction fu2 with
            | zero => intro m hh2 hS hm hmeas2; exfalso; omega
            | succ fu2 ih2 =>
              intro m hh2 hS hm hmeas2
              refine L_iload dL_hangs_49 rfl ?_
              refine L_aload_n dL_hangs_51 rfl rfl ?_
              refine L_iconst dL_hangs_52 ?_
              refine L_callV (ci := 5) (as := [_]) (s_count (y := v 11 0) hS (inR_of (by omega) (by omega)) rfl) dL_hangs_53 ml_L_46 cv_X5_count hS.obj rfl rfl (Nat.le_of_ble_eq_true rfl) (Nat.le_of_ble_eq_true rfl) rfl (fun r h2 hp => ?_)
              obtain ⟨rfl, hS⟩ := hp
              refine L_icmp_ge (tgt := 120) dL_hangs_56 (by decide) (inR_of (by omega) (by omega)) (inR_of (by omega) (by omega)) (fun hc56 => ?_) (fun hc56 => ?_)
              · skip
                have hm2 : m = (v 11 0).toNat := by omega
                subst hm2
                have hcr := conN_rng (c := v 4) (z := v 7) (w := (k : Int)) hS.ok.2.2.2.1.2.1 (by omega) (by omega) (v 11 0).toNat (by omega)
                have hcon : conI (v 4) (v 5) (v 7) (v 11 0) (k : Int) = if v 7 (k : Int) = 1 then 0 else max (conN (v 4) (v 5) (v 7) (k : Int) (v 11 0).toNat) 0 := by
                  unfold conI
                  by_cases z : v 7 (k : Int) = 1
                  · rw [if_pos (Or.inr z), if_pos z]
                  · rw [if_neg z, if_neg (by omega)]
                refine L_iload_n dL_hangs_120 rfl rfl ?_
                refine L_aload_n dL_hangs_121 rfl rfl ?_
                refine L_iload dL_hangs_122 rfl ?_
                refine L_iconst dL_hangs_124 ?_
                refine L_callV (ci := 5) (as := [_, _]) (s_well hS (inR_of (by omega) (by omega)) (inR_of (by omega) (by omega)) (well_3 (by omega) (by omega))) dL_hangs_125 ml_L_49 cv_X5_well hS.obj rfl rfl (Nat.le_of_ble_eq_true rfl) (Nat.le_of_ble_eq_true rfl) rfl (fun r h2 hp => ?_)
                obtain ⟨rfl, hS⟩ := hp
                refine L_iadd dL_hangs_128 ?_
                refine L_istore_n dL_hangs_129 rfl (by decide) rfl rfl ?_
                refine L_iload_n dL_hangs_130 rfl rfl ?_
                refine L_aload_n dL_hangs_131 rfl rfl ?_
                refine L_iload dL_hangs_132 rfl ?_
                refine L_iconst dL_hangs_134 ?_
                refine L_callV (ci := 5) (as := [_, _]) (s_well hS (inR_of (by omega) (by omega)) (inR_of (by omega) (by omega)) (well_2 (by omega) (by omega))) dL_hangs_135 ml_L_49 cv_X5_well hS.obj rfl rfl (Nat.le_of_ble_eq_true rfl) (Nat.le_of_ble_eq_true rfl) rfl (fun r h2 hp => ?_)
                obtain ⟨rfl, hS⟩ := hp
                refine L_iadd dL_hangs_138 ?_
                refine L_istore_n dL_hangs_139 rfl (by decide) rfl rfl ?_
                refine L_iload_n dL_hangs_140 rfl rfl ?_
                refine L_aload_n dL_hangs_141 rfl rfl ?_
                refine L_iload dL_hangs_142 rfl ?_
                refine L_iconst dL_hangs_144 ?_
                refine L_callV (ci := 5) (as := [_, _]) (s_well hS (inR_of (by omega) (by omega)) (inR_of (by omega) (by omega)) (well_5 (by omega) (by omega))) dL_hangs_145 ml_L_49 cv_X5_well hS.obj rfl rfl (Nat.le_of_ble_eq_true rfl) (Nat.le_of_ble_eq_true rfl) rfl (fun r h2 hp => ?_)
                obtain ⟨rfl, hS⟩ := hp
                refine L_iadd dL_hangs_148 ?_
                refine L_istore_n dL_hangs_149 rfl (by decide) rfl rfl ?_
                refine L_aload_n dL_hangs_150 rfl rfl ?_
                refine L_iload dL_hangs_151 rfl ?_
                refine L_iconst dL_hangs_153 ?_
                refine L_callV (ci := 5) (as := [_, _]) (s_well hS (inR_of (by omega) (by omega)) (inR_of (by omega) (by omega)) (well_4 (by omega) (by omega))) dL_hangs_154 ml_L_49 cv_X5_well hS.obj rfl rfl (Nat.le_of_ble_eq_true rfl) (Nat.le_of_ble_eq_true rfl) rfl (fun r h2 hp => ?_)
                obtain ⟨rfl, hS⟩ := hp
                refine L_iload dL_hangs_157 rfl ?_
                refine L_fork1 173 (conI (v 4) (v 5) (v 7) (v 11 0) (k : Int)) (fun h => SYS h v hv sz ks sw) rfl (fun h2 hS => ?_) (fun J => ?_)
                · skip
                  refine L_icmp_neE dL_hangs_173 (by decide) (rfl) ?_
                  refine L_aload_n dL_hangs_176 rfl rfl ?_
                  refine L_aload_n dL_hangs_177 rfl rfl ?_
                  refine L_iload dL_hangs_178 rfl ?_
                  refine L_iconst dL_hangs_180 ?_
                  refine L_callV (ci := 5) (as := [_, _]) (s_well hS (inR_of (by omega) (by omega)) (inR_of (by omega) (by omega)) (well_0 (by omega) (by omega))) dL_hangs_181 ml_L_49 cv_X5_well hS.obj rfl rfl (Nat.le_of_ble_eq_true rfl) (Nat.le_of_ble_eq_true rfl) rfl (fun r h2 hp => ?_)
                  obtain ⟨rfl, hS⟩ := hp
                  refine L_iconst dL_hangs_184 ?_
                  refine L_callV (ci := 5) (as := [_, _]) (s_cell hS (inR_of (by omega) (by omega)) (inR_of (by omega) (by omega)) (cell_3 (by omega) (by omega))) dL_hangs_185 ml_L_43 cv_X5_cell hS.obj rfl rfl (Nat.le_of_ble_eq_true rfl) (Nat.le_of_ble_eq_true rfl) rfl (fun r h2 hp => ?_)
                  obtain ⟨rfl, hS⟩ := hp
                  refine L_iload dL_hangs_188 rfl ?_
                  refine L_icmp_neE dL_hangs_190 (by decide) (hS.bes (by omega) (by omega)) ?_
                  have hrx : v 7 (k : Int) = 0 ∨ v 7 (k : Int) = 1 := by omega
                  refine L_iload dL_hangs_193 rfl ?_
                  refine L_if_eq (tgt := 208) dL_hangs_195 (by decide) (inR_of (by omega) (by omega)) (fun hc195 => ?_) (fun hc195 => ?_)
                  · skip
                    refine L_iload dL_hangs_208 rfl ?_
                    refine L_if_ne (tgt := 225) dL_hangs_210 (by decide) (inR_of (by omega) (by omega)) (fun hc210 => ?_) (fun hc210 => ?_)
                    · skip
                      refine L_iload dL_hangs_225 rfl ?_
                      refine L_if_eq (tgt := 241) dL_hangs_227 (by decide) (inR_of (by omega) (by omega)) (fun hc227 => ?_) (fun hc227 => ?_)
                      · skip
                        refine L_aload_n dL_hangs_241 rfl rfl ?_
                        refine L_iload dL_hangs_242 rfl ?_
                        refine L_iconst dL_hangs_244 ?_
                        refine L_callV (ci := 5) (as := [_, _]) (s_well hS (inR_of (by omega) (by omega)) (inR_of (by omega) (by omega)) (well_5 (by omega) (by omega))) dL_hangs_245 ml_L_49 cv_X5_well hS.obj rfl rfl (Nat.le_of_ble_eq_true rfl) (Nat.le_of_ble_eq_true rfl) rfl (fun r h2 hp => ?_)
                        obtain ⟨rfl, hS⟩ := hp
                        refine L_bipush dL_hangs_248 rfl ?_
                        refine L_aload_n dL_hangs_250 rfl rfl ?_
                        refine L_iconst dL_hangs_251 ?_
                        refine L_callV (ci := 5) (as := [_]) (s_count (y := v 11 2) hS (inR_of (by omega) (by omega)) rfl) dL_hangs_252 ml_L_46 cv_X5_count hS.obj rfl rfl (Nat.le_of_ble_eq_true rfl) (Nat.le_of_ble_eq_true rfl) rfl (fun r h2 hp => ?_)
                        obtain ⟨rfl, hS⟩ := hp
                        refine L_imul dL_hangs_255 ?_
                        refine L_icmp_le (tgt := 261) dL_hangs_256 (by decide) (inR_of (by omega) (by omega)) (inR_of (by omega) (by omega)) (fun hc256 => ?_) (fun hc256 => ?_)
                        · skip
                          refine L_iinc dL_hangs_261 (by decide) rfl rfl rfl ?_
                          refine L_goto (tgt := 9) dL_hangs_264 (by decide) ?_
                          refine L_forget 5 rfl ?_
                          refine L_forget 6 rfl ?_
                          refine L_forget 7 rfl ?_
                          refine L_forget 8 rfl ?_
                          exact ih (k + 1) _ hS (by omega) (by omega)
                        · skip
                          exfalso; omega
                      · skip
                        refine L_aload_n dL_hangs_230 rfl rfl ?_
                        refine L_iload dL_hangs_231 rfl ?_
                        refine L_bipush dL_hangs_233 rfl ?_
                        refine L_callV (ci := 5) (as := [_, _]) (s_well hS (inR_of (by omega) (by omega)) (inR_of (by omega) (by omega)) (well_6 (by omega) (by omega))) dL_hangs_235 ml_L_49 cv_X5_well hS.obj rfl rfl (Nat.le_of_ble_eq_true rfl) (Nat.le_of_ble_eq_true rfl) rfl (fun r h2 hp => ?_)
                        obtain ⟨rfl, hS⟩ := hp
                        refine L_if_eq (tgt := 259) dL_hangs_238 (by decide) (inR_of (by omega) (by omega)) (fun hc238 => ?_) (fun hc238 => ?_)
                        · skip
                          exfalso; omega
                        · skip
                          refine L_aload_n dL_hangs_241 rfl rfl ?_
                          refine L_iload dL_hangs_242 rfl ?_
                          refine L_iconst dL_hangs_244 ?_
                          refine L_callV (ci := 5) (as := [_, _]) (s_well hS (inR_of (by omega) (by omega)) (inR_of (by omega) (by omega)) (well_5 (by omega) (by omega))) dL_hangs_245 ml_L_49 cv_X5_well hS.obj rfl rfl (Nat.le_of_ble_eq_true rfl) (Nat.le_of_ble_eq_true rfl) rfl (fun r h2 hp => ?_)
                          obtain ⟨rfl, hS⟩ := hp
                          refine L_bipush dL_hangs_248 rfl ?_
                          refine L_aload_n dL_hangs_250 rfl rfl ?_
                          refine L_iconst dL_hangs_251 ?_
                          refine L_callV (ci := 5) (as := [_]) (s_count (y := v 11 2) hS (inR_of (by omega) (by omega)) rfl) dL_hangs_252 ml_L_46 cv_X5_count hS.obj rfl rfl (Nat.le_of_ble_eq_true rfl) (Nat.le_of_ble_eq_true rfl) rfl (fun r h2 hp => ?_)
                          obtain ⟨rfl, hS⟩ := hp
                          refine L_imul dL_hangs_255 ?_
                          refine L_icmp_le (tgt := 261) dL_hangs_256 (by decide) (inR_of (by omega) (by omega)) (inR_of (by omega) (by omega)) (fun hc256 => ?_) (fun hc256 => ?_)
                          · skip
                            refine L_iinc dL_hangs_261 (by decide) rfl rfl rfl ?_
                            refine L_goto (tgt := 9) dL_hangs_264 (by decide) ?_
                            refine L_forget 5 rfl ?_
                            refine L_forget 6 rfl ?_
                            refine L_forget 7 rfl ?_
                            refine L_forget 8 rfl ?_
                            exact ih (k + 1) _ hS (by omega) (by omega)
                          · skip
                            exfalso; omega
                    · skip
                      refine L_aload_n dL_hangs_213 rfl rfl ?_
                      refine L_iload dL_hangs_214 rfl ?_
                      refine L_iconst dL_hangs_216 ?_
                      refine L_callV (ci := 5) (as := [_, _]) (s_well hS (inR_of (by omega) (by omega)) (inR_of (by omega) (by omega)) (well_2 (by omega) (by omega))) dL_hangs_217 ml_L_49 cv_X5_well hS.obj rfl rfl (Nat.le_of_ble_eq_true rfl) (Nat.le_of_ble_eq_true rfl) rfl (fun r h2 hp => ?_)
                      obtain ⟨rfl, hS⟩ := hp
                      refine L_bipush dL_hangs_220 rfl ?_
                      refine L_icmp_gt (tgt := 259) dL_hangs_222 (by decide) (inR_of (by omega) (by omega)) (inR_of (by omega) (by omega)) (fun hc222 => ?_) (fun hc222 => ?_)
                      · skip
                        exfalso; omega
                      · skip
                        refine L_iload dL_hangs_225 rfl ?_
                        refine L_if_eq (tgt := 241) dL_hangs_227 (by decide) (inR_of (by omega) (by omega)) (fun hc227 => ?_) (fun hc227 => ?_)
                        · skip
                          refine L_aload_n dL_hangs_241 rfl rfl ?_
                          refine L_iload dL_hangs_242 rfl ?_
                          refine L_iconst dL_hangs_244 ?_
                          refine L_callV (ci := 5) (as := [_, _]) (s_well hS (inR_of (by omega) (by omega)) (inR_of (by omega) (by omega)) (well_5 (by omega) (by omega))) dL_hangs_245 ml_L_49 cv_X5_well hS.obj rfl rfl (Nat.le_of_ble_eq_true rfl) (Nat.le_of_ble_eq_true rfl) rfl (fun r h2 hp => ?_)
                          obtain ⟨rfl, hS⟩ := hp
                          refine L_bipush dL_hangs_248 rfl ?_
                          refine L_aload_n dL_hangs_250 rfl rfl ?_
                          refine L_iconst dL_hangs_251 ?_
                          refine L_callV (ci := 5) (as := [_]) (s_count (y := v 11 2) hS (inR_of (by omega) (by omega)) rfl) dL_hangs_252 ml_L_46 cv_X5_count hS.obj rfl rfl (Nat.le_of_ble_eq_true rfl) (Nat.le_of_ble_eq_true rfl) rfl (fun r h2 hp => ?_)
                          obtain ⟨rfl, hS⟩ := hp
                          refine L_imul dL_hangs_255 ?_
                          refine L_icmp_le (tgt := 261) dL_hangs_256 (by decide) (inR_of (by omega) (by omega)) (inR_of (by omega) (by omega)) (fun hc256 => ?_) (fun hc256 => ?_)
                          · skip
                            refine L_iinc dL_hangs_261 (by decide) rfl rfl rfl ?_
                            refine L_goto (tgt := 9) dL_hangs_264 (by decide) ?_
                            refine L_forget 5 rfl ?_
                            refine L_forget 6 rfl ?_
                            refine L_forget 7 rfl ?_
                            refine L_forget 8 rfl ?_
                            exact ih (k + 1) _ hS (by omega) (by omega)
                          · skip
                            exfalso; omega
                        · skip
                          refine L_aload_n dL_hangs_230 rfl rfl ?_
                          refine L_iload dL_hangs_231 rfl ?_
                          refine L_bipush dL_hangs_233 rfl ?_
                          refine L_callV (ci := 5) (as := [_, _]) (s_well hS (inR_of (by omega) (by omega)) (inR_of (by omega) (by omega)) (well_6 (by omega) (by omega))) dL_hangs_235 ml_L_49 cv_X5_well hS.obj rfl rfl (Nat.le_of_ble_eq_true rfl) (Nat.le_of_ble_eq_true rfl) rfl (fun r h2 hp => ?_)
                          obtain ⟨rfl, hS⟩ := hp
                          refine L_if_eq (tgt := 259) dL_hangs_238 (by decide) (inR_of (by omega) (by omega)) (fun hc238 => ?_) (fun hc238 => ?_)
                          · skip
                            exfalso; omega
                          · skip
                            refine L_aload_n dL_hangs_241 rfl rfl ?_
                            refine L_iload dL_hangs_242 rfl ?_
                            refine L_iconst dL_hangs_244 ?_
                            refine L_callV (ci := 5) (as := [_, _]) (s_well hS (inR_of (by omega) (by omega)) (inR_of (by omega) (by omega)) (well_5 (by omega) (by omega))) dL_hangs_245 ml_L_49 cv_X5_well hS.obj rfl rfl (Nat.le_of_ble_eq_true rfl) (Nat.le_of_ble_eq_true rfl) rfl (fun r h2 hp => ?_)
                            obtain ⟨rfl, hS⟩ := hp
                            refine L_bipush dL_hangs_248 rfl ?_
                            refine L_aload_n dL_hangs_250 rfl rfl ?_
                            refine L_iconst dL_hangs_251 ?_
                            refine L_callV (ci := 5) (as := [_]) (s_count (y := v 11 2) hS (inR_of (by omega) (by omega)) rfl) dL_hangs_252 ml_L_46 cv_X5_count hS.obj rfl rfl (Nat.le_of_ble_eq_true rfl) (Nat.le_of_ble_eq_true rfl) rfl (fun r h2 hp => ?_)
                            obtain ⟨rfl, hS⟩ := hp
                            refine L_imul dL_hangs_255 ?_
                            refine L_icmp_le (tgt := 261) dL_hangs_256 (by decide) (inR_of (by omega) (by omega)) (inR_of (by omega) (by omega)) (fun hc256 => ?_) (fun hc256 => ?_)
                            · skip
                              refine L_iinc dL_hangs_261 (by decide) rfl rfl rfl ?_
                              refine L_goto (tgt := 9) dL_hangs_264 (by decide) ?_
                              refine L_forget 5 rfl ?_
                              refine L_forget 6 rfl ?_
                              refine L_forget 7 rfl ?_
                              refine L_forget 8 rfl ?_
                              exact ih (k + 1) _ hS (by omega) (by omega)
                            · skip
                              exfalso; omega
                  · skip
                    refine L_aload_n dL_hangs_198 rfl rfl ?_
                    refine L_iload dL_hangs_199 rfl ?_
                    refine L_iconst dL_hangs_201 ?_
                    refine L_callV (ci := 5) (as := [_, _]) (s_well hS (inR_of (by omega) (by omega)) (inR_of (by omega) (by omega)) (well_2 (by omega) (by omega))) dL_hangs_202 ml_L_49 cv_X5_well hS.obj rfl rfl (Nat.le_of_ble_eq_true rfl) (Nat.le_of_ble_eq_true rfl) rfl (fun r h2 hp => ?_)
                    obtain ⟨rfl, hS⟩ := hp
                    refine L_if_eq (tgt := 259) dL_hangs_205 (by decide) (inR_of (by omega) (by omega)) (fun hc205 => ?_) (fun hc205 => ?_)
                    · skip
                      exfalso; omega
                    · skip
                      refine L_iload dL_hangs_208 rfl ?_
                      refine L_if_ne (tgt := 225) dL_hangs_210 (by decide) (inR_of (by omega) (by omega)) (fun hc210 => ?_) (fun hc210 => ?_)
                      · skip
                        refine L_iload dL_hangs_225 rfl ?_
                        refine L_if_eq (tgt := 241) dL_hangs_227 (by decide) (inR_of (by omega) (by omega)) (fun hc227 => ?_) (fun hc227 => ?_)
                        · skip
                          refine L_aload_n dL_hangs_241 rfl rfl ?_
                          refine L_iload dL_hangs_242 rfl ?_
                          refine L_iconst dL_hangs_244 ?_
                          refine L_callV (ci := 5) (as := [_, _]) (s_well hS (inR_of (by omega) (by omega)) (inR_of (by omega) (by omega)) (well_5 (by omega) (by omega))) dL_hangs_245 ml_L_49 cv_X5_well hS.obj rfl rfl (Nat.le_of_ble_eq_true rfl) (Nat.le_of_ble_eq_true rfl) rfl (fun r h2 hp => ?_)
                          obtain ⟨rfl, hS⟩ := hp
                          refine L_bipush dL_hangs_248 rfl ?_
                          refine L_aload_n dL_hangs_250 rfl rfl ?_
                          refine L_iconst dL_hangs_251 ?_
                          refine L_callV (ci := 5) (as := [_]) (s_count (y := v 11 2) hS (inR_of (by omega) (by omega)) rfl) dL_hangs_252 ml_L_46 cv_X5_count hS.obj rfl rfl (Nat.le_of_ble_eq_true rfl) (Nat.le_of_ble_eq_true rfl) rfl (fun r h2 hp => ?_)
                          obtain ⟨rfl, hS⟩ := hp
                          refine L_imul dL_hangs_255 ?_
                          refine L_icmp_le (tgt := 261) dL_hangs_256 (by decide) (inR_of (by omega) (by omega)) (inR_of (by omega) (by omega)) (fun hc256 => ?_) (fun hc256 => ?_)
                          · skip
                            refine L_iinc dL_hangs_261 (by decide) rfl rfl rfl ?_
                            refine L_goto (tgt := 9) dL_hangs_264 (by decide) ?_
                            refine L_forget 5 rfl ?_
                            refine L_forget 6 rfl ?_
                            refine L_forget 7 rfl ?_
                            refine L_forget 8 rfl ?_
                            exact ih (k + 1) _ hS (by omega) (by omega)
                          · skip
                            exfalso; omega
                        · skip
                          refine L_aload_n dL_hangs_230 rfl rfl ?_
                          refine L_iload dL_hangs_231 rfl ?_
                          refine L_bipush dL_hangs_233 rfl ?_
                          refine L_callV (ci := 5) (as := [_, _]) (s_well hS (inR_of (by omega) (by omega)) (inR_of (by omega) (by omega)) (well_6 (by omega) (by omega))) dL_hangs_235 ml_L_49 cv_X5_well hS.obj rfl rfl (Nat.le_of_ble_eq_true rfl) (Nat.le_of_ble_eq_true rfl) rfl (fun r h2 hp => ?_)
                          obtain ⟨rfl, hS⟩ := hp
                          refine L_if_eq (tgt := 259) dL_hangs_238 (by decide) (inR_of (by omega) (by omega)) (fun hc238 => ?_) (fun hc238 => ?_)
                          · skip
                            exfalso; omega
                          · skip
                            refine L_aload_n dL_hangs_241 rfl rfl ?_
                            refine L_iload dL_hangs_242 rfl ?_
                            refine L_iconst dL_hangs_244 ?_
                            refine L_callV (ci := 5) (as := [_, _]) (s_well hS (inR_of (by omega) (by omega)) (inR_of (by omega) (by omega)) (well_5 (by omega) (by omega))) dL_hangs_245 ml_L_49 cv_X5_well hS.obj rfl rfl (Nat.le_of_ble_eq_true rfl) (Nat.le_of_ble_eq_true rfl) rfl (fun r h2 hp => ?_)
                            obtain ⟨rfl, hS⟩ := hp
                            refine L_bipush dL_hangs_248 rfl ?_
                            refine L_aload_n dL_hangs_250 rfl rfl ?_
                            refine L_iconst dL_hangs_251 ?_
                            refine L_callV (ci := 5) (as := [_]) (s_count (y := v 11 2) hS (inR_of (by omega) (by omega)) rfl) dL_hangs_252 ml_L_46 cv_X5_count hS.obj rfl rfl (Nat.le_of_ble_eq_true rfl) (Nat.le_of_ble_eq_true rfl) rfl (fun r h2 hp => ?_)
                            obtain ⟨rfl, hS⟩ := hp
                            refine L_imul dL_hangs_255 ?_
                            refine L_icmp_le (tgt := 261) dL_hangs_256 (by decide) (inR_of (by omega) (by omega)) (inR_of (by omega) (by omega)) (fun hc256 => ?_) (fun hc256 => ?_)
                            · skip
                              refine L_iinc dL_hangs_261 (by decide) rfl rfl rfl ?_
                              refine L_goto (tgt := 9) dL_hangs_264 (by decide) ?_
                              refine L_forget 5 rfl ?_
                              refine L_forget 6 rfl ?_
                              refine L_forget 7 rfl ?_
                              refine L_forget 8 rfl ?_
                              exact ih (k + 1) _ hS (by omega) (by omega)
                            · skip
                              exfalso; omega
                      · skip
                        refine L_aload_n dL_hangs_213 rfl rfl ?_
                        refine L_iload dL_hangs_214 rfl ?_
                        refine L_iconst dL_hangs_216 ?_
                        refine L_callV (ci := 5) (as := [_, _]) (s_well hS (inR_of (by omega) (by omega)) (inR_of (by omega) (by omega)) (well_2 (by omega) (by omega))) dL_hangs_217 ml_L_49 cv_X5_well hS.obj rfl rfl (Nat.le_of_ble_eq_true rfl) (Nat.le_of_ble_eq_true rfl) rfl (fun r h2 hp => ?_)
                        obtain ⟨rfl, hS⟩ := hp
                        refine L_bipush dL_hangs_220 rfl ?_
                        refine L_icmp_gt (tgt := 259) dL_hangs_222 (by decide) (inR_of (by omega) (by omega)) (inR_of (by omega) (by omega)) (fun hc222 => ?_) (fun hc222 => ?_)
                        · skip
                          exfalso; omega
                        · skip
                          refine L_iload dL_hangs_225 rfl ?_
                          refine L_if_eq (tgt := 241) dL_hangs_227 (by decide) (inR_of (by omega) (by omega)) (fun hc227 => ?_) (fun hc227 => ?_)
                          · skip
                            refine L_aload_n dL_hangs_241 rfl rfl ?_
                            refine L_iload dL_hangs_242 rfl ?_
                            refine L_iconst dL_hangs_244 ?_
                            refine L_callV (ci := 5) (as := [_, _]) (s_well hS (inR_of (by omega) (by omega)) (inR_of (by omega) (by omega)) (well_5 (by omega) (by omega))) dL_hangs_245 ml_L_49 cv_X5_well hS.obj rfl rfl (Nat.le_of_ble_eq_true rfl) (Nat.le_of_ble_eq_true rfl) rfl (fun r h2 hp => ?_)
                            obtain ⟨rfl, hS⟩ := hp
                            refine L_bipush dL_hangs_248 rfl ?_
                            refine L_aload_n dL_hangs_250 rfl rfl ?_
                            refine L_iconst dL_hangs_251 ?_
                            refine L_callV (ci := 5) (as := [_]) (s_count (y := v 11 2) hS (inR_of (by omega) (by omega)) rfl) dL_hangs_252 ml_L_46 cv_X5_count hS.obj rfl rfl (Nat.le_of_ble_eq_true rfl) (Nat.le_of_ble_eq_true rfl) rfl (fun r h2 hp => ?_)
                            obtain ⟨rfl, hS⟩ := hp
                            refine L_imul dL_hangs_255 ?_
                            refine L_icmp_le (tgt := 261) dL_hangs_256 (by decide) (inR_of (by omega) (by omega)) (inR_of (by omega) (by omega)) (fun hc256 => ?_) (fun hc256 => ?_)
                            · skip
                              refine L_iinc dL_hangs_261 (by decide) rfl rfl rfl ?_
                              refine L_goto (tgt := 9) dL_hangs_264 (by decide) ?_
                              refine L_forget 5 rfl ?_
                              refine L_forget 6 rfl ?_
                              refine L_forget 7 rfl ?_
                              refine L_forget 8 rfl ?_
                              exact ih (k + 1) _ hS (by omega) (by omega)
                            · skip
                              exfalso; omega
                          · skip
                            refine L_aload_n dL_hangs_230 rfl rfl ?_
                            refine L_iload dL_hangs_231 rfl ?_
                            refine L_bipush dL_hangs_233 rfl ?_
                            refine L_callV (ci := 5) (as := [_, _]) (s_well hS (inR_of (by omega) (by omega)) (inR_of (by omega) (by omega)) (well_6 (by omega) (by omega))) dL_hangs_235 ml_L_49 cv_X5_well hS.obj rfl rfl (Nat.le_of_ble_eq_true rfl) (Nat.le_of_ble_eq_true rfl) rfl (fun r h2 hp => ?_)
                            obtain ⟨rfl, hS⟩ := hp
                            refine L_if_eq (tgt := 259) dL_hangs_238 (by decide) (inR_of (by omega) (by omega)) (fun hc238 => ?_) (fun hc238 => ?_)
                            · skip
                              exfalso; omega
                            · skip
                              refine L_aload_n dL_hangs_241 rfl rfl ?_
                              refine L_iload dL_hangs_242 rfl ?_
                              refine L_iconst dL_hangs_244 ?_
                              refine L_callV (ci := 5) (as := [_, _]) (s_well hS (inR_of (by omega) (by omega)) (inR_of (by omega) (by omega)) (well_5 (by omega) (by omega))) dL_hangs_245 ml_L_49 cv_X5_well hS.obj rfl rfl (Nat.le_of_ble_eq_true rfl) (Nat.le_of_ble_eq_true rfl) rfl (fun r h2 hp => ?_)
                              obtain ⟨rfl, hS⟩ := hp
                              refine L_bipush dL_hangs_248 rfl ?_
                              refine L_aload_n dL_hangs_250 rfl rfl ?_
                              refine L_iconst dL_hangs_251 ?_
                              refine L_callV (ci := 5) (as := [_]) (s_count (y := v 11 2) hS (inR_of (by omega) (by omega)) rfl) dL_hangs_252 ml_L_46 cv_X5_count hS.obj rfl rfl (Nat.le_of_ble_eq_true rfl) (Nat.le_of_ble_eq_true rfl) rfl (fun r h2 hp => ?_)
                              obtain ⟨rfl, hS⟩ := hp
                              refine L_imul dL_hangs_255 ?_
                              refine L_icmp_le (tgt := 261) dL_hangs_256 (by decide) (inR_of (by omega) (by omega)) (inR_of (by omega) (by omega)) (fun hc256 => ?_) (fun hc256 => ?_)
                              · skip
                                refine L_iinc dL_hangs_261 (by decide) rfl rfl rfl ?_
                                refine L_goto (tgt := 9) dL_hangs_264 (by decide) ?_
                                refine L_forget 5 rfl ?_
                                refine L_forget 6 rfl ?_
                                refine L_forget 7 rfl ?_
                                refine L_forget 8 rfl ?_
                                exact ih (k + 1) _ hS (by omega) (by omega)
                              · skip
                                exfalso; omega
                · skip
                  refine L_if_ne (tgt := 167) dL_hangs_159 (by decide) (inR_of (by omega) (by omega)) (fun hc159 => ?_) (fun hc159 => ?_)
                  · skip
                    refine L_iconst dL_hangs_167 ?_
                    refine L_goto (tgt := 173) dL_hangs_168 (by decide) ?_
                    exact J _ _ hS (by rw [hcon]; split <;> omega)
                  · skip
                    refine L_iload dL_hangs_162 rfl ?_
                    refine L_if_ge (tgt := 171) dL_hangs_164 (by decide) (inR_of (by omega) (by omega)) (fun hc164 => ?_) (fun hc164 => ?_)
                    · skip
                      refine L_iload dL_hangs_171 rfl ?_
                      exact J _ _ hS (by rw [hcon]; split <;> omega)
                    · skip
                      refine L_iconst dL_hangs_167 ?_
                      refine L_goto (tgt := 173) dL_hangs_168 (by decide) ?_
                      exact J _ _ hS (by rw [hcon]; split <;> omega)
              · skip
                have hb2 := hS.wel (w := (m : Int)) (by omega) (by omega)
                refine L_aload_n dL_hangs_59 rfl rfl ?_
                refine L_iload dL_hangs_60 rfl ?_
                refine L_iconst dL_hangs_62 ?_
                refine L_callV (ci := 5) (as := [_, _]) (s_well hS (inR_of (by omega) (by omega)) (inR_of (by omega) (by omega)) (well_0 (by omega) (by omega))) dL_hangs_63 ml_L_49 cv_X5_well hS.obj rfl rfl (Nat.le_of_ble_eq_true rfl) (Nat.le_of_ble_eq_true rfl) rfl (fun r h2 hp => ?_)
                obtain ⟨rfl, hS⟩ := hp
                refine L_aload_n dL_hangs_66 rfl rfl ?_
                refine L_iload dL_hangs_67 rfl ?_
                refine L_iconst dL_hangs_69 ?_
                refine L_callV (ci := 5) (as := [_, _]) (s_well hS (inR_of (by omega) (by omega)) (inR_of (by omega) (by omega)) (well_0 (by omega) (by omega))) dL_hangs_70 ml_L_49 cv_X5_well hS.obj rfl rfl (Nat.le_of_ble_eq_true rfl) (Nat.le_of_ble_eq_true rfl) rfl (fun r h2 hp => ?_)
                obtain ⟨rfl, hS⟩ := hp
                refine L_isub dL_hangs_73 ?_
                refine L_istore dL_hangs_74 (by decide) rfl rfl ?_
                refine L_iload dL_hangs_76 rfl ?_
                refine L_iload dL_hangs_78 rfl ?_
                refine L_iconst dL_hangs_80 ?_
                refine L_fork2 111 (if (v 4 (m : Int) - v 4 (k : Int) = 1 ∨ v 4 (m : Int) - v 4 (k : Int) = -1) ∧ v 7 (m : Int) = 0 then v 5 (m : Int) else 0) (fun h => SYS h v hv sz ks sw) rfl (fun h2 hS => ?_) (fun J => ?_)
                · skip
                  refine L_isub dL_hangs_111 ?_
                  refine L_istore dL_hangs_112 (by decide) rfl rfl ?_
                  refine L_iinc dL_hangs_114 (by decide) rfl rfl rfl ?_
                  refine L_goto (tgt := 49) dL_hangs_117 (by decide) ?_
                  refine L_forget 8 rfl ?_
                  exact ih2 (m + 1) _ hS (by omega) (by omega)
                · skip
                  refine L_icmp_eq (tgt := 90) dL_hangs_81 (by decide) (inR_of (by omega) (by omega)) (inR_of (by omega) (by omega)) (fun hc81 => ?_) (fun hc81 => ?_)
                  · skip
                    refine L_aload_n dL_hangs_90 rfl rfl ?_
                    refine L_iload dL_hangs_91 rfl ?_
                    refine L_iconst dL_hangs_93 ?_
                    refine L_callV (ci := 5) (as := [_, _]) (s_well hS (inR_of (by omega) (by omega)) (inR_of (by omega) (by omega)) (well_3 (by omega) (by omega))) dL_hangs_94 ml_L_49 cv_X5_well hS.obj rfl rfl (Nat.le_of_ble_eq_true rfl) (Nat.le_of_ble_eq_true rfl) rfl (fun r h2 hp => ?_)
                    obtain ⟨rfl, hS⟩ := hp
                    refine L_if_ne (tgt := 110) dL_hangs_97 (by decide) (inR_of (by omega) (by omega)) (fun hc97 => ?_) (fun hc97 => ?_)
                    · skip
                      refine L_iconst dL_hangs_110 ?_
                      exact J _ _ hS (by first | exact (if_pos (by omega)).symm | exact (if_neg (by omega)).symm)
                    · skip
                      refine L_aload_n dL_hangs_100 rfl rfl ?_
                      refine L_iload dL_hangs_101 rfl ?_
                      refine L_iconst dL_hangs_103 ?_
                      refine L_callV (ci := 5) (as := [_, _]) (s_well hS (inR_of (by omega) (by omega)) (inR_of (by omega) (by omega)) (well_1 (by omega) (by omega))) dL_hangs_104 ml_L_49 cv_X5_well hS.obj rfl rfl (Nat.le_of_ble_eq_true rfl) (Nat.le_of_ble_eq_true rfl) rfl (fun r h2 hp => ?_)
                      obtain ⟨rfl, hS⟩ := hp
                      refine L_goto (tgt := 111) dL_hangs_107 (by decide) ?_
                      exact J _ _ hS (by first | exact (if_pos (by omega)).symm | exact (if_neg (by omega)).symm)
                  · skip
                    refine L_iload dL_hangs_84 rfl ?_
                    refine L_iconst dL_hangs_86 ?_
                    refine L_icmp_ne (tgt := 110) dL_hangs_87 (by decide) (inR_of (by omega) (by omega)) (inR_of (by omega) (by omega)) (fun hc87 => ?_) (fun hc87 => ?_)
                    · skip
                      refine L_iconst dL_hangs_110 ?_
                      exact J _ _ hS (by first | exact (if_pos (by omega)).symm | exact (if_neg (by omega)).symm)
                    · skip
                      refine L_aload_n dL_hangs_90 rfl rfl ?_
                      refine L_iload dL_hangs_91 rfl ?_
                      refine L_iconst dL_hangs_93 ?_
                      refine L_callV (ci := 5) (as := [_, _]) (s_well hS (inR_of (by omega) (by omega)) (inR_of (by omega) (by omega)) (well_3 (by omega) (by omega))) dL_hangs_94 ml_L_49 cv_X5_well hS.obj rfl rfl (Nat.le_of_ble_eq_true rfl) (Nat.le_of_ble_eq_true rfl) rfl (fun r h2 hp => ?_)
                      obtain ⟨rfl, hS⟩ := hp
                      refine L_if_ne (tgt := 110) dL_hangs_97 (by decide) (inR_of (by omega) (by omega)) (fun hc97 => ?_) (fun hc97 => ?_)
                      · skip
                        refine L_iconst dL_hangs_110 ?_
                        exact J _ _ hS (by first | exact (if_pos (by omega)).symm | exact (if_neg (by omega)).symm)
                      · skip
                        refine L_aload_n dL_hangs_100 rfl rfl ?_
                        refine L_iload dL_hangs_101 rfl ?_
                        refine L_iconst dL_hangs_103 ?_
                        refine L_callV (ci := 5) (as := [_, _]) (s_well hS (inR_of (by omega) (by omega)) (inR_of (by omega) (by omega)) (well_1 (by omega) (by omega))) dL_hangs_104 ml_L_49 cv_X5_well hS.obj rfl rfl (Nat.le_of_ble_eq_true rfl) (Nat.le_of_ble_eq_true rfl) rfl (fun r h2 hp => ?_)
                        obtain ⟨rfl, hS⟩ := hp
                        refine L_goto (tgt := 111) dL_hangs_107 (by decide) ?_
                        exact J _ _ hS (by first | exact (if_pos (by omega)).symm | exact (if_neg (by omega)).symm)
          exact L2 ((v 11 0).toNat + 1) 0 _ hS (by omega) (by omega)
        · skip
          refine L_icmp_ne (tgt := 43) dL_hangs_36 (by decide) (inR_of (by omega) (by omega)) (inR_of (by omega) (by omega)) (fun hc36 => ?_) (fun hc36 => ?_)
          · skip
            refine L_iconst dL_hangs_43 ?_
            exact J _ _ hS (by omega)
          · skip
            refine L_iconst dL_hangs_39 ?_
            refine L_goto (tgt := 44) dL_hangs_40 (by decide) ?_
            exact J _ _ hS (by omega)
  refine L_iconst dL_hangs_0 ?_
  refine L_istore_n dL_hangs_1 rfl (by decide) rfl rfl ?_
  refine L_iconst dL_hangs_2 ?_
  refine L_istore_n dL_hangs_3 rfl (by decide) rfl rfl ?_
  refine L_iconst dL_hangs_4 ?_
  refine L_istore_n dL_hangs_5 rfl (by decide) rfl rfl ?_
  refine L_iconst dL_hangs_6 ?_
  refine L_istore dL_hangs_7 (by decide) rfl rfl ?_
  exact L ((v 11 0).toNat + 1) 0 _ hS (by omega) (by omega)
theorem count_sz {v : SV} {sz k : Int} (h : ¬ k = 12) : countR v sz 0 k = countR v 0 0 k := by
  unfold countR
  rw [if_neg (c := k = 12) h, if_neg (c := k = 12) h]
def prA (v : SV) : Nat → Int64
  | 0 => 11
  | k + 1 => 31 * prA v k + (I (countR v 0 0 (k : Int))).toInt64
def prB (v : SV) : Nat → Int64
  | 0 => prA v 12
  | k + 1 => 31 * prB v k + (I (cellR v ((k : Int) / 5) ((k : Int) % 5))).toInt64
def prC (v : SV) : Nat → Int64
  | 0 => prB v 200
  | k + 1 => 31 * prC v k + (I (wellR v ((k : Int) / 7) ((k : Int) % 7))).toInt64
/-- what print answers -/
def prnL (v : SV) : Int64 := prC v (7 * v 11 0).toNat
set_option maxRecDepth 100000 in
set_option maxHeartbeats 8000000 in
theorem c_L_print (h : List PO) (v : SV) (hv : Int → SV) (sz ks : Int) (sw : SV) (hS : SYS h v hv sz ks sw) : PMw 6 yL_print cL_print 4 (some .long) h [r_ 0] (fun r0 h2 => r0 = some (l_ (prnL v)) ∧ SYS h2 v hv sz ks sw) := by
  refine PMw_of [some (p_ 0), none, none, none] rfl (by decide +kernel) (Nat.le_of_ble_eq_true rfl) rfl ?_
  have L3 : ∀ (fu : Nat) (k : Nat) (hh : List PO), SYS hh v hv sz ks sw → k ≤ (7 * v 11 0).toNat → (7 * v 11 0).toNat - k < fu → GM 6 cL_print 4 (some .long) hh 66 [some (p_ 0), some (l_ (prC v k)), none, some (w_ (k : Int))] [] (fun r0 h2 => r0 = some (l_ (prnL v)) ∧ SYS h2 v hv sz ks sw) := by
    intro fu
    induction fu with
    | zero => intro k hh hS hk hmeas; exfalso; omega
    | succ fu ih =>
      intro k hh hS hk hmeas
      have hg := hS.gen
      refine L_iload_n dL_print_66 rfl rfl ?_
      refine L_bipush dL_print_67 rfl ?_
      refine L_aload_n dL_print_69 rfl rfl ?_
      refine L_iconst dL_print_70 ?_
      refine L_callV (ci := 5) (as := [_]) (s_count (y := v 11 0) hS (inR_of (by omega) (by omega)) rfl) dL_print_71 ml_L_46 cv_X5_count hS.obj rfl rfl (Nat.le_of_ble_eq_true rfl) (Nat.le_of_ble_eq_true rfl) rfl (fun r h2 hp => ?_)
      obtain ⟨rfl, hS⟩ := hp
      refine L_imul dL_print_74 ?_
      refine L_icmp_ge (tgt := 104) dL_print_75 (by decide) (inR_of (by omega) (by omega)) (inR_of (by omega) (by omega)) (fun hc75 => ?_) (fun hc75 => ?_)
      · skip
        have hk2 : k = (7 * v 11 0).toNat := by omega
        subst hk2
        refine L_lload_n dL_print_104 rfl rfl ?_
        refine M_lreturn dL_print_105 rfl ?_
        exact ⟨rfl, hS⟩
      · skip
        refine L_ldc2 dL_print_78 cl_L_62 ?_
        refine L_lload_n dL_print_81 rfl rfl ?_
        refine L_lmul dL_print_82 ?_
        refine L_aload_n dL_print_83 rfl rfl ?_
        refine L_iload_n dL_print_84 rfl rfl ?_
        refine L_bipush dL_print_85 rfl ?_
        refine L_idiv dL_print_87 (by omega) (inR_of (by omega) (by omega)) (by omega) (inR_of (by omega) (by omega)) ?_
        refine L_iload_n dL_print_88 rfl rfl ?_
        refine L_bipush dL_print_89 rfl ?_
        refine L_irem dL_print_91 (by omega) (inR_of (by omega) (by omega)) (by omega) (inR_of (by omega) (by omega)) ?_
        refine L_callV (ci := 5) (as := [_, _]) (s_well (y := wellR v ((k : Int) / 7) ((k : Int) % 7)) hS (inR_of (by omega) (by omega)) (inR_of (by omega) (by omega)) rfl) dL_print_92 ml_L_49 cv_X5_well hS.obj rfl rfl (Nat.le_of_ble_eq_true rfl) (Nat.le_of_ble_eq_true rfl) rfl (fun r h2 hp => ?_)
        obtain ⟨rfl, hS⟩ := hp
        refine L_i2l dL_print_95 ?_
        refine L_ladd dL_print_96 ?_
        refine L_lstore_n dL_print_97 rfl (by decide) rfl rfl ?_
        refine L_iinc dL_print_98 (by decide) rfl rfl rfl ?_
        refine L_goto (tgt := 66) dL_print_101 (by decide) ?_
        exact ih (k + 1) _ hS (by omega) (by omega)
  have L2 : ∀ (fu : Nat) (k : Nat) (hh : List PO), SYS hh v hv sz ks sw → k ≤ 200 → 200 - k < fu → GM 6 cL_print 4 (some .long) hh 33 [some (p_ 0), some (l_ (prB v k)), none, some (w_ (k : Int))] [] (fun r0 h2 => r0 = some (l_ (prnL v)) ∧ SYS h2 v hv sz ks sw) := by
    intro fu
    induction fu with
    | zero => intro k hh hS hk hmeas; exfalso; omega
    | succ fu ih =>
      intro k hh hS hk hmeas
      have hg := hS.gen
      refine L_iload_n dL_print_33 rfl rfl ?_
      refine L_sipush dL_print_34 rfl ?_
      refine L_icmp_ge (tgt := 64) dL_print_37 (by decide) (inR_of (by omega) (by omega)) (inR_of (by omega) (by omega)) (fun hc37 => ?_) (fun hc37 => ?_)
      · skip
        have hk2 : k = 200 := by omega
        subst hk2
        refine L_iconst dL_print_64 ?_
        refine L_istore_n dL_print_65 rfl (by decide) rfl rfl ?_
        exact L3 ((7 * v 11 0).toNat + 1) 0 _ hS (by omega) (by omega)
      · skip
        refine L_ldc2 dL_print_40 cl_L_62 ?_
        refine L_lload_n dL_print_43 rfl rfl ?_
        refine L_lmul dL_print_44 ?_
        refine L_aload_n dL_print_45 rfl rfl ?_
        refine L_iload_n dL_print_46 rfl rfl ?_
        refine L_iconst dL_print_47 ?_
        refine L_idiv dL_print_48 (by omega) (inR_of (by omega) (by omega)) (by omega) (inR_of (by omega) (by omega)) ?_
        refine L_iload_n dL_print_49 rfl rfl ?_
        refine L_iconst dL_print_50 ?_
        refine L_irem dL_print_51 (by omega) (inR_of (by omega) (by omega)) (by omega) (inR_of (by omega) (by omega)) ?_
        refine L_callV (ci := 5) (as := [_, _]) (s_cell (y := cellR v ((k : Int) / 5) ((k : Int) % 5)) hS (inR_of (by omega) (by omega)) (inR_of (by omega) (by omega)) rfl) dL_print_52 ml_L_43 cv_X5_cell hS.obj rfl rfl (Nat.le_of_ble_eq_true rfl) (Nat.le_of_ble_eq_true rfl) rfl (fun r h2 hp => ?_)
        obtain ⟨rfl, hS⟩ := hp
        refine L_i2l dL_print_55 ?_
        refine L_ladd dL_print_56 ?_
        refine L_lstore_n dL_print_57 rfl (by decide) rfl rfl ?_
        refine L_iinc dL_print_58 (by decide) rfl rfl rfl ?_
        refine L_goto (tgt := 33) dL_print_61 (by decide) ?_
        exact ih (k + 1) _ hS (by omega) (by omega)
  have L1 : ∀ (fu : Nat) (k : Nat) (hh : List PO), SYS hh v hv sz ks sw → k ≤ 12 → 12 - k < fu → GM 6 cL_print 4 (some .long) hh 6 [some (p_ 0), some (l_ (prA v k)), none, some (w_ (k : Int))] [] (fun r0 h2 => r0 = some (l_ (prnL v)) ∧ SYS h2 v hv sz ks sw) := by
    intro fu
    induction fu with
    | zero => intro k hh hS hk hmeas; exfalso; omega
    | succ fu ih =>
      intro k hh hS hk hmeas
      have hg := hS.gen
      refine L_iload_n dL_print_6 rfl rfl ?_
      refine L_bipush dL_print_7 rfl ?_
      refine L_icmp_ge (tgt := 31) dL_print_9 (by decide) (inR_of (by omega) (by omega)) (inR_of (by omega) (by omega)) (fun hc9 => ?_) (fun hc9 => ?_)
      · skip
        have hk2 : k = 12 := by omega
        subst hk2
        refine L_iconst dL_print_31 ?_
        refine L_istore_n dL_print_32 rfl (by decide) rfl rfl ?_
        exact L2 201 0 _ hS (by omega) (by omega)
      · skip
        refine L_ldc2 dL_print_12 cl_L_62 ?_
        refine L_lload_n dL_print_15 rfl rfl ?_
        refine L_lmul dL_print_16 ?_
        refine L_aload_n dL_print_17 rfl rfl ?_
        refine L_iload_n dL_print_18 rfl rfl ?_
        refine L_callV (ci := 5) (as := [_]) (s_count (y := countR v 0 0 (k : Int)) hS (inR_of (by omega) (by omega)) (count_sz (by omega))) dL_print_19 ml_L_46 cv_X5_count hS.obj rfl rfl (Nat.le_of_ble_eq_true rfl) (Nat.le_of_ble_eq_true rfl) rfl (fun r h2 hp => ?_)
        obtain ⟨rfl, hS⟩ := hp
        refine L_i2l dL_print_22 ?_
        refine L_ladd dL_print_23 ?_
        refine L_lstore_n dL_print_24 rfl (by decide) rfl rfl ?_
        refine L_iinc dL_print_25 (by decide) rfl rfl rfl ?_
        refine L_goto (tgt := 6) dL_print_28 (by decide) ?_
        exact ih (k + 1) _ hS (by omega) (by omega)
  refine L_ldc2 dL_print_0 cl_L_60 ?_
  refine L_lstore_n dL_print_3 rfl (by decide) rfl rfl ?_
  refine L_iconst dL_print_4 ?_
  refine L_istore_n dL_print_5 rfl (by decide) rfl rfl ?_
  exact L1 13 0 _ hS (by omega) (by omega)
