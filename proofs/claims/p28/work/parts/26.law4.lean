/-! the law: the least flow, the best sill -/
def mwV (v : SV) (r c q : Int) : Int := mkI (v 10 0 + r - q) (v 10 1) (v 1) (v 0) c
theorem mw_rng {v : SV} {r c q : Int} (ho : OK v) (c0 : 0 ≤ c) (c1 : c < 40) : 0 ≤ mwV v r c q ∧ mwV v r c q ≤ 60 := by
  have b := ho.1.2.1 c c0 c1
  have d := ho.1.1 c c0 c1
  have g := mkf_rng (o := offI (v 10 0 + r - q) (v 10 1) (v 1) (v 0) c) b.1 d.1
  unfold mwV mkI
  omega
theorem least_is2 {v : SV} {c r : Int} (ho : OK v) (hc : 0 ≤ c ∧ c < 40) (hr : -30 ≤ r ∧ r ≤ 30) : 0 ≤ leastR v c r ∧ leastR v c r ≤ 99 ∧ mwV v r c (leastR v c r) = 0 ∧ ∀ i : Int, 0 ≤ i → i < leastR v c r → mwV v r c i ≠ 0 := least_is ho hc hr
theorem best_rng {v : SV} {k r : Int} : -5 ≤ bestR v k r ∧ bestR v k r ≤ 39 := by
  unfold bestR
  split
  · omega
  · rcases bsN_is (push := pushI v r) (slope := v 10 1) (sil := v 1) (dep := v 0) (k := k) 40 (by omega) with a | ⟨a, b, -⟩ <;> omega
set_option maxRecDepth 100000 in
set_option maxHeartbeats 8000000 in
theorem c_L_keeps (h : List PO) (v : SV) (hv : Int → SV) (sz ks : Int) (sw : SV) (c r k : Int) (hS : SYS h v hv sz ks sw) (hc : 0 ≤ c ∧ c < 40) (hr : -30 ≤ r ∧ r ≤ 30) (hk : 1 ≤ k ∧ k ≤ 24) : PMw 8 yL_keeps cL_keeps 14 (some .boolean) h [r_ 0, i_ c, i_ r, i_ k] (fun r0 h2 => r0 = some (w_ 1) ∧ ∃ hv2 sz2, SYS h2 v hv2 sz2 ks sw) := by
  refine PMw_of [some (p_ 0), some (w_ c), some (w_ r), some (w_ k), none, none, none, none, none, none, none, none, none, none] rfl (by decide +kernel) (Nat.le_of_ble_eq_true rfl) rfl ?_
  obtain ⟨l0, l1, l2, l3⟩ := least_is2 hS.ok hc hr
  have hbr := best_rng (v := v) (k := k) (r := r)
  have hsp := stop_is (v := v) hr
  have hst := st_facts v r
  have hmr := mw_rng (r := r) (q := leastR v c r - 1) hS.ok hc.1 hc.2
  have hmn := l3 (leastR v c r - 1)
  have T2 : ∀ (hh : List PO) (hv2 : Int → SV) (sz2 : Int), SYS hh v hv2 sz2 ks sw → GM 8 cL_keeps 14 (some .boolean) hh 42 [some (p_ 0), some (w_ c), some (w_ r), some (w_ k), some (l_ (prnL v)), none, some (w_ (leastR v c r)), some (w_ (bestR v k r)), some (w_ (stopR v r)), some (w_ (v 11 1)), some (w_ 1), some (w_ 2), none, none] [] (fun r0 h2 => r0 = some (w_ 1) ∧ ∃ hv2 sz2, SYS h2 v hv2 sz2 ks sw) := by
    intro hh hv2 sz2 hS
    have hS0 := hS
    have hg := hS.gen
    refine L_iload dL_keeps_42 rfl ?_
    refine L_iconst dL_keeps_44 ?_
    refine L_icmp_ge (tgt := 171) dL_keeps_45 (by decide) (inR_of (by omega) (by omega)) (inR_of (by omega) (by omega)) (fun hc45 => ?_) (fun hc45 => ?_)
    · skip
      refine L_iload dL_keeps_171 rfl ?_
      refine L_if_eq (tgt := 239) dL_keeps_173 (by decide) (inR_of (by omega) (by omega)) (fun hc173 => ?_) (fun hc173 => ?_)
      · skip
        exfalso; omega
      · skip
        refine L_iload dL_keeps_176 rfl ?_
        refine L_if_lt (tgt := 239) dL_keeps_178 (by decide) (inR_of (by omega) (by omega)) (fun hc178 => ?_) (fun hc178 => ?_)
        · skip
          refine L_iload dL_keeps_239 rfl ?_
          refine L_if_eq (tgt := 258) dL_keeps_241 (by decide) (inR_of (by omega) (by omega)) (fun hc241 => ?_) (fun hc241 => ?_)
          · skip
            exfalso; omega
          · skip
            refine L_aload_n dL_keeps_244 rfl rfl ?_
            refine L_callS (as := [_]) (c_L_print _ _ _ _ _ _ hS) dL_keeps_245 ml_L_64 cs_L_print rfl (Nat.le_of_ble_eq_true rfl) (Nat.le_of_ble_eq_true rfl) rfl (fun r h2 hp => ?_)
            obtain ⟨rfl, hS⟩ := hp
            refine L_lload dL_keeps_248 rfl ?_
            refine L_lcmpE dL_keeps_250 rfl ?_
            refine L_if_ne (tgt := 258) dL_keeps_251 (by decide) (inR_of (by omega) (by omega)) (fun hc251 => ?_) (fun hc251 => ?_)
            · skip
              exfalso; omega
            · skip
              refine L_iconst dL_keeps_254 ?_
              refine L_goto (tgt := 259) dL_keeps_255 (by decide) ?_
              refine M_zreturn dL_keeps_259 rfl (Or.inr rfl) ?_
              exact ⟨rfl, _, _, hS⟩
        · skip
          obtain ⟨⟨b40, bR, bs0, bsk⟩, bst, blt⟩ := best_is hS0.ok (k := k) (r := r) ⟨by omega, by omega⟩ hr (by omega)
          refine L_aload_n dL_keeps_181 rfl rfl ?_
          refine L_iload dL_keeps_182 rfl ?_
          refine L_iload_n dL_keeps_184 rfl rfl ?_
          refine L_callV (ci := 5) (as := [_, _]) (s_build hS (inR_of (by omega) (by omega)) (inR_of (by omega) (by omega))) dL_keeps_185 ml_L_21 cv_X5_build hS.obj rfl rfl (Nat.le_of_ble_eq_true rfl) (Nat.le_of_ble_eq_true rfl) rfl (fun r h2 hp => ?_)
          obtain ⟨rfl, hS⟩ := hp
          rw [bR] at hS ⊢
          have ua := und_act (v := v) (V := buildV v (bestR v k r) k) (hv := hv2) (sz := sz2) (R := v 1 (bestR v k r)) bs0 hg.2.2.2.2.2.2.2.1 hg.2.2.2.2.2.2.2.2
          refine L_istore dL_keeps_188 (by decide) rfl rfl ?_
          refine L_aload_n dL_keeps_190 rfl rfl ?_
          refine L_iload_n dL_keeps_191 rfl rfl ?_
          refine L_callV (ci := 5) (as := [_]) (s_stopCell hS (inR_of (by omega) (by omega))) dL_keeps_192 ml_L_68 cv_X5_stopCell hS.obj rfl rfl (Nat.le_of_ble_eq_true rfl) (Nat.le_of_ble_eq_true rfl) rfl (fun r h2 hp => ?_)
          obtain ⟨rfl, hS⟩ := hp
          refine L_top bst ?_
          refine L_istore dL_keeps_195 (by decide) rfl rfl ?_
          refine L_iload dL_keeps_197 rfl ?_
          refine L_if_lt (tgt := 236) dL_keeps_199 (by decide) (inR_of (by omega) (by omega)) (fun hc199 => ?_) (fun hc199 => ?_)
          · skip
            exfalso; omega
          · skip
            refine L_iload dL_keeps_202 rfl ?_
            refine L_iload_n dL_keeps_204 rfl rfl ?_
            refine L_icmp_ge (tgt := 236) dL_keeps_205 (by decide) (inR_of (by omega) (by omega)) (inR_of (by omega) (by omega)) (fun hc205 => ?_) (fun hc205 => ?_)
            · skip
              exfalso; omega
            · skip
              refine L_iload dL_keeps_208 rfl ?_
              refine L_if_lt (tgt := 236) dL_keeps_210 (by decide) (inR_of (by omega) (by omega)) (fun hc210 => ?_) (fun hc210 => ?_)
              · skip
                exfalso; omega
              · skip
                refine L_iload dL_keeps_213 rfl ?_
                refine L_if_lt (tgt := 225) dL_keeps_215 (by decide) (inR_of (by omega) (by omega)) (fun hc215 => ?_) (fun hc215 => ?_)
                · skip
                  refine L_aload_n dL_keeps_225 rfl rfl ?_
                  refine L_callV (ci := 5) (as := []) (s_undo (v := v) hS ua.1 hS0.xi) dL_keeps_226 ml_L_80 cv_X5_undo hS.obj rfl rfl (Nat.le_of_ble_eq_true rfl) (Nat.le_of_ble_eq_true rfl) rfl (fun r h2 hp => ?_)
                  obtain ⟨rfl, hS⟩ := hp
                  have hu : 0 ≤ undR (szA sz2 (v 1 (bestR v k r))) ∧ undR (szA sz2 (v 1 (bestR v k r))) ≤ 4 := by
                    rw [ua.2.1]
                    split <;> omega
                  refine L_if_lt (tgt := 236) dL_keeps_229 (by decide) (inR_of (by omega) (by omega)) (fun hc229 => ?_) (fun hc229 => ?_)
                  · skip
                    exfalso; omega
                  · skip
                    refine L_iconst dL_keeps_232 ?_
                    refine L_goto (tgt := 237) dL_keeps_233 (by decide) ?_
                    refine L_istore dL_keeps_237 (by decide) rfl rfl ?_
                    refine L_iload dL_keeps_239 rfl ?_
                    refine L_if_eq (tgt := 258) dL_keeps_241 (by decide) (inR_of (by omega) (by omega)) (fun hc241 => ?_) (fun hc241 => ?_)
                    · skip
                      exfalso; omega
                    · skip
                      refine L_aload_n dL_keeps_244 rfl rfl ?_
                      refine L_callS (as := [_]) (c_L_print _ _ _ _ _ _ hS) dL_keeps_245 ml_L_64 cs_L_print rfl (Nat.le_of_ble_eq_true rfl) (Nat.le_of_ble_eq_true rfl) rfl (fun r h2 hp => ?_)
                      obtain ⟨rfl, hS⟩ := hp
                      refine L_lload dL_keeps_248 rfl ?_
                      refine L_lcmpE dL_keeps_250 rfl ?_
                      refine L_if_ne (tgt := 258) dL_keeps_251 (by decide) (inR_of (by omega) (by omega)) (fun hc251 => ?_) (fun hc251 => ?_)
                      · skip
                        exfalso; omega
                      · skip
                        refine L_iconst dL_keeps_254 ?_
                        refine L_goto (tgt := 259) dL_keeps_255 (by decide) ?_
                        refine M_zreturn dL_keeps_259 rfl (Or.inr rfl) ?_
                        exact ⟨rfl, _, _, hS⟩
                · skip
                  refine L_iload dL_keeps_218 rfl ?_
                  refine L_iload dL_keeps_220 rfl ?_
                  refine L_icmp_ge (tgt := 236) dL_keeps_222 (by decide) (inR_of (by omega) (by omega)) (inR_of (by omega) (by omega)) (fun hc222 => ?_) (fun hc222 => ?_)
                  · skip
                    exfalso; omega
                  · skip
                    refine L_aload_n dL_keeps_225 rfl rfl ?_
                    refine L_callV (ci := 5) (as := []) (s_undo (v := v) hS ua.1 hS0.xi) dL_keeps_226 ml_L_80 cv_X5_undo hS.obj rfl rfl (Nat.le_of_ble_eq_true rfl) (Nat.le_of_ble_eq_true rfl) rfl (fun r h2 hp => ?_)
                    obtain ⟨rfl, hS⟩ := hp
                    have hu : 0 ≤ undR (szA sz2 (v 1 (bestR v k r))) ∧ undR (szA sz2 (v 1 (bestR v k r))) ≤ 4 := by
                      rw [ua.2.1]
                      split <;> omega
                    refine L_if_lt (tgt := 236) dL_keeps_229 (by decide) (inR_of (by omega) (by omega)) (fun hc229 => ?_) (fun hc229 => ?_)
                    · skip
                      exfalso; omega
                    · skip
                      refine L_iconst dL_keeps_232 ?_
                      refine L_goto (tgt := 237) dL_keeps_233 (by decide) ?_
                      refine L_istore dL_keeps_237 (by decide) rfl rfl ?_
                      refine L_iload dL_keeps_239 rfl ?_
                      refine L_if_eq (tgt := 258) dL_keeps_241 (by decide) (inR_of (by omega) (by omega)) (fun hc241 => ?_) (fun hc241 => ?_)
                      · skip
                        exfalso; omega
                      · skip
                        refine L_aload_n dL_keeps_244 rfl rfl ?_
                        refine L_callS (as := [_]) (c_L_print _ _ _ _ _ _ hS) dL_keeps_245 ml_L_64 cs_L_print rfl (Nat.le_of_ble_eq_true rfl) (Nat.le_of_ble_eq_true rfl) rfl (fun r h2 hp => ?_)
                        obtain ⟨rfl, hS⟩ := hp
                        refine L_lload dL_keeps_248 rfl ?_
                        refine L_lcmpE dL_keeps_250 rfl ?_
                        refine L_if_ne (tgt := 258) dL_keeps_251 (by decide) (inR_of (by omega) (by omega)) (fun hc251 => ?_) (fun hc251 => ?_)
                        · skip
                          exfalso; omega
                        · skip
                          refine L_iconst dL_keeps_254 ?_
                          refine L_goto (tgt := 259) dL_keeps_255 (by decide) ?_
                          refine M_zreturn dL_keeps_259 rfl (Or.inr rfl) ?_
                          exact ⟨rfl, _, _, hS⟩
    · skip
      exfalso; omega
  have T1 : ∀ (hh : List PO) (hv2 : Int → SV) (sz2 : Int), SYS hh v hv2 sz2 ks sw → GM 8 cL_keeps 14 (some .boolean) hh 42 [some (p_ 0), some (w_ c), some (w_ r), some (w_ k), some (l_ (prnL v)), none, some (w_ (leastR v c r)), some (w_ (bestR v k r)), some (w_ (stopR v r)), some (w_ (v 11 1)), some (w_ 1), some (w_ 1), none, none] [] (fun r0 h2 => r0 = some (w_ 1) ∧ ∃ hv2 sz2, SYS h2 v hv2 sz2 ks sw) := by
    intro hh hv2 sz2 hS
    have hS0 := hS
    have hg := hS.gen
    refine L_iload dL_keeps_42 rfl ?_
    refine L_iconst dL_keeps_44 ?_
    refine L_icmp_ge (tgt := 171) dL_keeps_45 (by decide) (inR_of (by omega) (by omega)) (inR_of (by omega) (by omega)) (fun hc45 => ?_) (fun hc45 => ?_)
    · skip
      exfalso; omega
    · skip
      refine L_iload dL_keeps_48 rfl ?_
      refine L_if_eq (tgt := 171) dL_keeps_50 (by decide) (inR_of (by omega) (by omega)) (fun hc50 => ?_) (fun hc50 => ?_)
      · skip
        exfalso; omega
      · skip
        refine L_iload dL_keeps_53 rfl ?_
        refine L_if_ge (tgt := 63) dL_keeps_55 (by decide) (inR_of (by omega) (by omega)) (fun hc55 => ?_) (fun hc55 => ?_)
        · skip
          refine L_iload dL_keeps_63 rfl ?_
          refine L_iload dL_keeps_65 rfl ?_
          refine L_isub dL_keeps_67 ?_
          refine L_istore dL_keeps_68 (by decide) rfl rfl ?_
          refine L_iload dL_keeps_70 rfl ?_
          refine L_if_ge (tgt := 80) dL_keeps_72 (by decide) (inR_of (by omega) (by omega)) (fun hc72 => ?_) (fun hc72 => ?_)
          · skip
            refine L_aload_n dL_keeps_80 rfl rfl ?_
            refine L_iload dL_keeps_81 rfl ?_
            refine L_callV (ci := 5) (as := [_]) (s_flow hS (inR_of (by omega) (by omega))) dL_keeps_83 ml_L_24 cv_X5_flow hS.obj rfl rfl (Nat.le_of_ble_eq_true rfl) (Nat.le_of_ble_eq_true rfl) rfl (fun r h2 hp => ?_)
            obtain ⟨rfl, hS⟩ := hp
            rcases flow_do hS0.ok (q := leastR v c r - 1) ⟨by omega, by omega⟩ with ⟨e1, e2, e3⟩ | ⟨e1, e2, e3⟩
            · rw [e1] at hS ⊢
              refine L_istore dL_keeps_86 (by decide) rfl rfl ?_
              refine L_iload dL_keeps_88 rfl ?_
              refine L_if_lt (tgt := 158) dL_keeps_90 (by decide) (inR_of (by omega) (by omega)) (fun hc90 => ?_) (fun hc90 => ?_)
              · skip
                exfalso; omega
              · skip
                refine L_iload dL_keeps_93 rfl ?_
                refine L_iload dL_keeps_95 rfl ?_
                refine L_icmp_eq (tgt := 114) dL_keeps_97 (by decide) (inR_of (by omega) (by omega)) (inR_of (by omega) (by omega)) (fun hc97 => ?_) (fun hc97 => ?_)
                · skip
                  exfalso; omega
                · skip
                  refine L_iload dL_keeps_100 rfl ?_
                  refine L_bipush dL_keeps_102 rfl ?_
                  refine L_icmp_ne (tgt := 162) dL_keeps_104 (by decide) (inR_of (by omega) (by omega)) (inR_of (by omega) (by omega)) (fun hc104 => ?_) (fun hc104 => ?_)
                  · skip
                    exfalso; omega
                  · skip
                    refine L_iload dL_keeps_107 rfl ?_
                    refine L_iload dL_keeps_109 rfl ?_
                    refine L_icmp_ne (tgt := 162) dL_keeps_111 (by decide) (inR_of (by omega) (by omega)) (inR_of (by omega) (by omega)) (fun hc111 => ?_) (fun hc111 => ?_)
                    · skip
                      exfalso; omega
                    · skip
                      refine L_aload_n dL_keeps_114 rfl rfl ?_
                      refine L_iload_n dL_keeps_115 rfl rfl ?_
                      refine L_iload_n dL_keeps_116 rfl rfl ?_
                      refine L_callV (ci := 5) (as := [_, _]) (s_mark (y := mwV v r c (leastR v c r - 1)) hS (inR_of (by omega) (by omega)) (inR_of (by omega) (by omega)) (flow_mark hS0.ok ⟨by omega, by omega⟩ hc hr)) dL_keeps_117 ml_L_71 cv_X5_mark hS.obj rfl rfl (Nat.le_of_ble_eq_true rfl) (Nat.le_of_ble_eq_true rfl) rfl (fun r h2 hp => ?_)
                      obtain ⟨rfl, hS⟩ := hp
                      refine L_if_ne (tgt := 127) dL_keeps_120 (by decide) (inR_of (by omega) (by omega)) (fun hc120 => ?_) (fun hc120 => ?_)
                      · skip
                        refine L_iconst dL_keeps_127 ?_
                        refine L_iload dL_keeps_128 rfl ?_
                        refine L_if_lt (tgt := 142) dL_keeps_130 (by decide) (inR_of (by omega) (by omega)) (fun hc130 => ?_) (fun hc130 => ?_)
                        · skip
                          exfalso; omega
                        · skip
                          refine L_iload dL_keeps_133 rfl ?_
                          refine L_if_ne (tgt := 142) dL_keeps_135 (by decide) (inR_of (by omega) (by omega)) (fun hc135 => ?_) (fun hc135 => ?_)
                          · skip
                            refine L_iconst dL_keeps_142 ?_
                            refine L_icmp_neE dL_keeps_143 (by decide) (rfl) ?_
                            refine L_iload dL_keeps_146 rfl ?_
                            refine L_if_lt (tgt := 158) dL_keeps_148 (by decide) (inR_of (by omega) (by omega)) (fun hc148 => ?_) (fun hc148 => ?_)
                            · skip
                              refine L_iconst dL_keeps_158 ?_
                              refine L_goto (tgt := 163) dL_keeps_159 (by decide) ?_
                              refine L_istore dL_keeps_163 (by decide) rfl rfl ?_
                              refine L_iinc dL_keeps_165 (by decide) rfl rfl rfl ?_
                              refine L_goto (tgt := 42) dL_keeps_168 (by decide) ?_
                              rw [e3] at hS
                              refine L_forget 12 rfl ?_
                              refine L_forget 13 rfl ?_
                              exact T2 _ _ _ hS
                            · skip
                              exfalso; omega
                          · skip
                            exfalso; omega
                      · skip
                        exfalso; omega
            · rw [e1] at hS ⊢
              have ua := und_act (v := v) (V := flowV v (leastR v c r - 1)) (hv := hv2) (sz := sz2) (R := v 11 1) hg.2.1.1 hg.2.2.2.2.2.2.2.1 hg.2.2.2.2.2.2.2.2
              refine L_istore dL_keeps_86 (by decide) rfl rfl ?_
              refine L_iload dL_keeps_88 rfl ?_
              refine L_if_lt (tgt := 158) dL_keeps_90 (by decide) (inR_of (by omega) (by omega)) (fun hc90 => ?_) (fun hc90 => ?_)
              · skip
                exfalso; omega
              · skip
                refine L_iload dL_keeps_93 rfl ?_
                refine L_iload dL_keeps_95 rfl ?_
                refine L_icmp_eq (tgt := 114) dL_keeps_97 (by decide) (inR_of (by omega) (by omega)) (inR_of (by omega) (by omega)) (fun hc97 => ?_) (fun hc97 => ?_)
                · skip
                  refine L_aload_n dL_keeps_114 rfl rfl ?_
                  refine L_iload_n dL_keeps_115 rfl rfl ?_
                  refine L_iload_n dL_keeps_116 rfl rfl ?_
                  refine L_callV (ci := 5) (as := [_, _]) (s_mark (y := mwV v r c (leastR v c r - 1)) hS (inR_of (by omega) (by omega)) (inR_of (by omega) (by omega)) (flow_mark hS0.ok ⟨by omega, by omega⟩ hc hr)) dL_keeps_117 ml_L_71 cv_X5_mark hS.obj rfl rfl (Nat.le_of_ble_eq_true rfl) (Nat.le_of_ble_eq_true rfl) rfl (fun r h2 hp => ?_)
                  obtain ⟨rfl, hS⟩ := hp
                  refine L_if_ne (tgt := 127) dL_keeps_120 (by decide) (inR_of (by omega) (by omega)) (fun hc120 => ?_) (fun hc120 => ?_)
                  · skip
                    refine L_iconst dL_keeps_127 ?_
                    refine L_iload dL_keeps_128 rfl ?_
                    refine L_if_lt (tgt := 142) dL_keeps_130 (by decide) (inR_of (by omega) (by omega)) (fun hc130 => ?_) (fun hc130 => ?_)
                    · skip
                      exfalso; omega
                    · skip
                      refine L_iload dL_keeps_133 rfl ?_
                      refine L_if_ne (tgt := 142) dL_keeps_135 (by decide) (inR_of (by omega) (by omega)) (fun hc135 => ?_) (fun hc135 => ?_)
                      · skip
                        refine L_iconst dL_keeps_142 ?_
                        refine L_icmp_neE dL_keeps_143 (by decide) (rfl) ?_
                        refine L_iload dL_keeps_146 rfl ?_
                        refine L_if_lt (tgt := 158) dL_keeps_148 (by decide) (inR_of (by omega) (by omega)) (fun hc148 => ?_) (fun hc148 => ?_)
                        · skip
                          exfalso; omega
                        · skip
                          refine L_aload_n dL_keeps_151 rfl rfl ?_
                          refine L_callV (ci := 5) (as := []) (s_undo (v := v) hS ua.1 hS0.xi) dL_keeps_152 ml_L_80 cv_X5_undo hS.obj rfl rfl (Nat.le_of_ble_eq_true rfl) (Nat.le_of_ble_eq_true rfl) rfl (fun r h2 hp => ?_)
                          obtain ⟨rfl, hS⟩ := hp
                          have hu : 0 ≤ undR (szA sz2 (v 11 1)) ∧ undR (szA sz2 (v 11 1)) ≤ 4 := by
                            rw [ua.2.1]
                            split <;> omega
                          refine L_if_lt (tgt := 162) dL_keeps_155 (by decide) (inR_of (by omega) (by omega)) (fun hc155 => ?_) (fun hc155 => ?_)
                          · skip
                            exfalso; omega
                          · skip
                            refine L_iconst dL_keeps_158 ?_
                            refine L_goto (tgt := 163) dL_keeps_159 (by decide) ?_
                            refine L_istore dL_keeps_163 (by decide) rfl rfl ?_
                            refine L_iinc dL_keeps_165 (by decide) rfl rfl rfl ?_
                            refine L_goto (tgt := 42) dL_keeps_168 (by decide) ?_
                            refine L_forget 12 rfl ?_
                            refine L_forget 13 rfl ?_
                            exact T2 _ _ _ hS
                      · skip
                        exfalso; omega
                  · skip
                    exfalso; omega
                · skip
                  exfalso; omega
          · skip
            refine L_bipush dL_keeps_75 rfl ?_
            refine L_goto (tgt := 86) dL_keeps_77 (by decide) ?_
            refine L_istore dL_keeps_86 (by decide) rfl rfl ?_
            refine L_iload dL_keeps_88 rfl ?_
            refine L_if_lt (tgt := 158) dL_keeps_90 (by decide) (inR_of (by omega) (by omega)) (fun hc90 => ?_) (fun hc90 => ?_)
            · skip
              refine L_iconst dL_keeps_158 ?_
              refine L_goto (tgt := 163) dL_keeps_159 (by decide) ?_
              refine L_istore dL_keeps_163 (by decide) rfl rfl ?_
              refine L_iinc dL_keeps_165 (by decide) rfl rfl rfl ?_
              refine L_goto (tgt := 42) dL_keeps_168 (by decide) ?_
              refine L_forget 12 rfl ?_
              refine L_forget 13 rfl ?_
              exact T2 _ _ _ hS
            · skip
              exfalso; omega
        · skip
          exfalso; omega
  have T0 : ∀ (hh : List PO) (hv2 : Int → SV) (sz2 : Int), SYS hh v hv2 sz2 ks sw → GM 8 cL_keeps 14 (some .boolean) hh 42 [some (p_ 0), some (w_ c), some (w_ r), some (w_ k), some (l_ (prnL v)), none, some (w_ (leastR v c r)), some (w_ (bestR v k r)), some (w_ (stopR v r)), some (w_ (v 11 1)), some (w_ 1), some (w_ 0), none, none] [] (fun r0 h2 => r0 = some (w_ 1) ∧ ∃ hv2 sz2, SYS h2 v hv2 sz2 ks sw) := by
    intro hh hv2 sz2 hS
    have hS0 := hS
    have hg := hS.gen
    refine L_iload dL_keeps_42 rfl ?_
    refine L_iconst dL_keeps_44 ?_
    refine L_icmp_ge (tgt := 171) dL_keeps_45 (by decide) (inR_of (by omega) (by omega)) (inR_of (by omega) (by omega)) (fun hc45 => ?_) (fun hc45 => ?_)
    · skip
      exfalso; omega
    · skip
      refine L_iload dL_keeps_48 rfl ?_
      refine L_if_eq (tgt := 171) dL_keeps_50 (by decide) (inR_of (by omega) (by omega)) (fun hc50 => ?_) (fun hc50 => ?_)
      · skip
        exfalso; omega
      · skip
        refine L_iload dL_keeps_53 rfl ?_
        refine L_if_ge (tgt := 63) dL_keeps_55 (by decide) (inR_of (by omega) (by omega)) (fun hc55 => ?_) (fun hc55 => ?_)
        · skip
          refine L_iload dL_keeps_63 rfl ?_
          refine L_iload dL_keeps_65 rfl ?_
          refine L_isub dL_keeps_67 ?_
          refine L_top (y := leastR v c r) (by omega) ?_
          refine L_istore dL_keeps_68 (by decide) rfl rfl ?_
          refine L_iload dL_keeps_70 rfl ?_
          refine L_if_ge (tgt := 80) dL_keeps_72 (by decide) (inR_of (by omega) (by omega)) (fun hc72 => ?_) (fun hc72 => ?_)
          · skip
            refine L_aload_n dL_keeps_80 rfl rfl ?_
            refine L_iload dL_keeps_81 rfl ?_
            refine L_callV (ci := 5) (as := [_]) (s_flow hS (inR_of (by omega) (by omega))) dL_keeps_83 ml_L_24 cv_X5_flow hS.obj rfl rfl (Nat.le_of_ble_eq_true rfl) (Nat.le_of_ble_eq_true rfl) rfl (fun r h2 hp => ?_)
            obtain ⟨rfl, hS⟩ := hp
            rcases flow_do hS0.ok (q := leastR v c r) ⟨by omega, by omega⟩ with ⟨e1, e2, e3⟩ | ⟨e1, e2, e3⟩
            · rw [e1] at hS ⊢
              refine L_istore dL_keeps_86 (by decide) rfl rfl ?_
              refine L_iload dL_keeps_88 rfl ?_
              refine L_if_lt (tgt := 158) dL_keeps_90 (by decide) (inR_of (by omega) (by omega)) (fun hc90 => ?_) (fun hc90 => ?_)
              · skip
                exfalso; omega
              · skip
                refine L_iload dL_keeps_93 rfl ?_
                refine L_iload dL_keeps_95 rfl ?_
                refine L_icmp_eq (tgt := 114) dL_keeps_97 (by decide) (inR_of (by omega) (by omega)) (inR_of (by omega) (by omega)) (fun hc97 => ?_) (fun hc97 => ?_)
                · skip
                  exfalso; omega
                · skip
                  refine L_iload dL_keeps_100 rfl ?_
                  refine L_bipush dL_keeps_102 rfl ?_
                  refine L_icmp_ne (tgt := 162) dL_keeps_104 (by decide) (inR_of (by omega) (by omega)) (inR_of (by omega) (by omega)) (fun hc104 => ?_) (fun hc104 => ?_)
                  · skip
                    exfalso; omega
                  · skip
                    refine L_iload dL_keeps_107 rfl ?_
                    refine L_iload dL_keeps_109 rfl ?_
                    refine L_icmp_ne (tgt := 162) dL_keeps_111 (by decide) (inR_of (by omega) (by omega)) (inR_of (by omega) (by omega)) (fun hc111 => ?_) (fun hc111 => ?_)
                    · skip
                      exfalso; omega
                    · skip
                      refine L_aload_n dL_keeps_114 rfl rfl ?_
                      refine L_iload_n dL_keeps_115 rfl rfl ?_
                      refine L_iload_n dL_keeps_116 rfl rfl ?_
                      refine L_callV (ci := 5) (as := [_, _]) (s_mark (y := 0) hS (inR_of (by omega) (by omega)) (inR_of (by omega) (by omega)) ((flow_mark hS0.ok ⟨by omega, by omega⟩ hc hr).trans l2)) dL_keeps_117 ml_L_71 cv_X5_mark hS.obj rfl rfl (Nat.le_of_ble_eq_true rfl) (Nat.le_of_ble_eq_true rfl) rfl (fun r h2 hp => ?_)
                      obtain ⟨rfl, hS⟩ := hp
                      refine L_if_ne (tgt := 127) dL_keeps_120 (by decide) (inR_of (by omega) (by omega)) (fun hc120 => ?_) (fun hc120 => ?_)
                      · skip
                        exfalso; omega
                      · skip
                        refine L_iconst dL_keeps_123 ?_
                        refine L_goto (tgt := 128) dL_keeps_124 (by decide) ?_
                        refine L_iload dL_keeps_128 rfl ?_
                        refine L_if_lt (tgt := 142) dL_keeps_130 (by decide) (inR_of (by omega) (by omega)) (fun hc130 => ?_) (fun hc130 => ?_)
                        · skip
                          exfalso; omega
                        · skip
                          refine L_iload dL_keeps_133 rfl ?_
                          refine L_if_ne (tgt := 142) dL_keeps_135 (by decide) (inR_of (by omega) (by omega)) (fun hc135 => ?_) (fun hc135 => ?_)
                          · skip
                            exfalso; omega
                          · skip
                            refine L_iconst dL_keeps_138 ?_
                            refine L_goto (tgt := 143) dL_keeps_139 (by decide) ?_
                            refine L_icmp_neE dL_keeps_143 (by decide) (rfl) ?_
                            refine L_iload dL_keeps_146 rfl ?_
                            refine L_if_lt (tgt := 158) dL_keeps_148 (by decide) (inR_of (by omega) (by omega)) (fun hc148 => ?_) (fun hc148 => ?_)
                            · skip
                              refine L_iconst dL_keeps_158 ?_
                              refine L_goto (tgt := 163) dL_keeps_159 (by decide) ?_
                              refine L_istore dL_keeps_163 (by decide) rfl rfl ?_
                              refine L_iinc dL_keeps_165 (by decide) rfl rfl rfl ?_
                              refine L_goto (tgt := 42) dL_keeps_168 (by decide) ?_
                              rw [e3] at hS
                              refine L_forget 12 rfl ?_
                              refine L_forget 13 rfl ?_
                              exact T1 _ _ _ hS
                            · skip
                              exfalso; omega
            · rw [e1] at hS ⊢
              have ua := und_act (v := v) (V := flowV v (leastR v c r)) (hv := hv2) (sz := sz2) (R := v 11 1) hg.2.1.1 hg.2.2.2.2.2.2.2.1 hg.2.2.2.2.2.2.2.2
              refine L_istore dL_keeps_86 (by decide) rfl rfl ?_
              refine L_iload dL_keeps_88 rfl ?_
              refine L_if_lt (tgt := 158) dL_keeps_90 (by decide) (inR_of (by omega) (by omega)) (fun hc90 => ?_) (fun hc90 => ?_)
              · skip
                exfalso; omega
              · skip
                refine L_iload dL_keeps_93 rfl ?_
                refine L_iload dL_keeps_95 rfl ?_
                refine L_icmp_eq (tgt := 114) dL_keeps_97 (by decide) (inR_of (by omega) (by omega)) (inR_of (by omega) (by omega)) (fun hc97 => ?_) (fun hc97 => ?_)
                · skip
                  refine L_aload_n dL_keeps_114 rfl rfl ?_
                  refine L_iload_n dL_keeps_115 rfl rfl ?_
                  refine L_iload_n dL_keeps_116 rfl rfl ?_
                  refine L_callV (ci := 5) (as := [_, _]) (s_mark (y := 0) hS (inR_of (by omega) (by omega)) (inR_of (by omega) (by omega)) ((flow_mark hS0.ok ⟨by omega, by omega⟩ hc hr).trans l2)) dL_keeps_117 ml_L_71 cv_X5_mark hS.obj rfl rfl (Nat.le_of_ble_eq_true rfl) (Nat.le_of_ble_eq_true rfl) rfl (fun r h2 hp => ?_)
                  obtain ⟨rfl, hS⟩ := hp
                  refine L_if_ne (tgt := 127) dL_keeps_120 (by decide) (inR_of (by omega) (by omega)) (fun hc120 => ?_) (fun hc120 => ?_)
                  · skip
                    exfalso; omega
                  · skip
                    refine L_iconst dL_keeps_123 ?_
                    refine L_goto (tgt := 128) dL_keeps_124 (by decide) ?_
                    refine L_iload dL_keeps_128 rfl ?_
                    refine L_if_lt (tgt := 142) dL_keeps_130 (by decide) (inR_of (by omega) (by omega)) (fun hc130 => ?_) (fun hc130 => ?_)
                    · skip
                      exfalso; omega
                    · skip
                      refine L_iload dL_keeps_133 rfl ?_
                      refine L_if_ne (tgt := 142) dL_keeps_135 (by decide) (inR_of (by omega) (by omega)) (fun hc135 => ?_) (fun hc135 => ?_)
                      · skip
                        exfalso; omega
                      · skip
                        refine L_iconst dL_keeps_138 ?_
                        refine L_goto (tgt := 143) dL_keeps_139 (by decide) ?_
                        refine L_icmp_neE dL_keeps_143 (by decide) (rfl) ?_
                        refine L_iload dL_keeps_146 rfl ?_
                        refine L_if_lt (tgt := 158) dL_keeps_148 (by decide) (inR_of (by omega) (by omega)) (fun hc148 => ?_) (fun hc148 => ?_)
                        · skip
                          exfalso; omega
                        · skip
                          refine L_aload_n dL_keeps_151 rfl rfl ?_
                          refine L_callV (ci := 5) (as := []) (s_undo (v := v) hS ua.1 hS0.xi) dL_keeps_152 ml_L_80 cv_X5_undo hS.obj rfl rfl (Nat.le_of_ble_eq_true rfl) (Nat.le_of_ble_eq_true rfl) rfl (fun r h2 hp => ?_)
                          obtain ⟨rfl, hS⟩ := hp
                          have hu : 0 ≤ undR (szA sz2 (v 11 1)) ∧ undR (szA sz2 (v 11 1)) ≤ 4 := by
                            rw [ua.2.1]
                            split <;> omega
                          refine L_if_lt (tgt := 162) dL_keeps_155 (by decide) (inR_of (by omega) (by omega)) (fun hc155 => ?_) (fun hc155 => ?_)
                          · skip
                            exfalso; omega
                          · skip
                            refine L_iconst dL_keeps_158 ?_
                            refine L_goto (tgt := 163) dL_keeps_159 (by decide) ?_
                            refine L_istore dL_keeps_163 (by decide) rfl rfl ?_
                            refine L_iinc dL_keeps_165 (by decide) rfl rfl rfl ?_
                            refine L_goto (tgt := 42) dL_keeps_168 (by decide) ?_
                            refine L_forget 12 rfl ?_
                            refine L_forget 13 rfl ?_
                            exact T1 _ _ _ hS
                · skip
                  exfalso; omega
          · skip
            exfalso; omega
        · skip
          exfalso; omega
  refine L_aload_n dL_keeps_0 rfl rfl ?_
  refine L_callS (as := [_]) (c_L_print _ _ _ _ _ _ hS) dL_keeps_1 ml_L_64 cs_L_print rfl (Nat.le_of_ble_eq_true rfl) (Nat.le_of_ble_eq_true rfl) rfl (fun r h2 hp => ?_)
  obtain ⟨rfl, hS⟩ := hp
  refine L_lstore dL_keeps_4 (by decide) rfl rfl ?_
  refine L_aload_n dL_keeps_6 rfl rfl ?_
  refine L_iload_n dL_keeps_7 rfl rfl ?_
  refine L_iload_n dL_keeps_8 rfl rfl ?_
  refine L_callV (ci := 5) (as := [_, _]) (s_leastFlow hS (inR_of (by omega) (by omega)) (inR_of (by omega) (by omega))) dL_keeps_9 ml_L_83 cv_X5_leastFlow hS.obj rfl rfl (Nat.le_of_ble_eq_true rfl) (Nat.le_of_ble_eq_true rfl) rfl (fun r h2 hp => ?_)
  obtain ⟨rfl, hS⟩ := hp
  refine L_istore dL_keeps_12 (by decide) rfl rfl ?_
  refine L_aload_n dL_keeps_14 rfl rfl ?_
  refine L_iload_n dL_keeps_15 rfl rfl ?_
  refine L_iload_n dL_keeps_16 rfl rfl ?_
  refine L_callV (ci := 5) (as := [_, _]) (s_bestSill hS (inR_of (by omega) (by omega)) (inR_of (by omega) (by omega))) dL_keeps_17 ml_L_86 cv_X5_bestSill hS.obj rfl rfl (Nat.le_of_ble_eq_true rfl) (Nat.le_of_ble_eq_true rfl) rfl (fun r h2 hp => ?_)
  obtain ⟨rfl, hS⟩ := hp
  refine L_istore dL_keeps_20 (by decide) rfl rfl ?_
  refine L_aload_n dL_keeps_22 rfl rfl ?_
  refine L_iload_n dL_keeps_23 rfl rfl ?_
  refine L_callV (ci := 5) (as := [_]) (s_stopCell hS (inR_of (by omega) (by omega))) dL_keeps_24 ml_L_68 cv_X5_stopCell hS.obj rfl rfl (Nat.le_of_ble_eq_true rfl) (Nat.le_of_ble_eq_true rfl) rfl (fun r h2 hp => ?_)
  obtain ⟨rfl, hS⟩ := hp
  refine L_istore dL_keeps_27 (by decide) rfl rfl ?_
  refine L_aload_n dL_keeps_29 rfl rfl ?_
  refine L_iconst dL_keeps_30 ?_
  refine L_callV (ci := 5) (as := [_]) (s_count (y := v 11 1) hS (inR_of (by omega) (by omega)) rfl) dL_keeps_31 ml_L_46 cv_X5_count hS.obj rfl rfl (Nat.le_of_ble_eq_true rfl) (Nat.le_of_ble_eq_true rfl) rfl (fun r h2 hp => ?_)
  obtain ⟨rfl, hS⟩ := hp
  refine L_istore dL_keeps_34 (by decide) rfl rfl ?_
  refine L_iconst dL_keeps_36 ?_
  refine L_istore dL_keeps_37 (by decide) rfl rfl ?_
  refine L_iconst dL_keeps_39 ?_
  refine L_istore dL_keeps_40 (by decide) rfl rfl ?_
  exact T0 _ _ _ hS
