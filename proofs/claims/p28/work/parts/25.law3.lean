/-! the law: what comes in a tide -/
theorem L_fork0 {Ω : GP → State → Array Value → Method → Prop} {R : Room} {F : Nat} {Z : GP → State → Array Value → List Frame → State → Prop} {cc : ByteArray} {nL : Nat} {h : List PO} {pc : Nat} {lv : List (Option PW)} {st st1 : List PW} (pj : Nat) (E : Int) (P : List PO → Prop) (e : st = st1) (b : ∀ h2, P h2 → GL Ω R F Z cc nL h2 pj lv (w_ E :: st1)) (a : (∀ h2 z, P h2 → z = E → GL Ω R F Z cc nL h2 pj lv (w_ z :: st1)) → GL Ω R F Z cc nL h pc lv st) : GL Ω R F Z cc nL h pc lv st := a (fun h2 z q e => e ▸ b h2 q)
def mkV (v : SV) (r c : Int) : Int := mkI (pushI v r) (v 10 1) (v 1) (v 0) c
def ofV (v : SV) (r c : Int) : Int := offI (pushI v r) (v 10 1) (v 1) (v 0) c
def stV (v : SV) (r : Int) : Int := stI (pushI v r) (v 10 1) (v 1) (v 0)
def reV (v : SV) (r c : Int) : Int := reasonR (pushI v r) (v 10 1) (v 1) (v 0) c
/-- what came to the cell k, or to the stop if that is lower -/
def cmV (v : SV) (r k : Int) : Int := ofV v r (min k (stV v r))
section CV
variable {v : SV} {r c : Int}
theorem mark_is (c0 : 0 ≤ c) (c1 : c < 40) (hr : -30 ≤ r ∧ r ≤ 30) : markR v c r = mkV v r c := by
  unfold markR
  rw [if_neg (fun q => q ⟨c0, c1⟩), if_neg (fun q => q hr)]
  rfl
theorem why_is (c0 : 0 ≤ c) (c1 : c < 40) (hr : -30 ≤ r ∧ r ≤ 30) : whyR v c r = reV v r c := by
  unfold whyR
  rw [if_neg (fun q => q ⟨c0, c1⟩), if_neg (fun q => q hr)]
  rfl
theorem stV_is (v : SV) (r : Int) : IsStop (pushI v r) (v 10 1) (v 1) (v 0) (stV v r) := stI_is _ _ _ _
theorem stop_is (hr : -30 ≤ r ∧ r ≤ 30) : (stV v r < 40 ∧ stopR v r = stV v r) ∨ (stV v r = 40 ∧ stopR v r = -5) := by
  have a := (stV_is v r).2.1
  unfold stopR
  rw [if_neg (fun q => q hr)]
  by_cases z : stV v r < 40
  · exact Or.inl ⟨z, if_pos z⟩
  · exact Or.inr ⟨by omega, if_neg z⟩
theorem push_rng (ho : OK v) (hr : -30 ≤ r ∧ r ≤ 30) : -200 ≤ pushI v r ∧ pushI v r ≤ 200 := by
  have a := ho.2.1.1
  have b := ho.2.2.1.2.1
  unfold pushI
  omega
theorem of_rng (ho : OK v) (hr : -30 ≤ r ∧ r ≤ 30) (c0 : 0 ≤ c) (c1 : c ≤ 40) : -200 ≤ ofV v r c ∧ ofV v r c ≤ 200 :=
  offI_rng (push_rng ho hr) ho.2.1.2.1 ho.1.2.1 ho.1.1 c c0 c1
theorem of_s (c0 : 0 ≤ c) : ofV v r (c + 1) = mkV v r c - v 10 1 := offI_s _ _ _ _ c0
theorem mk_facts (ho : OK v) (c0 : 0 ≤ c) (c1 : c < 40) : (c < stV v r → mkV v r c = min (ofV v r c) (v 0 c) ∧ v 1 c < ofV v r c ∧ 1 ≤ mkV v r c) ∧ (stV v r ≤ c → mkV v r c = 0) ∧ (0 ≤ mkV v r c ∧ mkV v r c ≤ 60) := by
  have s := stV_is v r
  have m := mk_iff ho.2.1.2.1.1 ho.1.2.1 ho.1.1 s c0 c1
  have b := ho.1.2.1 c c0 c1
  have d := ho.1.1 c c0 c1
  have g := mkf_rng (o := ofV v r c) b.1 d.1
  refine ⟨fun q => ?_, fun q => m.mpr q, g.1, by have := g.2; unfold mkV mkI; unfold ofV at this; omega⟩
  have q1 : v 1 c < ofV v r c := s.2.2.1 c c0 q
  exact ⟨mkf_gt q1, q1, mk_live ho.1.2.1 ho.1.1 s c0 q⟩
theorem st_facts (v : SV) (r : Int) : 0 ≤ stV v r ∧ stV v r ≤ 40 ∧ (stV v r < 40 → ofV v r (stV v r) ≤ v 1 (stV v r)) := ⟨(stV_is v r).1, (stV_is v r).2.1, (stV_is v r).2.2.2⟩
theorem re_facts (v : SV) (r c : Int) : (c < stV v r → reV v r c = 0) ∧ (stV v r ≤ c → (pushI v r ≤ 0 → reV v r c = 1) ∧ (0 < pushI v r → (0 < ofV v r (stV v r) → reV v r c = 2) ∧ (ofV v r (stV v r) ≤ 0 → reV v r c = 3))) := by
  refine ⟨fun q => if_pos q, fun q => ⟨fun a => ?_, fun a => ⟨fun b => ?_, fun b => ?_⟩⟩⟩
  · unfold reV reasonR
    rw [if_neg (by unfold stV at q; omega), if_pos a]
  · unfold reV reasonR
    rw [if_neg (by unfold stV at q; omega), if_neg (by omega)]
    exact if_pos b
  · unfold reV reasonR
    rw [if_neg (by unfold stV at q; omega), if_neg (by omega)]
    exact if_neg (Int.not_lt.mpr b)
theorem cm_lo (h : c ≤ stV v r) : cmV v r c = ofV v r c := by unfold cmV; rw [Int.min_eq_left h]
theorem cm_hi (h : stV v r ≤ c) : cmV v r c = ofV v r (stV v r) := by unfold cmV; rw [Int.min_eq_right h]
theorem cm_0 (v : SV) (r : Int) : cmV v r 0 = pushI v r := cm_lo (stV_is v r).1
end CV
set_option maxRecDepth 100000 in
set_option maxHeartbeats 8000000 in
theorem c_L_comes (h : List PO) (v : SV) (hv : Int → SV) (sz ks : Int) (sw : SV) (r : Int) (hS : SYS h v hv sz ks sw) (hr : -30 ≤ r ∧ r ≤ 30) (hT : v 11 2 + 1 ≤ 99999) : PMw 8 yL_comes cL_comes 14 (some .boolean) h [r_ 0, i_ r] (fun r0 h2 => r0 = some (w_ 1) ∧ ∃ hv2 sz2, SYS h2 v hv2 sz2 ks sw) := by
  refine PMw_of [some (p_ 0), some (w_ r), none, none, none, none, none, none, none, none, none, none, none, none] rfl (by decide +kernel) (Nat.le_of_ble_eq_true rfl) rfl ?_
  have hS0 := hS
  have L : ∀ (fu : Nat) (k : Nat) (hh : List PO), SYS hh v hv sz ks sw → k ≤ 40 → 40 - k < fu → GM 8 cL_comes 14 (some .boolean) hh 52 [some (p_ 0), some (w_ r), some (l_ (prnL v)), none, some (w_ (stopR v r)), some (w_ (stV v r)), some (w_ (pushI v r)), some (w_ (cmV v r (k : Int))), some (w_ (sumN (tideH r v) k)), some (w_ (k : Int)), none, none, none, none] [] (fun r0 h2 => r0 = some (w_ 1) ∧ ∃ hv2 sz2, SYS h2 v hv2 sz2 ks sw) := by
    intro fu
    induction fu with
    | zero => intro k hh hS hk hmeas; exfalso; omega
    | succ fu ih =>
      intro k hh hS hk hmeas
      have hg := hS.gen
      have hpr := push_rng hS.ok hr
      have hst := st_facts v r
      have hoT := of_rng (c := stV v r) hS.ok hr hst.1 hst.2.1
      have hcr : -200 ≤ cmV v r (k : Int) ∧ cmV v r (k : Int) ≤ 200 := of_rng hS.ok hr (by omega) (by omega)
      refine L_iload dL_comes_52 rfl ?_
      refine L_bipush dL_comes_54 rfl ?_
      refine L_icmp_ge (tgt := 345) dL_comes_56 (by decide) (inR_of (by omega) (by omega)) (inR_of (by omega) (by omega)) (fun hc56 => ?_) (fun hc56 => ?_)
      · skip
        have hk2 : k = 40 := by omega
        subst hk2
        refine L_aload_n dL_comes_345 rfl rfl ?_
        refine L_iload_n dL_comes_346 rfl rfl ?_
        refine L_iconst dL_comes_347 ?_
        refine L_callV (ci := 5) (as := [_, _]) (s_tide hS (inR_of (by omega) (by omega)) (inR_of (by omega) (by omega))) dL_comes_348 ml_L_40 cv_X5_tide hS.obj rfl rfl (Nat.le_of_ble_eq_true rfl) (Nat.le_of_ble_eq_true rfl) rfl (fun r h2 hp => ?_)
        obtain ⟨rfl, hS⟩ := hp
        have td := tides_do (v := v) (t := 1) hr (by omega) hT
        have td1 : tidesV v r 1 = itV r v 1 := td.2.1
        have td2 : tidesR v r 1 = sumN (wetI (itV r v 1 2)) 40 := td.1
        have td3 := td.2.2
        have tr := tidesR_rng (v := v) (a := r) (b := 1)
        rw [td1] at hS
        have ua := und_act (v := v) (V := itV r v 1) (hv := hv) td3 hg.2.2.2.2.2.2.2.1 hg.2.2.2.2.2.2.2.2
        refine L_istore dL_comes_351 (by decide) rfl rfl ?_
        refine L_iload dL_comes_353 rfl ?_
        refine L_aload_n dL_comes_355 rfl rfl ?_
        refine L_iconst dL_comes_356 ?_
        refine L_callV (ci := 5) (as := [_]) (s_count (y := sumN (wetI (itV r v 1 2)) 40) hS (inR_of (by omega) (by omega)) rfl) dL_comes_357 ml_L_46 cv_X5_count hS.obj rfl rfl (Nat.le_of_ble_eq_true rfl) (Nat.le_of_ble_eq_true rfl) rfl (fun r h2 hp => ?_)
        obtain ⟨rfl, hS⟩ := hp
        refine L_icmp_neE dL_comes_360 (by decide) (td2) ?_
        refine L_aload_n dL_comes_363 rfl rfl ?_
        refine L_iconst dL_comes_364 ?_
        refine L_callV (ci := 5) (as := [_]) (s_count (y := sumN (itV r v 1 2) 40) hS (inR_of (by omega) (by omega)) rfl) dL_comes_365 ml_L_46 cv_X5_count hS.obj rfl rfl (Nat.le_of_ble_eq_true rfl) (Nat.le_of_ble_eq_true rfl) rfl (fun r h2 hp => ?_)
        obtain ⟨rfl, hS⟩ := hp
        refine L_iload dL_comes_368 rfl ?_
        refine L_icmp_neE dL_comes_370 (by decide) (rfl) ?_
        refine L_aload_n dL_comes_373 rfl rfl ?_
        refine L_callS (as := [_]) (c_L_hangs _ _ _ _ _ _ hS) dL_comes_374 ml_L_77 cs_L_hangs rfl (Nat.le_of_ble_eq_true rfl) (Nat.le_of_ble_eq_true rfl) rfl (fun r h2 hp => ?_)
        obtain ⟨rfl, hS⟩ := hp
        refine L_if_ne (tgt := 387) dL_comes_377 (by decide) (inR_of (by omega) (by omega)) (fun hc377 => ?_) (fun hc377 => ?_)
        · skip
          refine L_iload dL_comes_387 rfl ?_
          refine L_if_lt (tgt := 399) dL_comes_389 (by decide) (inR_of (by omega) (by omega)) (fun hc389 => ?_) (fun hc389 => ?_)
          · skip
            exfalso; omega
          · skip
            refine L_aload_n dL_comes_392 rfl rfl ?_
            refine L_callV (ci := 5) (as := []) (s_undo (v := v) hS ua.1 hS0.xi) dL_comes_393 ml_L_80 cv_X5_undo hS.obj rfl rfl (Nat.le_of_ble_eq_true rfl) (Nat.le_of_ble_eq_true rfl) rfl (fun r h2 hp => ?_)
            obtain ⟨rfl, hS⟩ := hp
            have hu : 0 ≤ undR (szA sz (tidesR v r 1)) ∧ undR (szA sz (tidesR v r 1)) ≤ 4 := by
              rw [ua.2.1]
              split <;> omega
            refine L_if_lt (tgt := 412) dL_comes_396 (by decide) (inR_of (by omega) (by omega)) (fun hc396 => ?_) (fun hc396 => ?_)
            · skip
              exfalso; omega
            · skip
              refine L_aload_n dL_comes_399 rfl rfl ?_
              refine L_callS (as := [_]) (c_L_print _ _ _ _ _ _ hS) dL_comes_400 ml_L_64 cs_L_print rfl (Nat.le_of_ble_eq_true rfl) (Nat.le_of_ble_eq_true rfl) rfl (fun r h2 hp => ?_)
              obtain ⟨rfl, hS⟩ := hp
              refine L_lload_n dL_comes_403 rfl rfl ?_
              refine L_lcmpE dL_comes_404 rfl ?_
              refine L_if_ne (tgt := 412) dL_comes_405 (by decide) (inR_of (by omega) (by omega)) (fun hc405 => ?_) (fun hc405 => ?_)
              · skip
                exfalso; omega
              · skip
                refine L_iconst dL_comes_408 ?_
                refine L_goto (tgt := 413) dL_comes_409 (by decide) ?_
                refine M_zreturn dL_comes_413 rfl (Or.inr rfl) ?_
                exact ⟨rfl, _, _, hS⟩
        · skip
          exfalso; omega
      · skip
        have hb := hS.bed (c := (k : Int)) (by omega) (by omega)
        have hm := mk_facts (r := r) (c := (k : Int)) hS.ok (by omega) (by omega)
        have hre := re_facts v r (k : Int)
        have hreT := re_facts v r (stV v r)
        have hor := of_rng (c := (k : Int)) hS.ok hr (by omega) (by omega)
        have hcm1 : (k : Int) ≤ stV v r → cmV v r (k : Int) = ofV v r (k : Int) := cm_lo
        refine L_aload_n dL_comes_59 rfl rfl ?_
        refine L_iload dL_comes_60 rfl ?_
        refine L_iload_n dL_comes_62 rfl rfl ?_
        refine L_callV (ci := 5) (as := [_, _]) (s_mark (y := mkV v r (k : Int)) hS (inR_of (by omega) (by omega)) (inR_of (by omega) (by omega)) (mark_is (by omega) (by omega) hr)) dL_comes_63 ml_L_71 cv_X5_mark hS.obj rfl rfl (Nat.le_of_ble_eq_true rfl) (Nat.le_of_ble_eq_true rfl) rfl (fun r h2 hp => ?_)
        obtain ⟨rfl, hS⟩ := hp
        refine L_istore dL_comes_66 (by decide) rfl rfl ?_
        refine L_iload dL_comes_68 rfl ?_
        refine L_aload_n dL_comes_70 rfl rfl ?_
        refine L_iload dL_comes_71 rfl ?_
        refine L_iconst dL_comes_73 ?_
        refine L_callV (ci := 5) (as := [_, _]) (s_cell hS (inR_of (by omega) (by omega)) (inR_of (by omega) (by omega)) (cell_0 (by omega) (by omega))) dL_comes_74 ml_L_43 cv_X5_cell hS.obj rfl rfl (Nat.le_of_ble_eq_true rfl) (Nat.le_of_ble_eq_true rfl) rfl (fun r h2 hp => ?_)
        obtain ⟨rfl, hS⟩ := hp
        refine L_fork2 92 (min (cmV v r (k : Int)) (v 0 (k : Int))) (fun h => SYS h v hv sz ks sw) rfl (fun h2 hS => ?_) (fun J => ?_)
        · skip
          refine L_istore dL_comes_92 (by decide) rfl rfl ?_
          refine L_aload_n dL_comes_94 rfl rfl ?_
          refine L_iload dL_comes_95 rfl ?_
          refine L_iload_n dL_comes_97 rfl rfl ?_
          refine L_callV (ci := 5) (as := [_, _]) (s_reason (y := reV v r (k : Int)) hS (inR_of (by omega) (by omega)) (inR_of (by omega) (by omega)) (why_is (by omega) (by omega) hr)) dL_comes_98 ml_L_74 cv_X5_reason hS.obj rfl rfl (Nat.le_of_ble_eq_true rfl) (Nat.le_of_ble_eq_true rfl) rfl (fun r h2 hp => ?_)
          obtain ⟨rfl, hS⟩ := hp
          refine L_istore dL_comes_101 (by decide) rfl rfl ?_
          refine L_iload dL_comes_103 rfl ?_
          refine L_iload dL_comes_105 rfl ?_
          refine L_iload dL_comes_107 rfl ?_
          refine L_fork2 118 (mkV v r (k : Int)) (fun h => SYS h v hv sz ks sw) rfl (fun h2 hS => ?_) (fun J => ?_)
          · skip
            refine L_icmp_neE dL_comes_118 (by decide) (rfl) ?_
            refine L_fork0 268 (cmV v r ((k : Int) + 1)) (fun h => SYS h v hv sz ks sw) rfl (fun h2 hS => ?_) (fun J0 => ?_)
            · skip
              refine L_istore dL_comes_268 (by decide) rfl rfl ?_
              refine L_iload dL_comes_270 rfl ?_
              refine L_aload_n dL_comes_272 rfl rfl ?_
              refine L_iload dL_comes_273 rfl ?_
              refine L_iconst dL_comes_275 ?_
              refine L_callV (ci := 5) (as := [_, _]) (s_cell hS (inR_of (by omega) (by omega)) (inR_of (by omega) (by omega)) (cell_2 (by omega) (by omega))) dL_comes_276 ml_L_43 cv_X5_cell hS.obj rfl rfl (Nat.le_of_ble_eq_true rfl) (Nat.le_of_ble_eq_true rfl) rfl (fun r h2 hp => ?_)
              obtain ⟨rfl, hS⟩ := hp
              refine L_isub dL_comes_279 ?_
              refine L_istore dL_comes_280 (by decide) rfl rfl ?_
              refine L_iload dL_comes_282 rfl ?_
              refine L_aload_n dL_comes_284 rfl rfl ?_
              refine L_iload dL_comes_285 rfl ?_
              refine L_iconst dL_comes_287 ?_
              refine L_callV (ci := 5) (as := [_, _]) (s_cell hS (inR_of (by omega) (by omega)) (inR_of (by omega) (by omega)) (cell_2 (by omega) (by omega))) dL_comes_288 ml_L_43 cv_X5_cell hS.obj rfl rfl (Nat.le_of_ble_eq_true rfl) (Nat.le_of_ble_eq_true rfl) rfl (fun r h2 hp => ?_)
              obtain ⟨rfl, hS⟩ := hp
              refine L_iload dL_comes_291 rfl ?_
              refine L_aload_n dL_comes_293 rfl rfl ?_
              refine L_bipush dL_comes_294 rfl ?_
              refine L_callV (ci := 5) (as := [_]) (s_count (y := v 10 2) hS (inR_of (by omega) (by omega)) rfl) dL_comes_296 ml_L_46 cv_X5_count hS.obj rfl rfl (Nat.le_of_ble_eq_true rfl) (Nat.le_of_ble_eq_true rfl) rfl (fun r h2 hp => ?_)
              obtain ⟨rfl, hS⟩ := hp
              refine L_fork2 335 (moveI (v 2 (k : Int)) (mkV v r (k : Int)) (v 10 2) - v 2 (k : Int)) (fun h => SYS h v hv sz ks sw) rfl (fun h2 hS => ?_) (fun J => ?_)
              · skip
                refine L_iadd dL_comes_335 ?_
                refine L_iadd dL_comes_336 ?_
                refine L_top (y := sumN (tideH r v) (k + 1)) (by show sumN (tideH r v) k + (v 2 (k : Int) + (moveI (v 2 (k : Int)) (mkV v r (k : Int)) (v 10 2) - v 2 (k : Int))) = sumN (tideH r v) k + moveI (v 2 (k : Int)) (mkV v r (k : Int)) (v 10 2); omega) ?_
                refine L_istore dL_comes_337 (by decide) rfl rfl ?_
                refine L_iinc dL_comes_339 (by decide) rfl rfl rfl ?_
                refine L_goto (tgt := 52) dL_comes_342 (by decide) ?_
                refine L_forget 10 rfl ?_
                refine L_forget 11 rfl ?_
                refine L_forget 12 rfl ?_
                refine L_forget 13 rfl ?_
                exact ih (k + 1) _ hS (by omega) (by omega)
              · skip
                refine L_icmp_le (tgt := 311) dL_comes_299 (by decide) (inR_of (by omega) (by omega)) (inR_of (by omega) (by omega)) (fun hc299 => ?_) (fun hc299 => ?_)
                · skip
                  refine L_iload dL_comes_311 rfl ?_
                  refine L_aload_n dL_comes_313 rfl rfl ?_
                  refine L_bipush dL_comes_314 rfl ?_
                  refine L_callV (ci := 5) (as := [_]) (s_count (y := v 10 2) hS (inR_of (by omega) (by omega)) rfl) dL_comes_316 ml_L_46 cv_X5_count hS.obj rfl rfl (Nat.le_of_ble_eq_true rfl) (Nat.le_of_ble_eq_true rfl) rfl (fun r h2 hp => ?_)
                  obtain ⟨rfl, hS⟩ := hp
                  refine L_ineg dL_comes_319 ?_
                  refine L_icmp_ge (tgt := 333) dL_comes_320 (by decide) (inR_of (by omega) (by omega)) (inR_of (by omega) (by omega)) (fun hc320 => ?_) (fun hc320 => ?_)
                  · skip
                    refine L_iload dL_comes_333 rfl ?_
                    exact J _ _ hS (by unfold moveI; split <;> omega)
                  · skip
                    refine L_aload_n dL_comes_323 rfl rfl ?_
                    refine L_bipush dL_comes_324 rfl ?_
                    refine L_callV (ci := 5) (as := [_]) (s_count (y := v 10 2) hS (inR_of (by omega) (by omega)) rfl) dL_comes_326 ml_L_46 cv_X5_count hS.obj rfl rfl (Nat.le_of_ble_eq_true rfl) (Nat.le_of_ble_eq_true rfl) rfl (fun r h2 hp => ?_)
                    obtain ⟨rfl, hS⟩ := hp
                    refine L_ineg dL_comes_329 ?_
                    refine L_goto (tgt := 335) dL_comes_330 (by decide) ?_
                    exact J _ _ hS (by unfold moveI; split <;> omega)
                · skip
                  refine L_aload_n dL_comes_302 rfl rfl ?_
                  refine L_bipush dL_comes_303 rfl ?_
                  refine L_callV (ci := 5) (as := [_]) (s_count (y := v 10 2) hS (inR_of (by omega) (by omega)) rfl) dL_comes_305 ml_L_46 cv_X5_count hS.obj rfl rfl (Nat.le_of_ble_eq_true rfl) (Nat.le_of_ble_eq_true rfl) rfl (fun r h2 hp => ?_)
                  obtain ⟨rfl, hS⟩ := hp
                  refine L_goto (tgt := 335) dL_comes_308 (by decide) ?_
                  exact J _ _ hS (by unfold moveI; split <;> omega)
            · skip
              rcases Int.lt_trichotomy (k : Int) (stV v r) with hlt | hlt | hlt
              · skip
                refine L_iload dL_comes_121 rfl ?_
                refine L_iload dL_comes_123 rfl ?_
                refine L_icmp_ge (tgt := 151) dL_comes_125 (by decide) (inR_of (by omega) (by omega)) (inR_of (by omega) (by omega)) (fun hc125 => ?_) (fun hc125 => ?_)
                · skip
                  exfalso; omega
                · skip
                  refine L_iload dL_comes_128 rfl ?_
                  refine L_aload_n dL_comes_130 rfl rfl ?_
                  refine L_iload dL_comes_131 rfl ?_
                  refine L_iconst dL_comes_133 ?_
                  refine L_callV (ci := 5) (as := [_, _]) (s_cell hS (inR_of (by omega) (by omega)) (inR_of (by omega) (by omega)) (cell_1 (by omega) (by omega))) dL_comes_134 ml_L_43 cv_X5_cell hS.obj rfl rfl (Nat.le_of_ble_eq_true rfl) (Nat.le_of_ble_eq_true rfl) rfl (fun r h2 hp => ?_)
                  obtain ⟨rfl, hS⟩ := hp
                  refine L_icmp_le (tgt := 245) dL_comes_137 (by decide) (inR_of (by omega) (by omega)) (inR_of (by omega) (by omega)) (fun hc137 => ?_) (fun hc137 => ?_)
                  · skip
                    exfalso; omega
                  · skip
                    refine L_iload dL_comes_140 rfl ?_
                    refine L_if_ne (tgt := 245) dL_comes_142 (by decide) (inR_of (by omega) (by omega)) (fun hc142 => ?_) (fun hc142 => ?_)
                    · skip
                      exfalso; omega
                    · skip
                      refine L_iload dL_comes_145 rfl ?_
                      refine L_iconst dL_comes_147 ?_
                      refine L_icmp_lt (tgt := 245) dL_comes_148 (by decide) (inR_of (by omega) (by omega)) (inR_of (by omega) (by omega)) (fun hc148 => ?_) (fun hc148 => ?_)
                      · skip
                        exfalso; omega
                      · skip
                        refine L_iload dL_comes_151 rfl ?_
                        refine L_iload dL_comes_153 rfl ?_
                        refine L_icmp_ne (tgt := 170) dL_comes_155 (by decide) (inR_of (by omega) (by omega)) (inR_of (by omega) (by omega)) (fun hc155 => ?_) (fun hc155 => ?_)
                        · skip
                          refine L_iload dL_comes_170 rfl ?_
                          refine L_iload dL_comes_172 rfl ?_
                          refine L_icmp_lt (tgt := 198) dL_comes_174 (by decide) (inR_of (by omega) (by omega)) (inR_of (by omega) (by omega)) (fun hc174 => ?_) (fun hc174 => ?_)
                          · skip
                            refine L_iload dL_comes_198 rfl ?_
                            refine L_iload dL_comes_200 rfl ?_
                            refine L_icmp_ne (tgt := 234) dL_comes_202 (by decide) (inR_of (by omega) (by omega)) (inR_of (by omega) (by omega)) (fun hc202 => ?_) (fun hc202 => ?_)
                            · skip
                              refine L_iload dL_comes_234 rfl ?_
                              refine L_if_lt (tgt := 245) dL_comes_236 (by decide) (inR_of (by omega) (by omega)) (fun hc236 => ?_) (fun hc236 => ?_)
                              · skip
                                exfalso; omega
                              · skip
                                refine L_iload dL_comes_239 rfl ?_
                                refine L_iconst dL_comes_241 ?_
                                refine L_icmp_le (tgt := 247) dL_comes_242 (by decide) (inR_of (by omega) (by omega)) (inR_of (by omega) (by omega)) (fun hc242 => ?_) (fun hc242 => ?_)
                                · skip
                                  refine L_iload dL_comes_247 rfl ?_
                                  refine L_iload dL_comes_249 rfl ?_
                                  refine L_icmp_ge (tgt := 266) dL_comes_251 (by decide) (inR_of (by omega) (by omega)) (inR_of (by omega) (by omega)) (fun hc251 => ?_) (fun hc251 => ?_)
                                  · skip
                                    exfalso; omega
                                  · skip
                                    refine L_iload dL_comes_254 rfl ?_
                                    refine L_aload_n dL_comes_256 rfl rfl ?_
                                    refine L_bipush dL_comes_257 rfl ?_
                                    refine L_callV (ci := 5) (as := [_]) (s_count (y := v 10 1) hS (inR_of (by omega) (by omega)) rfl) dL_comes_259 ml_L_46 cv_X5_count hS.obj rfl rfl (Nat.le_of_ble_eq_true rfl) (Nat.le_of_ble_eq_true rfl) rfl (fun r h2 hp => ?_)
                                    obtain ⟨rfl, hS⟩ := hp
                                    refine L_isub dL_comes_262 ?_
                                    refine L_goto (tgt := 268) dL_comes_263 (by decide) ?_
                                    exact J0 _ _ hS (by rw [cm_lo (by omega), of_s (by omega)])
                                · skip
                                  exfalso; omega
                            · skip
                              exfalso; omega
                          · skip
                            exfalso; omega
                        · skip
                          exfalso; omega
              · skip
                have hcm2 := cm_hi (v := v) (r := r) (c := (k : Int)) (by omega)
                have hst4 : ofV v r (k : Int) ≤ v 1 (k : Int) := by
                  have z := hst.2.2 (by omega)
                  rw [← hlt] at z
                  exact z
                refine L_iload dL_comes_121 rfl ?_
                refine L_iload dL_comes_123 rfl ?_
                refine L_icmp_ge (tgt := 151) dL_comes_125 (by decide) (inR_of (by omega) (by omega)) (inR_of (by omega) (by omega)) (fun hc125 => ?_) (fun hc125 => ?_)
                · skip
                  refine L_iload dL_comes_151 rfl ?_
                  refine L_iload dL_comes_153 rfl ?_
                  refine L_icmp_ne (tgt := 170) dL_comes_155 (by decide) (inR_of (by omega) (by omega)) (inR_of (by omega) (by omega)) (fun hc155 => ?_) (fun hc155 => ?_)
                  · skip
                    exfalso; omega
                  · skip
                    refine L_iload dL_comes_158 rfl ?_
                    refine L_aload_n dL_comes_160 rfl rfl ?_
                    refine L_iload dL_comes_161 rfl ?_
                    refine L_iconst dL_comes_163 ?_
                    refine L_callV (ci := 5) (as := [_, _]) (s_cell hS (inR_of (by omega) (by omega)) (inR_of (by omega) (by omega)) (cell_1 (by omega) (by omega))) dL_comes_164 ml_L_43 cv_X5_cell hS.obj rfl rfl (Nat.le_of_ble_eq_true rfl) (Nat.le_of_ble_eq_true rfl) rfl (fun r h2 hp => ?_)
                    obtain ⟨rfl, hS⟩ := hp
                    refine L_icmp_gt (tgt := 245) dL_comes_167 (by decide) (inR_of (by omega) (by omega)) (inR_of (by omega) (by omega)) (fun hc167 => ?_) (fun hc167 => ?_)
                    · skip
                      exfalso; omega
                    · skip
                      refine L_iload dL_comes_170 rfl ?_
                      refine L_iload dL_comes_172 rfl ?_
                      refine L_icmp_lt (tgt := 198) dL_comes_174 (by decide) (inR_of (by omega) (by omega)) (inR_of (by omega) (by omega)) (fun hc174 => ?_) (fun hc174 => ?_)
                      · skip
                        exfalso; omega
                      · skip
                        refine L_iload dL_comes_177 rfl ?_
                        refine L_iload dL_comes_179 rfl ?_
                        refine L_fork1 195 (reV v r (k : Int)) (fun h => SYS h v hv sz ks sw) rfl (fun h2 hS => ?_) (fun J => ?_)
                        · skip
                          refine L_icmp_neE dL_comes_195 (by decide) (rfl) ?_
                          refine L_iload dL_comes_198 rfl ?_
                          refine L_iload dL_comes_200 rfl ?_
                          refine L_icmp_ne (tgt := 234) dL_comes_202 (by decide) (inR_of (by omega) (by omega)) (inR_of (by omega) (by omega)) (fun hc202 => ?_) (fun hc202 => ?_)
                          · skip
                            exfalso; omega
                          · skip
                            refine L_iload dL_comes_205 rfl ?_
                            refine L_if_le (tgt := 234) dL_comes_207 (by decide) (inR_of (by omega) (by omega)) (fun hc207 => ?_) (fun hc207 => ?_)
                            · skip
                              refine L_iload dL_comes_234 rfl ?_
                              refine L_if_lt (tgt := 245) dL_comes_236 (by decide) (inR_of (by omega) (by omega)) (fun hc236 => ?_) (fun hc236 => ?_)
                              · skip
                                exfalso; omega
                              · skip
                                refine L_iload dL_comes_239 rfl ?_
                                refine L_iconst dL_comes_241 ?_
                                refine L_icmp_le (tgt := 247) dL_comes_242 (by decide) (inR_of (by omega) (by omega)) (inR_of (by omega) (by omega)) (fun hc242 => ?_) (fun hc242 => ?_)
                                · skip
                                  refine L_iload dL_comes_247 rfl ?_
                                  refine L_iload dL_comes_249 rfl ?_
                                  refine L_icmp_ge (tgt := 266) dL_comes_251 (by decide) (inR_of (by omega) (by omega)) (inR_of (by omega) (by omega)) (fun hc251 => ?_) (fun hc251 => ?_)
                                  · skip
                                    refine L_iload dL_comes_266 rfl ?_
                                    exact J0 _ _ hS (by rw [cm_hi (c := (k : Int) + 1) (by omega), cm_hi (c := (k : Int)) (by omega)])
                                  · skip
                                    exfalso; omega
                                · skip
                                  exfalso; omega
                            · skip
                              refine L_iload dL_comes_210 rfl ?_
                              refine L_iconst dL_comes_212 ?_
                              refine L_fork2 221 (if reV v r (k : Int) = 2 then 1 else 0) (fun h => SYS h v hv sz ks sw) rfl (fun h2 hS => ?_) (fun J => ?_)
                              · skip
                                refine L_iload dL_comes_221 rfl ?_
                                refine L_fork1 231 (if 0 < cmV v r (k : Int) then 1 else 0) (fun h => SYS h v hv sz ks sw) rfl (fun h2 hS => ?_) (fun J => ?_)
                                · skip
                                  refine L_icmp_neE dL_comes_231 (by decide) (by split <;> split <;> omega) ?_
                                  refine L_iload dL_comes_234 rfl ?_
                                  refine L_if_lt (tgt := 245) dL_comes_236 (by decide) (inR_of (by omega) (by omega)) (fun hc236 => ?_) (fun hc236 => ?_)
                                  · skip
                                    exfalso; omega
                                  · skip
                                    refine L_iload dL_comes_239 rfl ?_
                                    refine L_iconst dL_comes_241 ?_
                                    refine L_icmp_le (tgt := 247) dL_comes_242 (by decide) (inR_of (by omega) (by omega)) (inR_of (by omega) (by omega)) (fun hc242 => ?_) (fun hc242 => ?_)
                                    · skip
                                      refine L_iload dL_comes_247 rfl ?_
                                      refine L_iload dL_comes_249 rfl ?_
                                      refine L_icmp_ge (tgt := 266) dL_comes_251 (by decide) (inR_of (by omega) (by omega)) (inR_of (by omega) (by omega)) (fun hc251 => ?_) (fun hc251 => ?_)
                                      · skip
                                        refine L_iload dL_comes_266 rfl ?_
                                        exact J0 _ _ hS (by rw [cm_hi (c := (k : Int) + 1) (by omega), cm_hi (c := (k : Int)) (by omega)])
                                      · skip
                                        exfalso; omega
                                    · skip
                                      exfalso; omega
                                · skip
                                  refine L_if_le (tgt := 230) dL_comes_223 (by decide) (inR_of (by omega) (by omega)) (fun hc223 => ?_) (fun hc223 => ?_)
                                  · skip
                                    refine L_iconst dL_comes_230 ?_
                                    exact J _ _ hS (by first | exact (if_pos (by omega)).symm | exact (if_neg (by omega)).symm)
                                  · skip
                                    refine L_iconst dL_comes_226 ?_
                                    refine L_goto (tgt := 231) dL_comes_227 (by decide) ?_
                                    exact J _ _ hS (by first | exact (if_pos (by omega)).symm | exact (if_neg (by omega)).symm)
                              · skip
                                refine L_icmp_ne (tgt := 220) dL_comes_213 (by decide) (inR_of (by omega) (by omega)) (inR_of (by omega) (by omega)) (fun hc213 => ?_) (fun hc213 => ?_)
                                · skip
                                  refine L_iconst dL_comes_220 ?_
                                  exact J _ _ hS (by first | exact (if_pos (by omega)).symm | exact (if_neg (by omega)).symm)
                                · skip
                                  refine L_iconst dL_comes_216 ?_
                                  refine L_goto (tgt := 221) dL_comes_217 (by decide) ?_
                                  exact J _ _ hS (by first | exact (if_pos (by omega)).symm | exact (if_neg (by omega)).symm)
                        · skip
                          refine L_if_gt (tgt := 188) dL_comes_181 (by decide) (inR_of (by omega) (by omega)) (fun hc181 => ?_) (fun hc181 => ?_)
                          · skip
                            refine L_aload_n dL_comes_188 rfl rfl ?_
                            refine L_iload dL_comes_189 rfl ?_
                            refine L_iload_n dL_comes_191 rfl rfl ?_
                            refine L_callV (ci := 5) (as := [_, _]) (s_reason (y := reV v r (stV v r)) hS (inR_of (by omega) (by omega)) (inR_of (by omega) (by omega)) (why_is (by omega) (by omega) hr)) dL_comes_192 ml_L_74 cv_X5_reason hS.obj rfl rfl (Nat.le_of_ble_eq_true rfl) (Nat.le_of_ble_eq_true rfl) rfl (fun r h2 hp => ?_)
                            obtain ⟨rfl, hS⟩ := hp
                            exact J _ _ hS (by omega)
                          · skip
                            refine L_iconst dL_comes_184 ?_
                            refine L_goto (tgt := 195) dL_comes_185 (by decide) ?_
                            exact J _ _ hS (by omega)
                · skip
                  exfalso; omega
              · skip
                have hcm2 := cm_hi (v := v) (r := r) (c := (k : Int)) (by omega)
                refine L_iload dL_comes_121 rfl ?_
                refine L_iload dL_comes_123 rfl ?_
                refine L_icmp_ge (tgt := 151) dL_comes_125 (by decide) (inR_of (by omega) (by omega)) (inR_of (by omega) (by omega)) (fun hc125 => ?_) (fun hc125 => ?_)
                · skip
                  refine L_iload dL_comes_151 rfl ?_
                  refine L_iload dL_comes_153 rfl ?_
                  refine L_icmp_ne (tgt := 170) dL_comes_155 (by decide) (inR_of (by omega) (by omega)) (inR_of (by omega) (by omega)) (fun hc155 => ?_) (fun hc155 => ?_)
                  · skip
                    refine L_iload dL_comes_170 rfl ?_
                    refine L_iload dL_comes_172 rfl ?_
                    refine L_icmp_lt (tgt := 198) dL_comes_174 (by decide) (inR_of (by omega) (by omega)) (inR_of (by omega) (by omega)) (fun hc174 => ?_) (fun hc174 => ?_)
                    · skip
                      exfalso; omega
                    · skip
                      refine L_iload dL_comes_177 rfl ?_
                      refine L_iload dL_comes_179 rfl ?_
                      refine L_fork1 195 (reV v r (k : Int)) (fun h => SYS h v hv sz ks sw) rfl (fun h2 hS => ?_) (fun J => ?_)
                      · skip
                        refine L_icmp_neE dL_comes_195 (by decide) (rfl) ?_
                        refine L_iload dL_comes_198 rfl ?_
                        refine L_iload dL_comes_200 rfl ?_
                        refine L_icmp_ne (tgt := 234) dL_comes_202 (by decide) (inR_of (by omega) (by omega)) (inR_of (by omega) (by omega)) (fun hc202 => ?_) (fun hc202 => ?_)
                        · skip
                          refine L_iload dL_comes_234 rfl ?_
                          refine L_if_lt (tgt := 245) dL_comes_236 (by decide) (inR_of (by omega) (by omega)) (fun hc236 => ?_) (fun hc236 => ?_)
                          · skip
                            exfalso; omega
                          · skip
                            refine L_iload dL_comes_239 rfl ?_
                            refine L_iconst dL_comes_241 ?_
                            refine L_icmp_le (tgt := 247) dL_comes_242 (by decide) (inR_of (by omega) (by omega)) (inR_of (by omega) (by omega)) (fun hc242 => ?_) (fun hc242 => ?_)
                            · skip
                              refine L_iload dL_comes_247 rfl ?_
                              refine L_iload dL_comes_249 rfl ?_
                              refine L_icmp_ge (tgt := 266) dL_comes_251 (by decide) (inR_of (by omega) (by omega)) (inR_of (by omega) (by omega)) (fun hc251 => ?_) (fun hc251 => ?_)
                              · skip
                                refine L_iload dL_comes_266 rfl ?_
                                exact J0 _ _ hS (by rw [cm_hi (c := (k : Int) + 1) (by omega), cm_hi (c := (k : Int)) (by omega)])
                              · skip
                                exfalso; omega
                            · skip
                              exfalso; omega
                        · skip
                          exfalso; omega
                      · skip
                        refine L_if_gt (tgt := 188) dL_comes_181 (by decide) (inR_of (by omega) (by omega)) (fun hc181 => ?_) (fun hc181 => ?_)
                        · skip
                          refine L_aload_n dL_comes_188 rfl rfl ?_
                          refine L_iload dL_comes_189 rfl ?_
                          refine L_iload_n dL_comes_191 rfl rfl ?_
                          refine L_callV (ci := 5) (as := [_, _]) (s_reason (y := reV v r (stV v r)) hS (inR_of (by omega) (by omega)) (inR_of (by omega) (by omega)) (why_is (by omega) (by omega) hr)) dL_comes_192 ml_L_74 cv_X5_reason hS.obj rfl rfl (Nat.le_of_ble_eq_true rfl) (Nat.le_of_ble_eq_true rfl) rfl (fun r h2 hp => ?_)
                          obtain ⟨rfl, hS⟩ := hp
                          exact J _ _ hS (by omega)
                        · skip
                          refine L_iconst dL_comes_184 ?_
                          refine L_goto (tgt := 195) dL_comes_185 (by decide) ?_
                          exact J _ _ hS (by omega)
                  · skip
                    exfalso; omega
                · skip
                  exfalso; omega
          · skip
            refine L_icmp_ge (tgt := 117) dL_comes_109 (by decide) (inR_of (by omega) (by omega)) (inR_of (by omega) (by omega)) (fun hc109 => ?_) (fun hc109 => ?_)
            · skip
              refine L_iconst dL_comes_117 ?_
              exact J _ _ hS (by omega)
            · skip
              refine L_iload dL_comes_112 rfl ?_
              refine L_goto (tgt := 118) dL_comes_114 (by decide) ?_
              exact J _ _ hS (by omega)
        · skip
          refine L_icmp_ge (tgt := 85) dL_comes_77 (by decide) (inR_of (by omega) (by omega)) (inR_of (by omega) (by omega)) (fun hc77 => ?_) (fun hc77 => ?_)
          · skip
            refine L_aload_n dL_comes_85 rfl rfl ?_
            refine L_iload dL_comes_86 rfl ?_
            refine L_iconst dL_comes_88 ?_
            refine L_callV (ci := 5) (as := [_, _]) (s_cell hS (inR_of (by omega) (by omega)) (inR_of (by omega) (by omega)) (cell_0 (by omega) (by omega))) dL_comes_89 ml_L_43 cv_X5_cell hS.obj rfl rfl (Nat.le_of_ble_eq_true rfl) (Nat.le_of_ble_eq_true rfl) rfl (fun r h2 hp => ?_)
            obtain ⟨rfl, hS⟩ := hp
            exact J _ _ hS (by omega)
          · skip
            refine L_iload dL_comes_80 rfl ?_
            refine L_goto (tgt := 92) dL_comes_82 (by decide) ?_
            exact J _ _ hS (by omega)
  refine L_aload_n dL_comes_0 rfl rfl ?_
  refine L_callS (as := [_]) (c_L_print _ v hv sz ks sw hS) dL_comes_1 ml_L_64 cs_L_print rfl (Nat.le_of_ble_eq_true rfl) (Nat.le_of_ble_eq_true rfl) rfl (fun r h2 hp => ?_)
  obtain ⟨rfl, hS⟩ := hp
  refine L_lstore_n dL_comes_4 rfl (by decide) rfl rfl ?_
  refine L_aload_n dL_comes_5 rfl rfl ?_
  refine L_iload_n dL_comes_6 rfl rfl ?_
  refine L_callV (ci := 5) (as := [_]) (s_stopCell hS (inR_of (by omega) (by omega))) dL_comes_7 ml_L_68 cv_X5_stopCell hS.obj rfl rfl (Nat.le_of_ble_eq_true rfl) (Nat.le_of_ble_eq_true rfl) rfl (fun r h2 hp => ?_)
  obtain ⟨rfl, hS⟩ := hp
  have hsp := stop_is (v := v) hr
  have hst := st_facts v r
  refine L_istore dL_comes_10 (by decide) rfl rfl ?_
  refine L_iload dL_comes_12 rfl ?_
  refine L_fork1 24 (stV v r) (fun h => SYS h v hv sz ks sw) rfl (fun h2 hS => ?_) (fun J => ?_)
  · skip
    refine L_istore dL_comes_24 (by decide) rfl rfl ?_
    refine L_aload_n dL_comes_26 rfl rfl ?_
    refine L_bipush dL_comes_27 rfl ?_
    refine L_callV (ci := 5) (as := [_]) (s_count (y := v 10 0) hS (inR_of (by omega) (by omega)) rfl) dL_comes_29 ml_L_46 cv_X5_count hS.obj rfl rfl (Nat.le_of_ble_eq_true rfl) (Nat.le_of_ble_eq_true rfl) rfl (fun r h2 hp => ?_)
    obtain ⟨rfl, hS⟩ := hp
    refine L_iload_n dL_comes_32 rfl rfl ?_
    refine L_iadd dL_comes_33 ?_
    refine L_aload_n dL_comes_34 rfl rfl ?_
    refine L_iconst dL_comes_35 ?_
    refine L_callV (ci := 5) (as := [_]) (s_count (y := v 11 1) hS (inR_of (by omega) (by omega)) rfl) dL_comes_36 ml_L_46 cv_X5_count hS.obj rfl rfl (Nat.le_of_ble_eq_true rfl) (Nat.le_of_ble_eq_true rfl) rfl (fun r h2 hp => ?_)
    obtain ⟨rfl, hS⟩ := hp
    refine L_isub dL_comes_39 ?_
    refine L_top (y := pushI v r) rfl ?_
    refine L_istore dL_comes_40 (by decide) rfl rfl ?_
    refine L_iload dL_comes_42 rfl ?_
    refine L_top (y := cmV v r ((0 : Nat) : Int)) (cm_0 v r).symm ?_
    refine L_istore dL_comes_44 (by decide) rfl rfl ?_
    refine L_iconst dL_comes_46 ?_
    refine L_istore dL_comes_47 (by decide) rfl rfl ?_
    refine L_iconst dL_comes_49 ?_
    refine L_istore dL_comes_50 (by decide) rfl rfl ?_
    exact L 41 0 _ hS (by omega) (by omega)
  · skip
    refine L_if_ge (tgt := 22) dL_comes_14 (by decide) (inR_of (by omega) (by omega)) (fun hc14 => ?_) (fun hc14 => ?_)
    · skip
      refine L_iload dL_comes_22 rfl ?_
      exact J _ _ hS (by omega)
    · skip
      refine L_bipush dL_comes_17 rfl ?_
      refine L_goto (tgt := 24) dL_comes_19 (by decide) ?_
      exact J _ _ hS (by omega)
