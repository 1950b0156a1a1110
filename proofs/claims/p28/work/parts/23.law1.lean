/-! the law: what its small methods answer -/
/-- a number whose range is not known, told by one that is an int -/
theorem L_norm {Ω : GP → State → Array Value → Method → Prop} {R : Room} {F : Nat} {Z : GP → State → Array Value → List Frame → State → Prop} {cc : ByteArray} {nL : Nat} {h : List PO} {pc : Nat} {lv : List (Option PW)} {st : List PW} {z : Int} (k : ∀ x : Int, inR x → GL Ω R F Z cc nL h pc lv (w_ x :: st)) : GL Ω R F Z cc nL h pc lv (w_ z :: st) := by
  intro g p l e s m args below meth c H locs ls hO hR M E hK hP hD hS hl
  have e1 : tw g (w_ z) = tw g (w_ (I z).toInt) := by
    show Value.int (I z) = Value.int (I (I z).toInt)
    rw [I_toInt']
  have k1 := k (I z).toInt (inR_I _) g p l e s m args below meth c H locs ls hO hR M E hK hP hD hS hl
  simp only [List.map_cons] at k1 ⊢
  rw [e1]
  exact k1
theorem cl_L_60 : Cond.constantLong RL 60 11 ∈ GW := gw_at 426 (by decide +kernel) (by decide +kernel)
theorem cl_L_62 : Cond.constantLong RL 62 31 ∈ GW := gw_at 427 (by decide +kernel) (by decide +kernel)
def lowI (x n : Int) : Int := andI x % n
theorem lowI_rng (x : Int) {n : Int} (h : 0 < n) : 0 ≤ lowI x n ∧ lowI x n < n := ⟨Int.emod_nonneg _ (by omega), Int.emod_lt_of_pos _ h⟩
set_option maxRecDepth 100000 in
set_option maxHeartbeats 8000000 in
theorem c_L_low (h : List PO) (x n : Int) (hn : 1 ≤ n ∧ n ≤ 100) : PMw 0 yL_low cL_low 2 (some .int) h [i_ x, i_ n] (fun r0 h2 => r0 = some (w_ (lowI x n)) ∧ h = h2) := by
  refine PMw_of [some (w_ x), some (w_ n)] rfl (by decide +kernel) (Nat.le_of_ble_eq_true rfl) rfl ?_
  refine L_iload_n dL_low_0 rfl rfl ?_
  refine L_ldc dL_low_1 cn_L_9 ?_
  refine L_iand dL_low_3 ?_
  have ha := andI_rng x
  refine L_iload_n dL_low_4 rfl rfl ?_
  refine L_irem dL_low_5 (by omega) (inR_of (by omega) (by omega)) (by omega) (inR_of (by omega) (by omega)) ?_
  refine M_ireturn dL_low_6 rfl ?_
  exact ⟨rfl, rfl⟩
set_option maxRecDepth 100000 in
theorem L_cellA {Ω : GP → State → Array Value → Method → Prop} {R : Room} {F : Nat} {Z : GP → State → Array Value → List Frame → State → Prop} {h : List PO} {k : Int} (h0 : 0 ≤ k) (h1 : k ≤ 100) (kt : ∀ x : Int, inR x → GL Ω R F Z cL_cell 2 h 21 [some (p_ rZs), some (w_ k)] [w_ x]) (kf : GL Ω R F Z cL_cell 2 h 12 [some (p_ rZs), some (w_ k)] []) : GL Ω R F Z cL_cell 2 h 0 [some (p_ rZs), some (w_ k)] [] := by
  intro g p l e s m args below meth c H locs ls hO hR M E hK hP hD hS hl
  obtain ⟨L, xs, hL, hT⟩ := E.2.2.2.2.2.2.2
  refine lv_iload_n (x := I k) M.1 M.2.1 dL_cell_0 rfl (lwh_at (v := w_ k) hl rfl) ?_
  refine lv_aload_n (x := gad g rZs) M.1 M.2.1 dL_cell_1 rfl (lwh_at (v := p_ rZs) hl rfl) ?_
  refine va_tlen (A := gA g) M.1 M.2.1 hT hS (v := I (L : Int)) (by unfold I; rw [Int32.ofInt_eq_ofNat]) dL_cell_2 ?_
  refine lv_icmp_ge (tgt := 12) (x := I k) (y := I (L : Int)) M.1 M.2.1 dL_cell_3 (by decide) (fun q => ?_) (fun q => ?_)
  · exact kf g p l e s m args below meth c H locs ls hO hR M E hK hP hD hS hl
  · have q1 : k < (L : Int) := Int.not_le.mp (fun z => q ((I_le ⟨by omega, by omega⟩ ⟨by omega, by omega⟩).mpr z))
    refine lv_aload_n (x := gad g rZs) M.1 M.2.1 dL_cell_6 rfl (lwh_at (v := p_ rZs) hl rfl) ?_
    refine lv_iload_n (x := I k) M.1 M.2.1 dL_cell_7 rfl (lwh_at (v := w_ k) hl rfl) ?_
    refine va_ti (A := gA g) M.1 M.2.1 hT hS (i := I k) (I_in h0 q1 (by omega)) (v := .int (I (xs (I k).toNatClampNeg).toInt)) (by rw [I_toInt']) dL_cell_8 ?_
    refine lv_goto (tgt := 21) M.1 M.2.1 dL_cell_9 (by decide) ?_
    exact kt _ (inR_I _) g p l e s m args below meth c H locs ls hO hR M E hK hP hD hS hl
set_option maxRecDepth 100000 in
set_option maxHeartbeats 8000000 in
theorem c_L_cell (h : List PO) (k : Int) (h0 : 0 ≤ k) (h1 : k ≤ 100) : PMw 0 yL_cell cL_cell 2 (some .int) h [r_ rZs, i_ k] (fun r0 h2 => ∃ x : Int, inR x ∧ r0 = some (w_ x) ∧ h = h2) := by
  refine PMw_of [some (p_ rZs), some (w_ k)] rfl (by decide +kernel) (Nat.le_of_ble_eq_true rfl) rfl ?_
  refine L_cellA h0 h1 (fun x hx => ?_) ?_
  · refine M_ireturn dL_cell_21 rfl ?_
    exact ⟨x, hx, rfl, rfl⟩
  · refine L_ldc dL_cell_12 cn_L_7 ?_
    refine L_iload_n dL_cell_14 rfl rfl ?_
    refine L_iconst dL_cell_15 ?_
    refine L_iadd dL_cell_16 ?_
    refine L_imul dL_cell_17 ?_
    refine L_ldc dL_cell_18 cn_L_8 ?_
    refine L_iadd dL_cell_20 ?_
    refine L_norm (fun x hx => ?_)
    refine M_ireturn dL_cell_21 rfl ?_
    exact ⟨x, hx, rfl, rfl⟩
theorem reachN_is {q : Int → Int} : ∀ n : Nat, reachN q n = -5 ∨ 0 ≤ reachN q n ∧ reachN q n < n ∧ 0 < q (reachN q n) := by
  intro n
  induction n with
  | zero => exact Or.inl rfl
  | succ n ih =>
    have e : reachN q (n + 1) = if 0 < q n then (n : Int) else reachN q n := rfl
    by_cases z : 0 < q n
    · rw [e, if_pos z]; exact Or.inr ⟨by omega, by omega, z⟩
    · rw [e, if_neg z]
      rcases ih with a | ⟨a, b, d⟩
      · exact Or.inl a
      · exact Or.inr ⟨a, by omega, d⟩
set_option maxRecDepth 100000 in
set_option maxHeartbeats 8000000 in
theorem c_L_bed (h : List PO) (v : SV) (hv : Int → SV) (sz ks : Int) (sw : SV) (hS : SYS h v hv sz ks sw) : PMw 6 yL_bed cL_bed 8 (some .boolean) h [r_ 0] (fun r0 h2 => r0 = some (w_ 1) ∧ SYS h2 v hv sz ks sw) := by
  refine PMw_of [some (p_ 0), none, none, none, none, none, none, none] rfl (by decide +kernel) (Nat.le_of_ble_eq_true rfl) rfl ?_
  have L : ∀ (fu : Nat) (k : Nat) (hh : List PO), SYS hh v hv sz ks sw → k ≤ 40 → 40 - k < fu → GM 6 cL_bed 8 (some .boolean) hh 13 [some (p_ 0), some (w_ (sumN (wetI (v 2)) k)), some (w_ (sumN (v 2) k)), some (w_ (reachN (v 2) k)), some (w_ (cntB (v 4) (v 11 0).toNat k)), some (w_ (k : Int)), none, none] [] (fun r0 h2 => r0 = some (w_ 1) ∧ SYS h2 v hv sz ks sw) := by
    intro fu
    induction fu with
    | zero => intro k hh hS hk hmeas; exfalso; omega
    | succ fu ih =>
      intro k hh hS hk hmeas
      refine L_iload dL_bed_13 rfl ?_
      refine L_bipush dL_bed_15 rfl ?_
      refine L_icmp_ge (tgt := 183) dL_bed_17 (by decide) (inR_of (by omega) (by omega)) (inR_of (by omega) (by omega)) (fun hc17 => ?_) (fun hc17 => ?_)
      · skip
        have hk : k = 40 := by omega
        subst hk
        have hrc := reachN_is (q := v 2) 40
        have hrg := hS.gen
        have hrf : reachN (v 2) 40 ≤ v 11 3 := by
          rcases hrc with z | ⟨z0, z1, z2⟩
          · omega
          · exact (hS.bed z0 (by omega)).2.2.2.2 z2
        refine L_aload_n dL_bed_183 rfl rfl ?_
        refine L_callV (ci := 5) (as := []) (s_reach hS) dL_bed_184 ml_L_52 cv_X5_reach hS.obj rfl rfl (Nat.le_of_ble_eq_true rfl) (Nat.le_of_ble_eq_true rfl) rfl (fun r h2 hp => ?_)
        obtain ⟨rfl, hS⟩ := hp
        refine L_iload_n dL_bed_187 rfl rfl ?_
        refine L_icmp_neE dL_bed_188 (by decide) (rfl) ?_
        refine L_aload_n dL_bed_191 rfl rfl ?_
        refine L_iconst dL_bed_192 ?_
        refine L_callV (ci := 5) (as := [_]) (s_count (y := sumN (wetI (v 2)) 40) hS (inR_of (by omega) (by omega)) rfl) dL_bed_193 ml_L_46 cv_X5_count hS.obj rfl rfl (Nat.le_of_ble_eq_true rfl) (Nat.le_of_ble_eq_true rfl) rfl (fun r h2 hp => ?_)
        obtain ⟨rfl, hS⟩ := hp
        refine L_iload_n dL_bed_196 rfl rfl ?_
        refine L_icmp_neE dL_bed_197 (by decide) (rfl) ?_
        refine L_aload_n dL_bed_200 rfl rfl ?_
        refine L_iconst dL_bed_201 ?_
        refine L_callV (ci := 5) (as := [_]) (s_count (y := sumN (v 2) 40) hS (inR_of (by omega) (by omega)) rfl) dL_bed_202 ml_L_46 cv_X5_count hS.obj rfl rfl (Nat.le_of_ble_eq_true rfl) (Nat.le_of_ble_eq_true rfl) rfl (fun r h2 hp => ?_)
        obtain ⟨rfl, hS⟩ := hp
        refine L_iload_n dL_bed_205 rfl rfl ?_
        refine L_icmp_neE dL_bed_206 (by decide) (rfl) ?_
        refine L_aload_n dL_bed_209 rfl rfl ?_
        refine L_iconst dL_bed_210 ?_
        refine L_callV (ci := 5) (as := [_]) (s_count (y := v 11 0) hS (inR_of (by omega) (by omega)) rfl) dL_bed_211 ml_L_46 cv_X5_count hS.obj rfl rfl (Nat.le_of_ble_eq_true rfl) (Nat.le_of_ble_eq_true rfl) rfl (fun r h2 hp => ?_)
        obtain ⟨rfl, hS⟩ := hp
        refine L_iload dL_bed_214 rfl ?_
        refine L_icmp_neE dL_bed_216 (by decide) (by rw [cntB_is (v 11 0).toNat (fun w a b => (hS.wel a (by omega)).1) (fun w u a b c d => hS.inj w u a (by omega) c (by omega))]; omega) ?_
        refine L_aload_n dL_bed_219 rfl rfl ?_
        refine L_bipush dL_bed_220 rfl ?_
        refine L_callV (ci := 5) (as := [_]) (s_count (y := v 11 3) hS (inR_of (by omega) (by omega)) rfl) dL_bed_222 ml_L_46 cv_X5_count hS.obj rfl rfl (Nat.le_of_ble_eq_true rfl) (Nat.le_of_ble_eq_true rfl) rfl (fun r h2 hp => ?_)
        obtain ⟨rfl, hS⟩ := hp
        refine L_bipush dL_bed_225 rfl ?_
        refine L_icmp_ge (tgt := 244) dL_bed_227 (by decide) (inR_of (by omega) (by omega)) (inR_of (by omega) (by omega)) (fun hc227 => ?_) (fun hc227 => ?_)
        · skip
          exfalso; omega
        · skip
          refine L_aload_n dL_bed_230 rfl rfl ?_
          refine L_bipush dL_bed_231 rfl ?_
          refine L_callV (ci := 5) (as := [_]) (s_count (y := v 11 3) hS (inR_of (by omega) (by omega)) rfl) dL_bed_233 ml_L_46 cv_X5_count hS.obj rfl rfl (Nat.le_of_ble_eq_true rfl) (Nat.le_of_ble_eq_true rfl) rfl (fun r h2 hp => ?_)
          obtain ⟨rfl, hS⟩ := hp
          refine L_iload_n dL_bed_236 rfl rfl ?_
          refine L_icmp_lt (tgt := 244) dL_bed_237 (by decide) (inR_of (by omega) (by omega)) (inR_of (by omega) (by omega)) (fun hc237 => ?_) (fun hc237 => ?_)
          · skip
            exfalso; omega
          · skip
            refine L_iconst dL_bed_240 ?_
            refine L_goto (tgt := 245) dL_bed_241 (by decide) ?_
            refine M_zreturn dL_bed_245 rfl (Or.inr rfl) ?_
            exact ⟨rfl, hS⟩
      · skip
        have hb := hS.bed (c := (k : Int)) (by omega) (by omega)
        have hg := hS.gen
        have hbs := besN_is (q := v 4) (c := (k : Int)) (v 11 0).toNat
        refine L_aload_n dL_bed_20 rfl rfl ?_
        refine L_iload dL_bed_21 rfl ?_
        refine L_iconst dL_bed_23 ?_
        refine L_callV (ci := 5) (as := [_, _]) (s_cell hS (inR_of (by omega) (by omega)) (inR_of (by omega) (by omega)) (cell_2 (by omega) (by omega))) dL_bed_24 ml_L_43 cv_X5_cell hS.obj rfl rfl (Nat.le_of_ble_eq_true rfl) (Nat.le_of_ble_eq_true rfl) rfl (fun r h2 hp => ?_)
        obtain ⟨rfl, hS⟩ := hp
        refine L_istore dL_bed_27 (by decide) rfl rfl ?_
        refine L_aload_n dL_bed_29 rfl rfl ?_
        refine L_iload dL_bed_30 rfl ?_
        refine L_iconst dL_bed_32 ?_
        refine L_callV (ci := 5) (as := [_, _]) (s_cell hS (inR_of (by omega) (by omega)) (inR_of (by omega) (by omega)) (cell_3 (by omega) (by omega))) dL_bed_33 ml_L_43 cv_X5_cell hS.obj rfl rfl (Nat.le_of_ble_eq_true rfl) (Nat.le_of_ble_eq_true rfl) rfl (fun r h2 hp => ?_)
        obtain ⟨rfl, hS⟩ := hp
        refine L_istore dL_bed_36 (by decide) rfl rfl ?_
        refine L_iload_n dL_bed_38 rfl rfl ?_
        refine L_iload dL_bed_39 rfl ?_
        refine L_fork1 49 (wetI (v 2) k) (fun h => SYS h v hv sz ks sw) rfl (fun h2 hS => ?_) (fun J => ?_)
        · skip
          refine L_iadd dL_bed_49 ?_
          refine L_istore_n dL_bed_50 rfl (by decide) rfl rfl ?_
          refine L_iload_n dL_bed_51 rfl rfl ?_
          refine L_iload dL_bed_52 rfl ?_
          refine L_iadd dL_bed_54 ?_
          refine L_istore_n dL_bed_55 rfl (by decide) rfl rfl ?_
          refine L_iload dL_bed_56 rfl ?_
          refine L_fork1 67 (if 0 < v 2 k then (k : Int) else reachN (v 2) k) (fun h => SYS h v hv sz ks sw) rfl (fun h2 hS => ?_) (fun J => ?_)
          · skip
            refine L_istore_n dL_bed_67 rfl (by decide) rfl rfl ?_
            refine L_iload dL_bed_68 rfl ?_
            refine L_iload dL_bed_70 rfl ?_
            refine L_fork1 80 (if 0 ≤ besN (v 4) (k : Int) (v 11 0).toNat then 1 else 0) (fun h => SYS h v hv sz ks sw) rfl (fun h2 hS => ?_) (fun J => ?_)
            · skip
              refine L_iadd dL_bed_80 ?_
              refine L_istore dL_bed_81 (by decide) rfl rfl ?_
              refine L_iload dL_bed_83 rfl ?_
              refine L_if_lt (tgt := 175) dL_bed_85 (by decide) (inR_of (by omega) (by omega)) (fun hc85 => ?_) (fun hc85 => ?_)
              · skip
                exfalso; omega
              · skip
                refine L_iload dL_bed_88 rfl ?_
                refine L_aload_n dL_bed_90 rfl rfl ?_
                refine L_iload dL_bed_91 rfl ?_
                refine L_iconst dL_bed_93 ?_
                refine L_callV (ci := 5) (as := [_, _]) (s_cell hS (inR_of (by omega) (by omega)) (inR_of (by omega) (by omega)) (cell_0 (by omega) (by omega))) dL_bed_94 ml_L_43 cv_X5_cell hS.obj rfl rfl (Nat.le_of_ble_eq_true rfl) (Nat.le_of_ble_eq_true rfl) rfl (fun r h2 hp => ?_)
                obtain ⟨rfl, hS⟩ := hp
                refine L_icmp_gt (tgt := 175) dL_bed_97 (by decide) (inR_of (by omega) (by omega)) (inR_of (by omega) (by omega)) (fun hc97 => ?_) (fun hc97 => ?_)
                · skip
                  exfalso; omega
                · skip
                  refine L_aload_n dL_bed_100 rfl rfl ?_
                  refine L_iload dL_bed_101 rfl ?_
                  refine L_iconst dL_bed_103 ?_
                  refine L_callV (ci := 5) (as := [_, _]) (s_cell hS (inR_of (by omega) (by omega)) (inR_of (by omega) (by omega)) (cell_1 (by omega) (by omega))) dL_bed_104 ml_L_43 cv_X5_cell hS.obj rfl rfl (Nat.le_of_ble_eq_true rfl) (Nat.le_of_ble_eq_true rfl) rfl (fun r h2 hp => ?_)
                  obtain ⟨rfl, hS⟩ := hp
                  refine L_aload_n dL_bed_107 rfl rfl ?_
                  refine L_iload dL_bed_108 rfl ?_
                  refine L_iconst dL_bed_110 ?_
                  refine L_callV (ci := 5) (as := [_, _]) (s_cell hS (inR_of (by omega) (by omega)) (inR_of (by omega) (by omega)) (cell_0 (by omega) (by omega))) dL_bed_111 ml_L_43 cv_X5_cell hS.obj rfl rfl (Nat.le_of_ble_eq_true rfl) (Nat.le_of_ble_eq_true rfl) rfl (fun r h2 hp => ?_)
                  obtain ⟨rfl, hS⟩ := hp
                  refine L_icmp_gt (tgt := 175) dL_bed_114 (by decide) (inR_of (by omega) (by omega)) (inR_of (by omega) (by omega)) (fun hc114 => ?_) (fun hc114 => ?_)
                  · skip
                    exfalso; omega
                  · skip
                    refine L_aload_n dL_bed_117 rfl rfl ?_
                    refine L_iload dL_bed_118 rfl ?_
                    refine L_iconst dL_bed_120 ?_
                    refine L_callV (ci := 5) (as := [_, _]) (s_cell hS (inR_of (by omega) (by omega)) (inR_of (by omega) (by omega)) (cell_4 (by omega) (by omega))) dL_bed_121 ml_L_43 cv_X5_cell hS.obj rfl rfl (Nat.le_of_ble_eq_true rfl) (Nat.le_of_ble_eq_true rfl) rfl (fun r h2 hp => ?_)
                    obtain ⟨rfl, hS⟩ := hp
                    refine L_if_lt (tgt := 175) dL_bed_124 (by decide) (inR_of (by omega) (by omega)) (fun hc124 => ?_) (fun hc124 => ?_)
                    · skip
                      exfalso; omega
                    · skip
                      refine L_aload_n dL_bed_127 rfl rfl ?_
                      refine L_iload dL_bed_128 rfl ?_
                      refine L_iconst dL_bed_130 ?_
                      refine L_callV (ci := 5) (as := [_, _]) (s_cell hS (inR_of (by omega) (by omega)) (inR_of (by omega) (by omega)) (cell_4 (by omega) (by omega))) dL_bed_131 ml_L_43 cv_X5_cell hS.obj rfl rfl (Nat.le_of_ble_eq_true rfl) (Nat.le_of_ble_eq_true rfl) rfl (fun r h2 hp => ?_)
                      obtain ⟨rfl, hS⟩ := hp
                      refine L_aload_n dL_bed_134 rfl rfl ?_
                      refine L_iconst dL_bed_135 ?_
                      refine L_callV (ci := 5) (as := [_]) (s_count (y := v 11 2) hS (inR_of (by omega) (by omega)) rfl) dL_bed_136 ml_L_46 cv_X5_count hS.obj rfl rfl (Nat.le_of_ble_eq_true rfl) (Nat.le_of_ble_eq_true rfl) rfl (fun r h2 hp => ?_)
                      obtain ⟨rfl, hS⟩ := hp
                      refine L_icmp_gt (tgt := 175) dL_bed_139 (by decide) (inR_of (by omega) (by omega)) (inR_of (by omega) (by omega)) (fun hc139 => ?_) (fun hc139 => ?_)
                      · skip
                        exfalso; omega
                      · skip
                        refine L_iload dL_bed_142 rfl ?_
                        refine L_if_lt (tgt := 159) dL_bed_144 (by decide) (inR_of (by omega) (by omega)) (fun hc144 => ?_) (fun hc144 => ?_)
                        · skip
                          refine L_iload dL_bed_159 rfl ?_
                          refine L_aload_n dL_bed_161 rfl rfl ?_
                          refine L_bipush dL_bed_162 rfl ?_
                          refine L_callV (ci := 5) (as := [_]) (s_count (y := v 11 3) hS (inR_of (by omega) (by omega)) rfl) dL_bed_164 ml_L_46 cv_X5_count hS.obj rfl rfl (Nat.le_of_ble_eq_true rfl) (Nat.le_of_ble_eq_true rfl) rfl (fun r h2 hp => ?_)
                          obtain ⟨rfl, hS⟩ := hp
                          refine L_icmp_le (tgt := 177) dL_bed_167 (by decide) (inR_of (by omega) (by omega)) (inR_of (by omega) (by omega)) (fun hc167 => ?_) (fun hc167 => ?_)
                          · skip
                            refine L_iinc dL_bed_177 (by decide) rfl rfl rfl ?_
                            refine L_goto (tgt := 13) dL_bed_180 (by decide) ?_
                            refine L_forget 6 rfl ?_
                            refine L_forget 7 rfl ?_
                            exact ih (k + 1) _ hS (by omega) (by omega)
                          · skip
                            refine L_iload dL_bed_170 rfl ?_
                            refine L_if_le (tgt := 177) dL_bed_172 (by decide) (inR_of (by omega) (by omega)) (fun hc172 => ?_) (fun hc172 => ?_)
                            · skip
                              refine L_iinc dL_bed_177 (by decide) rfl rfl rfl ?_
                              refine L_goto (tgt := 13) dL_bed_180 (by decide) ?_
                              refine L_forget 6 rfl ?_
                              refine L_forget 7 rfl ?_
                              exact ih (k + 1) _ hS (by omega) (by omega)
                            · skip
                              exfalso; omega
                        · skip
                          refine L_aload_n dL_bed_147 rfl rfl ?_
                          refine L_iload dL_bed_148 rfl ?_
                          refine L_iconst dL_bed_150 ?_
                          refine L_callV (ci := 5) (as := [_, _]) (s_well hS (inR_of (by omega) (by omega)) (inR_of (by omega) (by omega)) (well_0 (by omega) (by omega))) dL_bed_151 ml_L_49 cv_X5_well hS.obj rfl rfl (Nat.le_of_ble_eq_true rfl) (Nat.le_of_ble_eq_true rfl) rfl (fun r h2 hp => ?_)
                          obtain ⟨rfl, hS⟩ := hp
                          refine L_iload dL_bed_154 rfl ?_
                          refine L_icmp_neE dL_bed_156 (by decide) (by rcases hbs with z | z; omega; exact z.2.2) ?_
                          refine L_iload dL_bed_159 rfl ?_
                          refine L_aload_n dL_bed_161 rfl rfl ?_
                          refine L_bipush dL_bed_162 rfl ?_
                          refine L_callV (ci := 5) (as := [_]) (s_count (y := v 11 3) hS (inR_of (by omega) (by omega)) rfl) dL_bed_164 ml_L_46 cv_X5_count hS.obj rfl rfl (Nat.le_of_ble_eq_true rfl) (Nat.le_of_ble_eq_true rfl) rfl (fun r h2 hp => ?_)
                          obtain ⟨rfl, hS⟩ := hp
                          refine L_icmp_le (tgt := 177) dL_bed_167 (by decide) (inR_of (by omega) (by omega)) (inR_of (by omega) (by omega)) (fun hc167 => ?_) (fun hc167 => ?_)
                          · skip
                            refine L_iinc dL_bed_177 (by decide) rfl rfl rfl ?_
                            refine L_goto (tgt := 13) dL_bed_180 (by decide) ?_
                            refine L_forget 6 rfl ?_
                            refine L_forget 7 rfl ?_
                            exact ih (k + 1) _ hS (by omega) (by omega)
                          · skip
                            refine L_iload dL_bed_170 rfl ?_
                            refine L_if_le (tgt := 177) dL_bed_172 (by decide) (inR_of (by omega) (by omega)) (fun hc172 => ?_) (fun hc172 => ?_)
                            · skip
                              refine L_iinc dL_bed_177 (by decide) rfl rfl rfl ?_
                              refine L_goto (tgt := 13) dL_bed_180 (by decide) ?_
                              refine L_forget 6 rfl ?_
                              refine L_forget 7 rfl ?_
                              exact ih (k + 1) _ hS (by omega) (by omega)
                            · skip
                              exfalso; omega
            · skip
              refine L_if_lt (tgt := 79) dL_bed_72 (by decide) (inR_of (by omega) (by omega)) (fun hc72 => ?_) (fun hc72 => ?_)
              · skip
                refine L_iconst dL_bed_79 ?_
                exact J _ _ hS (by first | exact (if_pos (by omega)).symm | exact (if_neg (by omega)).symm)
              · skip
                refine L_iconst dL_bed_75 ?_
                refine L_goto (tgt := 80) dL_bed_76 (by decide) ?_
                exact J _ _ hS (by first | exact (if_pos (by omega)).symm | exact (if_neg (by omega)).symm)
          · skip
            refine L_if_le (tgt := 66) dL_bed_58 (by decide) (inR_of (by omega) (by omega)) (fun hc58 => ?_) (fun hc58 => ?_)
            · skip
              refine L_iload_n dL_bed_66 rfl rfl ?_
              exact J _ _ hS (by first | exact (if_pos (by omega)).symm | exact (if_neg (by omega)).symm)
            · skip
              refine L_iload dL_bed_61 rfl ?_
              refine L_goto (tgt := 67) dL_bed_63 (by decide) ?_
              exact J _ _ hS (by first | exact (if_pos (by omega)).symm | exact (if_neg (by omega)).symm)
        · skip
          refine L_if_le (tgt := 48) dL_bed_41 (by decide) (inR_of (by omega) (by omega)) (fun hc41 => ?_) (fun hc41 => ?_)
          · skip
            refine L_iconst dL_bed_48 ?_
            exact J _ _ hS (by unfold wetI; first | exact (if_pos (by omega)).symm | exact (if_neg (by omega)).symm)
          · skip
            refine L_iconst dL_bed_44 ?_
            refine L_goto (tgt := 49) dL_bed_45 (by decide) ?_
            exact J _ _ hS (by unfold wetI; first | exact (if_pos (by omega)).symm | exact (if_neg (by omega)).symm)
  refine L_iconst dL_bed_0 ?_
  refine L_istore_n dL_bed_1 rfl (by decide) rfl rfl ?_
  refine L_iconst dL_bed_2 ?_
  refine L_istore_n dL_bed_3 rfl (by decide) rfl rfl ?_
  refine L_bipush dL_bed_4 rfl ?_
  refine L_istore_n dL_bed_6 rfl (by decide) rfl rfl ?_
  refine L_iconst dL_bed_7 ?_
  refine L_istore dL_bed_8 (by decide) rfl rfl ?_
  refine L_iconst dL_bed_10 ?_
  refine L_istore dL_bed_11 (by decide) rfl rfl ?_
  exact L 41 0 _ hS (by omega) (by omega)
