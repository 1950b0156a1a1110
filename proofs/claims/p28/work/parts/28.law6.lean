/-! the law: an act by two numbers of the script -/
def aN (x : Int) : Int := if lowI (shrI x 10) 3 = 0 then 40 else 10
def dN (y : Int) : Int := if lowI (shrI y 9) 2 = 0 then 60 else 25
def tN (y : Int) : Int := if lowI (shrI y 8) 4 = 0 then 60 else 6
def sN (y : Int) : Int := if lowI y 3 = 0 then lowI (shrI y 2) 61 else if lowI y 3 = 1 then lowI (shrI y 2) 4 else 1 + lowI (shrI y 2) 20
def opK (k x y : Int) : OP :=
  if k = 0 then (0, lowI (shrI x 4) (aN x), 1 + lowI y (dN y))
  else if k = 1 then (1, lowI (shrI x 4) (aN x), lowI y 22)
  else if k = 2 then (2, lowI y 30, 0)
  else if k = 3 then (3, lowI y 3, sN y)
  else if k = 4 ∨ k = 5 ∨ k = 6 then (4, lowI (shrI x 4) (aN x), 1 + lowI y 30)
  else if k = 7 then (if lowI y 3 = 0 then (5, lowI (shrI y 2) 6, 0) else (6, lowI (shrI y 2) 6, 1 + lowI (shrI y 5) 30))
  else (7, lowI (shrI x 4) 61 - 30, 1 + lowI y (tN y))
def opA (x y : Int) : OP := opK (lowI x 14) x y
theorem aN_rng (x : Int) : aN x = 40 ∨ aN x = 10 := by unfold aN; split <;> omega
theorem dN_rng (x : Int) : dN x = 60 ∨ dN x = 25 := by unfold dN; split <;> omega
theorem tN_rng (x : Int) : tN x = 60 ∨ tN x = 6 := by unfold tN; split <;> omega
theorem sN_rng (y : Int) : 0 ≤ sN y ∧ sN y ≤ 60 := by
  have a := lowI_rng (shrI y 2) (n := 61) (by omega)
  have b := lowI_rng (shrI y 2) (n := 4) (by omega)
  have c := lowI_rng (shrI y 2) (n := 20) (by omega)
  unfold sN
  split
  · omega
  · split <;> omega
theorem opA_60 (x y : Int) : (opA x y).2.2 ≤ 60 := by
  have a := lowI_rng y (n := dN y) (by have := dN_rng y; omega)
  have a2 := dN_rng y
  have b := lowI_rng y (n := 22) (by omega)
  have c := sN_rng y
  have d := lowI_rng y (n := 30) (by omega)
  have e := lowI_rng (shrI y 5) (n := 30) (by omega)
  have f := lowI_rng y (n := tN y) (by have := tN_rng y; omega)
  have f2 := tN_rng y
  unfold opA opK
  split
  · show 1 + lowI y (dN y) ≤ 60; omega
  · split
    · show lowI y 22 ≤ 60; omega
    · split
      · show (0 : Int) ≤ 60; omega
      · split
        · exact c.2
        · split
          · show 1 + lowI y 30 ≤ 60; omega
          · split
            · split
              · show (0 : Int) ≤ 60; omega
              · show 1 + lowI (shrI y 5) 30 ≤ 60; omega
            · show 1 + lowI y (tN y) ≤ 60; omega
set_option maxRecDepth 100000 in
set_option maxHeartbeats 8000000 in
theorem c_L_act (h : List PO) (v : SV) (hv : Int → SV) (sz ks : Int) (sw : SV) (x y : Int) (hS : SYS h v hv sz ks sw) : PMw 8 yL_act cL_act 5 (some .int) h [r_ 0, i_ x, i_ y] (fun r0 h2 => r0 = some (w_ (opR v (opA x y))) ∧ SYS h2 (opV v (opA x y)) (hvA hv sz v (opR v (opA x y))) (szA sz (opR v (opA x y))) ks sw) := by
  refine PMw_of [some (p_ 0), some (w_ x), some (w_ y), none, none] rfl (by decide +kernel) (Nat.le_of_ble_eq_true rfl) rfl ?_
  have r1 := aN_rng x
  have r2 := dN_rng y
  have r3 := tN_rng y
  have r4 := sN_rng y
  have q1 := lowI_rng (shrI x 10) (n := 3) (by omega)
  have q2 := lowI_rng (shrI x 4) (n := aN x) (by omega)
  have q3 := lowI_rng x (n := 14) (by omega)
  have q4 := lowI_rng (shrI y 9) (n := 2) (by omega)
  have q5 := lowI_rng y (n := dN y) (by omega)
  have q6 := lowI_rng y (n := 22) (by omega)
  have q7 := lowI_rng y (n := 30) (by omega)
  have q8 := lowI_rng y (n := 3) (by omega)
  have q9 := lowI_rng (shrI y 2) (n := 6) (by omega)
  have q10 := lowI_rng (shrI y 5) (n := 30) (by omega)
  have q11 := lowI_rng (shrI x 4) (n := 61) (by omega)
  have q12 := lowI_rng (shrI y 8) (n := 4) (by omega)
  have q13 := lowI_rng y (n := tN y) (by omega)
  refine L_iload_n dL_act_0 rfl rfl ?_
  refine L_iconst dL_act_1 ?_
  refine L_ishr dL_act_2 ?_
  refine L_iload_n dL_act_3 rfl rfl ?_
  refine L_bipush dL_act_4 rfl ?_
  refine L_ishr dL_act_6 ?_
  refine L_iconst dL_act_7 ?_
  refine L_callS (as := [_, _]) (c_L_low _ _ _ (by omega)) dL_act_8 ml_L_10 cs_L_low rfl (Nat.le_of_ble_eq_true rfl) (Nat.le_of_ble_eq_true rfl) rfl (fun r h2 hp => ?_)
  obtain ⟨rfl, rfl⟩ := hp
  refine L_fork1 21 (aN x) (fun h => SYS h v hv sz ks sw) rfl (fun h2 hS => ?_) (fun J => ?_)
  · skip
    refine L_callS (as := [_, _]) (c_L_low _ _ _ (by omega)) dL_act_21 ml_L_10 cs_L_low rfl (Nat.le_of_ble_eq_true rfl) (Nat.le_of_ble_eq_true rfl) rfl (fun r h2 hp => ?_)
    obtain ⟨rfl, rfl⟩ := hp
    refine L_istore_n dL_act_24 rfl (by decide) rfl rfl ?_
    refine L_iload_n dL_act_25 rfl rfl ?_
    refine L_bipush dL_act_26 rfl ?_
    refine L_callS (as := [_, _]) (c_L_low _ _ _ (by omega)) dL_act_28 ml_L_10 cs_L_low rfl (Nat.le_of_ble_eq_true rfl) (Nat.le_of_ble_eq_true rfl) rfl (fun r h2 hp => ?_)
    obtain ⟨rfl, rfl⟩ := hp
    rcases (show (lowI x 14 < 0 ∨ 7 < lowI x 14) ∨ lowI x 14 = 0 ∨ lowI x 14 = 1 ∨ lowI x 14 = 2 ∨ lowI x 14 = 3 ∨ lowI x 14 = 4 ∨ lowI x 14 = 5 ∨ lowI x 14 = 6 ∨ lowI x 14 = 7 from by omega) with hsw | hsw | hsw | hsw | hsw | hsw | hsw | hsw | hsw
    · skip
      refine L_tblOut (tgt := 245) dL_act_31 (inR_of (by omega) (by omega)) hsw (by decide) ?_
      refine L_aload_n dL_act_245 rfl rfl ?_
      refine L_iload_n dL_act_246 rfl rfl ?_
      refine L_iconst dL_act_247 ?_
      refine L_ishr dL_act_248 ?_
      refine L_bipush dL_act_249 rfl ?_
      refine L_callS (as := [_, _]) (c_L_low _ _ _ (by omega)) dL_act_251 ml_L_10 cs_L_low rfl (Nat.le_of_ble_eq_true rfl) (Nat.le_of_ble_eq_true rfl) rfl (fun r h2 hp => ?_)
      obtain ⟨rfl, rfl⟩ := hp
      refine L_bipush dL_act_254 rfl ?_
      refine L_isub dL_act_256 ?_
      refine L_iconst dL_act_257 ?_
      refine L_iload_n dL_act_258 rfl rfl ?_
      refine L_iload_n dL_act_259 rfl rfl ?_
      refine L_bipush dL_act_260 rfl ?_
      refine L_ishr dL_act_262 ?_
      refine L_iconst dL_act_263 ?_
      refine L_callS (as := [_, _]) (c_L_low _ _ _ (by omega)) dL_act_264 ml_L_10 cs_L_low rfl (Nat.le_of_ble_eq_true rfl) (Nat.le_of_ble_eq_true rfl) rfl (fun r h2 hp => ?_)
      obtain ⟨rfl, rfl⟩ := hp
      refine L_fork1 277 (tN y) (fun h => SYS h v hv sz ks sw) rfl (fun h2 hS => ?_) (fun J => ?_)
      · skip
        refine L_callS (as := [_, _]) (c_L_low _ _ _ (by omega)) dL_act_277 ml_L_10 cs_L_low rfl (Nat.le_of_ble_eq_true rfl) (Nat.le_of_ble_eq_true rfl) rfl (fun r h2 hp => ?_)
        obtain ⟨rfl, rfl⟩ := hp
        refine L_iadd dL_act_280 ?_
        refine L_callV (ci := 5) (as := [_, _]) (s_tide hS (inR_of (by omega) (by omega)) (inR_of (by omega) (by omega))) dL_act_281 ml_L_40 cv_X5_tide hS.obj rfl rfl (Nat.le_of_ble_eq_true rfl) (Nat.le_of_ble_eq_true rfl) rfl (fun r h2 hp => ?_)
        obtain ⟨rfl, hS⟩ := hp
        refine M_ireturn dL_act_284 rfl ?_
        have e9 : opA x y = (7, lowI (shrI x 4) 61 - 30, 1 + lowI y (tN y)) := by
          unfold opA opK
          rw [if_neg (show ¬ lowI x 14 = 0 by omega), if_neg (show ¬ lowI x 14 = 1 by omega), if_neg (show ¬ lowI x 14 = 2 by omega), if_neg (show ¬ lowI x 14 = 3 by omega), if_neg (show ¬ (lowI x 14 = 4 ∨ lowI x 14 = 5 ∨ lowI x 14 = 6) by omega), if_neg (show ¬ lowI x 14 = 7 by omega)]
        rw [e9]
        exact ⟨rfl, hS⟩
      · skip
        refine L_if_ne (tgt := 275) dL_act_267 (by decide) (inR_of (by omega) (by omega)) (fun hc267 => ?_) (fun hc267 => ?_)
        · skip
          refine L_bipush dL_act_275 rfl ?_
          exact J _ _ hS (by unfold tN; first | exact (if_pos (by omega)).symm | exact (if_neg (by omega)).symm)
        · skip
          refine L_bipush dL_act_270 rfl ?_
          refine L_goto (tgt := 277) dL_act_272 (by decide) ?_
          exact J _ _ hS (by unfold tN; first | exact (if_pos (by omega)).symm | exact (if_neg (by omega)).symm)
    · skip
      refine L_top hsw ?_
      refine L_tblIn (tgt := 76) dL_act_31 (inR_of (by omega) (by omega)) (by decide) (by decide) rfl (by decide) ?_
      refine L_aload_n dL_act_76 rfl rfl ?_
      refine L_iload_n dL_act_77 rfl rfl ?_
      refine L_iconst dL_act_78 ?_
      refine L_iload_n dL_act_79 rfl rfl ?_
      refine L_iload_n dL_act_80 rfl rfl ?_
      refine L_bipush dL_act_81 rfl ?_
      refine L_ishr dL_act_83 ?_
      refine L_iconst dL_act_84 ?_
      refine L_callS (as := [_, _]) (c_L_low _ _ _ (by omega)) dL_act_85 ml_L_10 cs_L_low rfl (Nat.le_of_ble_eq_true rfl) (Nat.le_of_ble_eq_true rfl) rfl (fun r h2 hp => ?_)
      obtain ⟨rfl, rfl⟩ := hp
      refine L_fork1 98 (dN y) (fun h => SYS h v hv sz ks sw) rfl (fun h2 hS => ?_) (fun J => ?_)
      · skip
        refine L_callS (as := [_, _]) (c_L_low _ _ _ (by omega)) dL_act_98 ml_L_10 cs_L_low rfl (Nat.le_of_ble_eq_true rfl) (Nat.le_of_ble_eq_true rfl) rfl (fun r h2 hp => ?_)
        obtain ⟨rfl, rfl⟩ := hp
        refine L_iadd dL_act_101 ?_
        refine L_callV (ci := 5) (as := [_, _]) (s_dig hS (inR_of (by omega) (by omega)) (inR_of (by omega) (by omega))) dL_act_102 ml_L_16 cv_X5_dig hS.obj rfl rfl (Nat.le_of_ble_eq_true rfl) (Nat.le_of_ble_eq_true rfl) rfl (fun r h2 hp => ?_)
        obtain ⟨rfl, hS⟩ := hp
        refine M_ireturn dL_act_105 rfl ?_
        have e9 : opA x y = (0, lowI (shrI x 4) (aN x), 1 + lowI y (dN y)) := by
          unfold opA
          rw [hsw]
          rfl
        rw [e9]
        exact ⟨rfl, hS⟩
      · skip
        refine L_if_ne (tgt := 96) dL_act_88 (by decide) (inR_of (by omega) (by omega)) (fun hc88 => ?_) (fun hc88 => ?_)
        · skip
          refine L_bipush dL_act_96 rfl ?_
          exact J _ _ hS (by unfold dN; first | exact (if_pos (by omega)).symm | exact (if_neg (by omega)).symm)
        · skip
          refine L_bipush dL_act_91 rfl ?_
          refine L_goto (tgt := 98) dL_act_93 (by decide) ?_
          exact J _ _ hS (by unfold dN; first | exact (if_pos (by omega)).symm | exact (if_neg (by omega)).symm)
    · skip
      refine L_top hsw ?_
      refine L_tblIn (tgt := 106) dL_act_31 (inR_of (by omega) (by omega)) (by decide) (by decide) rfl (by decide) ?_
      refine L_aload_n dL_act_106 rfl rfl ?_
      refine L_iload_n dL_act_107 rfl rfl ?_
      refine L_iload_n dL_act_108 rfl rfl ?_
      refine L_bipush dL_act_109 rfl ?_
      refine L_callS (as := [_, _]) (c_L_low _ _ _ (by omega)) dL_act_111 ml_L_10 cs_L_low rfl (Nat.le_of_ble_eq_true rfl) (Nat.le_of_ble_eq_true rfl) rfl (fun r h2 hp => ?_)
      obtain ⟨rfl, rfl⟩ := hp
      refine L_callV (ci := 5) (as := [_, _]) (s_build hS (inR_of (by omega) (by omega)) (inR_of (by omega) (by omega))) dL_act_114 ml_L_21 cv_X5_build hS.obj rfl rfl (Nat.le_of_ble_eq_true rfl) (Nat.le_of_ble_eq_true rfl) rfl (fun r h2 hp => ?_)
      obtain ⟨rfl, hS⟩ := hp
      refine M_ireturn dL_act_117 rfl ?_
      have e9 : opA x y = (1, lowI (shrI x 4) (aN x), lowI y 22) := by
        unfold opA
        rw [hsw]
        rfl
      rw [e9]
      exact ⟨rfl, hS⟩
    · skip
      refine L_top hsw ?_
      refine L_tblIn (tgt := 118) dL_act_31 (inR_of (by omega) (by omega)) (by decide) (by decide) rfl (by decide) ?_
      refine L_aload_n dL_act_118 rfl rfl ?_
      refine L_iload_n dL_act_119 rfl rfl ?_
      refine L_bipush dL_act_120 rfl ?_
      refine L_callS (as := [_, _]) (c_L_low _ _ _ (by omega)) dL_act_122 ml_L_10 cs_L_low rfl (Nat.le_of_ble_eq_true rfl) (Nat.le_of_ble_eq_true rfl) rfl (fun r h2 hp => ?_)
      obtain ⟨rfl, rfl⟩ := hp
      refine L_callV (ci := 5) (as := [_]) (s_flow hS (inR_of (by omega) (by omega))) dL_act_125 ml_L_24 cv_X5_flow hS.obj rfl rfl (Nat.le_of_ble_eq_true rfl) (Nat.le_of_ble_eq_true rfl) rfl (fun r h2 hp => ?_)
      obtain ⟨rfl, hS⟩ := hp
      refine M_ireturn dL_act_128 rfl ?_
      have e9 : opA x y = (2, lowI y 30, 0) := by
        unfold opA
        rw [hsw]
        rfl
      rw [e9]
      exact ⟨rfl, hS⟩
    · skip
      refine L_top hsw ?_
      refine L_tblIn (tgt := 129) dL_act_31 (inR_of (by omega) (by omega)) (by decide) (by decide) rfl (by decide) ?_
      refine L_iload_n dL_act_129 rfl rfl ?_
      refine L_iconst dL_act_130 ?_
      refine L_callS (as := [_, _]) (c_L_low _ _ _ (by omega)) dL_act_131 ml_L_10 cs_L_low rfl (Nat.le_of_ble_eq_true rfl) (Nat.le_of_ble_eq_true rfl) rfl (fun r h2 hp => ?_)
      obtain ⟨rfl, rfl⟩ := hp
      refine L_istore dL_act_134 (by decide) rfl rfl ?_
      refine L_aload_n dL_act_136 rfl rfl ?_
      refine L_iload dL_act_137 rfl ?_
      refine L_iload dL_act_139 rfl ?_
      refine L_fork1 181 (sN y) (fun h => SYS h v hv sz ks sw) rfl (fun h2 hS => ?_) (fun J => ?_)
      · skip
        refine L_callV (ci := 5) (as := [_, _]) (s_set hS (inR_of (by omega) (by omega)) (inR_of (by omega) (by omega))) dL_act_181 ml_L_28 cv_X5_set hS.obj rfl rfl (Nat.le_of_ble_eq_true rfl) (Nat.le_of_ble_eq_true rfl) rfl (fun r h2 hp => ?_)
        obtain ⟨rfl, hS⟩ := hp
        refine M_ireturn dL_act_184 rfl ?_
        have e9 : opA x y = (3, lowI y 3, sN y) := by
          unfold opA
          rw [hsw]
          rfl
        rw [e9]
        exact ⟨rfl, hS⟩
      · skip
        refine L_if_ne (tgt := 155) dL_act_141 (by decide) (inR_of (by omega) (by omega)) (fun hc141 => ?_) (fun hc141 => ?_)
        · skip
          refine L_iload dL_act_155 rfl ?_
          refine L_iconst dL_act_157 ?_
          refine L_icmp_ne (tgt := 171) dL_act_158 (by decide) (inR_of (by omega) (by omega)) (inR_of (by omega) (by omega)) (fun hc158 => ?_) (fun hc158 => ?_)
          · skip
            refine L_iconst dL_act_171 ?_
            refine L_iload_n dL_act_172 rfl rfl ?_
            refine L_iconst dL_act_173 ?_
            refine L_ishr dL_act_174 ?_
            refine L_bipush dL_act_175 rfl ?_
            refine L_callS (as := [_, _]) (c_L_low _ _ _ (by omega)) dL_act_177 ml_L_10 cs_L_low rfl (Nat.le_of_ble_eq_true rfl) (Nat.le_of_ble_eq_true rfl) rfl (fun r h2 hp => ?_)
            obtain ⟨rfl, rfl⟩ := hp
            refine L_iadd dL_act_180 ?_
            exact J _ _ hS (by unfold sN; split <;> (try split) <;> omega)
          · skip
            refine L_iload_n dL_act_161 rfl rfl ?_
            refine L_iconst dL_act_162 ?_
            refine L_ishr dL_act_163 ?_
            refine L_iconst dL_act_164 ?_
            refine L_callS (as := [_, _]) (c_L_low _ _ _ (by omega)) dL_act_165 ml_L_10 cs_L_low rfl (Nat.le_of_ble_eq_true rfl) (Nat.le_of_ble_eq_true rfl) rfl (fun r h2 hp => ?_)
            obtain ⟨rfl, rfl⟩ := hp
            refine L_goto (tgt := 181) dL_act_168 (by decide) ?_
            exact J _ _ hS (by unfold sN; split <;> (try split) <;> omega)
        · skip
          refine L_iload_n dL_act_144 rfl rfl ?_
          refine L_iconst dL_act_145 ?_
          refine L_ishr dL_act_146 ?_
          refine L_bipush dL_act_147 rfl ?_
          refine L_callS (as := [_, _]) (c_L_low _ _ _ (by omega)) dL_act_149 ml_L_10 cs_L_low rfl (Nat.le_of_ble_eq_true rfl) (Nat.le_of_ble_eq_true rfl) rfl (fun r h2 hp => ?_)
          obtain ⟨rfl, rfl⟩ := hp
          refine L_goto (tgt := 181) dL_act_152 (by decide) ?_
          exact J _ _ hS (by unfold sN; split <;> (try split) <;> omega)
    · skip
      refine L_top hsw ?_
      refine L_tblIn (tgt := 185) dL_act_31 (inR_of (by omega) (by omega)) (by decide) (by decide) rfl (by decide) ?_
      refine L_aload_n dL_act_185 rfl rfl ?_
      refine L_iload_n dL_act_186 rfl rfl ?_
      refine L_iconst dL_act_187 ?_
      refine L_iload_n dL_act_188 rfl rfl ?_
      refine L_bipush dL_act_189 rfl ?_
      refine L_callS (as := [_, _]) (c_L_low _ _ _ (by omega)) dL_act_191 ml_L_10 cs_L_low rfl (Nat.le_of_ble_eq_true rfl) (Nat.le_of_ble_eq_true rfl) rfl (fun r h2 hp => ?_)
      obtain ⟨rfl, rfl⟩ := hp
      refine L_iadd dL_act_194 ?_
      refine L_callV (ci := 5) (as := [_, _]) (s_sink hS (inR_of (by omega) (by omega)) (inR_of (by omega) (by omega))) dL_act_195 ml_L_31 cv_X5_sink hS.obj rfl rfl (Nat.le_of_ble_eq_true rfl) (Nat.le_of_ble_eq_true rfl) rfl (fun r h2 hp => ?_)
      obtain ⟨rfl, hS⟩ := hp
      refine M_ireturn dL_act_198 rfl ?_
      have e9 : opA x y = (4, lowI (shrI x 4) (aN x), 1 + lowI y 30) := by
        unfold opA
        rw [hsw]
        rfl
      rw [e9]
      exact ⟨rfl, hS⟩
    · skip
      refine L_top hsw ?_
      refine L_tblIn (tgt := 185) dL_act_31 (inR_of (by omega) (by omega)) (by decide) (by decide) rfl (by decide) ?_
      refine L_aload_n dL_act_185 rfl rfl ?_
      refine L_iload_n dL_act_186 rfl rfl ?_
      refine L_iconst dL_act_187 ?_
      refine L_iload_n dL_act_188 rfl rfl ?_
      refine L_bipush dL_act_189 rfl ?_
      refine L_callS (as := [_, _]) (c_L_low _ _ _ (by omega)) dL_act_191 ml_L_10 cs_L_low rfl (Nat.le_of_ble_eq_true rfl) (Nat.le_of_ble_eq_true rfl) rfl (fun r h2 hp => ?_)
      obtain ⟨rfl, rfl⟩ := hp
      refine L_iadd dL_act_194 ?_
      refine L_callV (ci := 5) (as := [_, _]) (s_sink hS (inR_of (by omega) (by omega)) (inR_of (by omega) (by omega))) dL_act_195 ml_L_31 cv_X5_sink hS.obj rfl rfl (Nat.le_of_ble_eq_true rfl) (Nat.le_of_ble_eq_true rfl) rfl (fun r h2 hp => ?_)
      obtain ⟨rfl, hS⟩ := hp
      refine M_ireturn dL_act_198 rfl ?_
      have e9 : opA x y = (4, lowI (shrI x 4) (aN x), 1 + lowI y 30) := by
        unfold opA
        rw [hsw]
        rfl
      rw [e9]
      exact ⟨rfl, hS⟩
    · skip
      refine L_top hsw ?_
      refine L_tblIn (tgt := 185) dL_act_31 (inR_of (by omega) (by omega)) (by decide) (by decide) rfl (by decide) ?_
      refine L_aload_n dL_act_185 rfl rfl ?_
      refine L_iload_n dL_act_186 rfl rfl ?_
      refine L_iconst dL_act_187 ?_
      refine L_iload_n dL_act_188 rfl rfl ?_
      refine L_bipush dL_act_189 rfl ?_
      refine L_callS (as := [_, _]) (c_L_low _ _ _ (by omega)) dL_act_191 ml_L_10 cs_L_low rfl (Nat.le_of_ble_eq_true rfl) (Nat.le_of_ble_eq_true rfl) rfl (fun r h2 hp => ?_)
      obtain ⟨rfl, rfl⟩ := hp
      refine L_iadd dL_act_194 ?_
      refine L_callV (ci := 5) (as := [_, _]) (s_sink hS (inR_of (by omega) (by omega)) (inR_of (by omega) (by omega))) dL_act_195 ml_L_31 cv_X5_sink hS.obj rfl rfl (Nat.le_of_ble_eq_true rfl) (Nat.le_of_ble_eq_true rfl) rfl (fun r h2 hp => ?_)
      obtain ⟨rfl, hS⟩ := hp
      refine M_ireturn dL_act_198 rfl ?_
      have e9 : opA x y = (4, lowI (shrI x 4) (aN x), 1 + lowI y 30) := by
        unfold opA
        rw [hsw]
        rfl
      rw [e9]
      exact ⟨rfl, hS⟩
    · skip
      refine L_top hsw ?_
      refine L_tblIn (tgt := 199) dL_act_31 (inR_of (by omega) (by omega)) (by decide) (by decide) rfl (by decide) ?_
      refine L_iload_n dL_act_199 rfl rfl ?_
      refine L_iconst dL_act_200 ?_
      refine L_callS (as := [_, _]) (c_L_low _ _ _ (by omega)) dL_act_201 ml_L_10 cs_L_low rfl (Nat.le_of_ble_eq_true rfl) (Nat.le_of_ble_eq_true rfl) rfl (fun r h2 hp => ?_)
      obtain ⟨rfl, rfl⟩ := hp
      refine L_if_ne (tgt := 222) dL_act_204 (by decide) (inR_of (by omega) (by omega)) (fun hc204 => ?_) (fun hc204 => ?_)
      · skip
        refine L_aload_n dL_act_222 rfl rfl ?_
        refine L_iload_n dL_act_223 rfl rfl ?_
        refine L_iconst dL_act_224 ?_
        refine L_ishr dL_act_225 ?_
        refine L_bipush dL_act_226 rfl ?_
        refine L_callS (as := [_, _]) (c_L_low _ _ _ (by omega)) dL_act_228 ml_L_10 cs_L_low rfl (Nat.le_of_ble_eq_true rfl) (Nat.le_of_ble_eq_true rfl) rfl (fun r h2 hp => ?_)
        obtain ⟨rfl, rfl⟩ := hp
        refine L_iconst dL_act_231 ?_
        refine L_iload_n dL_act_232 rfl rfl ?_
        refine L_iconst dL_act_233 ?_
        refine L_ishr dL_act_234 ?_
        refine L_bipush dL_act_235 rfl ?_
        refine L_callS (as := [_, _]) (c_L_low _ _ _ (by omega)) dL_act_237 ml_L_10 cs_L_low rfl (Nat.le_of_ble_eq_true rfl) (Nat.le_of_ble_eq_true rfl) rfl (fun r h2 hp => ?_)
        obtain ⟨rfl, rfl⟩ := hp
        refine L_iadd dL_act_240 ?_
        refine L_callV (ci := 5) (as := [_, _]) (s_setRate hS (inR_of (by omega) (by omega)) (inR_of (by omega) (by omega))) dL_act_241 ml_L_37 cv_X5_setRate hS.obj rfl rfl (Nat.le_of_ble_eq_true rfl) (Nat.le_of_ble_eq_true rfl) rfl (fun r h2 hp => ?_)
        obtain ⟨rfl, hS⟩ := hp
        refine M_ireturn dL_act_244 rfl ?_
        first
          | (have e9 : opA x y = (5, lowI (shrI y 2) 6, 0) := by
               unfold opA
               rw [hsw]
               exact if_pos hc204
             rw [e9]
             exact ⟨rfl, hS⟩)
          | (have e9 : opA x y = (6, lowI (shrI y 2) 6, 1 + lowI (shrI y 5) 30) := by
               unfold opA
               rw [hsw]
               exact if_neg hc204
             rw [e9]
             exact ⟨rfl, hS⟩)
      · skip
        refine L_aload_n dL_act_207 rfl rfl ?_
        refine L_iload_n dL_act_208 rfl rfl ?_
        refine L_iconst dL_act_209 ?_
        refine L_ishr dL_act_210 ?_
        refine L_bipush dL_act_211 rfl ?_
        refine L_callS (as := [_, _]) (c_L_low _ _ _ (by omega)) dL_act_213 ml_L_10 cs_L_low rfl (Nat.le_of_ble_eq_true rfl) (Nat.le_of_ble_eq_true rfl) rfl (fun r h2 hp => ?_)
        obtain ⟨rfl, rfl⟩ := hp
        refine L_callV (ci := 5) (as := [_]) (s_fillIn hS (inR_of (by omega) (by omega))) dL_act_216 ml_L_34 cv_X5_fillIn hS.obj rfl rfl (Nat.le_of_ble_eq_true rfl) (Nat.le_of_ble_eq_true rfl) rfl (fun r h2 hp => ?_)
        obtain ⟨rfl, hS⟩ := hp
        refine L_goto (tgt := 244) dL_act_219 (by decide) ?_
        refine M_ireturn dL_act_244 rfl ?_
        first
          | (have e9 : opA x y = (5, lowI (shrI y 2) 6, 0) := by
               unfold opA
               rw [hsw]
               exact if_pos hc204
             rw [e9]
             exact ⟨rfl, hS⟩)
          | (have e9 : opA x y = (6, lowI (shrI y 2) 6, 1 + lowI (shrI y 5) 30) := by
               unfold opA
               rw [hsw]
               exact if_neg hc204
             rw [e9]
             exact ⟨rfl, hS⟩)
  · skip
    refine L_if_ne (tgt := 19) dL_act_11 (by decide) (inR_of (by omega) (by omega)) (fun hc11 => ?_) (fun hc11 => ?_)
    · skip
      refine L_bipush dL_act_19 rfl ?_
      exact J _ _ hS (by unfold aN; first | exact (if_pos (by omega)).symm | exact (if_neg (by omega)).symm)
    · skip
      refine L_bipush dL_act_14 rfl ?_
      refine L_goto (tgt := 21) dL_act_16 (by decide) ?_
      exact J _ _ hS (by unfold aN; first | exact (if_pos (by omega)).symm | exact (if_neg (by omega)).symm)
