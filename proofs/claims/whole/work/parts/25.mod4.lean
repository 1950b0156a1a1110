def n5 (v : Int) : Int := if v = -1 then -5 else v
theorem nxI_at {tx : Int → Int} {len p : Int} (h0 : 0 ≤ p) (h1 : p < len) : nxI tx len p = tx p := if_pos ⟨h0, h1⟩
theorem nxI_no {tx : Int → Int} {len p : Int} (h : len ≤ p) : nxI tx len p = -1 := if_neg (by omega)
theorem dgI_or (tx : Int → Int) (len p : Int) : (48 ≤ nxI tx len p ∧ nxI tx len p ≤ 57) ∧ dgI tx len p = nxI tx len p - 48 ∨ (nxI tx len p < 48 ∨ 57 < nxI tx len p) ∧ dgI tx len p = -1 := by
  unfold dgI
  by_cases q : 48 ≤ nxI tx len p ∧ nxI tx len p ≤ 57
  · rw [if_pos q]; exact Or.inl ⟨q, rfl⟩
  · rw [if_neg q]; exact Or.inr ⟨by omega, rfl⟩
theorem nm_0 {tx : Int → Int} {len lo hi p : Int} (h : dgI tx len p < lo) : n5 (nmV tx len lo hi p) = -5 ∧ nmE tx len lo hi p = p := by
  unfold nmV nmE
  rw [if_pos h, if_pos h]
  exact ⟨rfl, rfl⟩
theorem nm_1 {tx : Int → Int} {len lo hi p : Int} (h0 : 0 ≤ lo) (h : lo ≤ dgI tx len p) (k : ¬ (0 < dgI tx len p ∧ dgI tx len (p + 1) ≠ -1 ∧ 10 * dgI tx len p + dgI tx len (p + 1) ≤ hi)) : n5 (nmV tx len lo hi p) = dgI tx len p ∧ nmE tx len lo hi p = p + 1 := by
  unfold nmV nmE
  have c1 : ¬ dgI tx len p < lo := by omega
  rw [if_neg c1, if_neg c1, if_neg k, if_neg k]
  unfold n5
  rw [if_neg (by omega)]
  exact ⟨rfl, rfl⟩
theorem nm_2 {tx : Int → Int} {len lo hi p : Int} (h0 : 0 ≤ lo) (h : lo ≤ dgI tx len p) (k : 0 < dgI tx len p ∧ dgI tx len (p + 1) ≠ -1 ∧ 10 * dgI tx len p + dgI tx len (p + 1) ≤ hi) : n5 (nmV tx len lo hi p) = 10 * dgI tx len p + dgI tx len (p + 1) ∧ nmE tx len lo hi p = p + 2 := by
  have r := dgI_rng tx len (p + 1)
  unfold nmV nmE
  have c1 : ¬ dgI tx len p < lo := by omega
  rw [if_neg c1, if_neg c1, if_pos k, if_pos k]
  unfold n5
  rw [if_neg (by omega)]
  exact ⟨rfl, rfl⟩
theorem n5_or (v : Int) : v = -1 ∧ n5 v = -5 ∨ v ≠ -1 ∧ n5 v = v := by
  unfold n5
  by_cases q : v = -1
  · rw [if_pos q]; exact Or.inl ⟨q, rfl⟩
  · rw [if_neg q]; exact Or.inr ⟨q, rfl⟩
set_option maxRecDepth 100000 in
set_option maxHeartbeats 4000000 in
theorem c_X6_isHere (h : List PO) (m : Nat) (s tx mk co : Int → Int) (st kp ty sn se fi ca sp le on tw : Int) (lo hi : Int) (hM : moAt h m s tx mk co st kp ty sn se fi ca sp le on tw) (hx : RG 0 65535 60 tx) (hl : 0 ≤ ty ∧ ty ≤ 60) (hsp : 0 ≤ sp ∧ sp ≤ 70) (hlo : 0 ≤ lo ∧ lo ≤ 65535) (hhi : 0 ≤ hi ∧ hi ≤ 65535) : PM 1 yX6_isHere cX6_isHere 3 (some .boolean) h [r_ m, i_ lo, i_ hi] (fun r0 h2 => ∃ y : Int, r0 = some (i_ y) ∧ h = h2 ∧ (y = 1 ∧ lo ≤ nxI tx ty sp ∧ nxI tx ty sp ≤ hi ∨ y = 0 ∧ (nxI tx ty sp < lo ∨ hi < nxI tx ty sp))) := by
  refine PM_of_G RX6 [some (r_ m), some (i_ lo), some (i_ hi)] rfl (by decide +kernel) (Nat.le_of_ble_eq_true rfl) rfl ?_
  obtain ⟨hM0, hM1, hM2, hM3, hM4⟩ := id hM
  refine G_aload_n dX6_isHere_0 rfl rfl ?_
  refine G_getf fl_X6_130 dX6_isHere_1 (by assumption) rfl ?_
  refine G_aload_n dX6_isHere_4 rfl rfl ?_
  refine G_getf fl_X6_127 dX6_isHere_5 (by assumption) rfl ?_
  refine G_icmp_ge (tgt := 32) dX6_isHere_8 (by decide) (inR_of (by omega) (by omega)) (inR_of (by omega) (by omega)) (fun hc8 => ?_) (fun hc8 => ?_)
  · skip
    have hno := nxI_no (tx := tx) (len := ty) (p := sp) (by omega)
    refine G_iconst dX6_isHere_32 ?_
    refine G_zreturn dX6_isHere_33 rfl (by first | exact Or.inl rfl | exact Or.inr rfl) ?_
    exact ⟨_, rfl, rfl, by omega⟩
  · skip
    have hat := nxI_at (tx := tx) (len := ty) (p := sp) (by omega) (by omega)
    have hxr := nxI_rng (p := sp) hx hl.2
    refine G_aload_n dX6_isHere_11 rfl rfl ?_
    refine G_getf fl_X6_13 dX6_isHere_12 (by assumption) rfl ?_
    refine G_aload_n dX6_isHere_15 rfl rfl ?_
    refine G_getf fl_X6_130 dX6_isHere_16 (by assumption) rfl ?_
    refine G_iald dX6_isHere_19 (by assumption) (by omega) (by omega) (by decide) ?_
    refine G_top (hat.symm) ?_
    refine G_iload_n dX6_isHere_20 rfl rfl ?_
    refine G_iload_n dX6_isHere_21 rfl rfl ?_
    refine G_callS (as := [_, _, _]) (c_X6_in _ (nxI tx ty sp) (lo) (hi) (inR_of (by omega) (by omega)) (inR_of (by omega) (by omega)) (inR_of (by omega) (by omega))) dX6_isHere_22 ml_X6_70 cs_X6_in rfl (Nat.le_of_ble_eq_true rfl) (Nat.le_of_ble_eq_true rfl) rfl (fun r h2 hp => ?_)
    obtain ⟨y, rfl, rfl, hy⟩ := hp
    refine G_if_eq (tgt := 32) dX6_isHere_25 (by decide) (inR_of (by omega) (by omega)) (fun hc25 => ?_) (fun hc25 => ?_)
    · skip
      refine G_iconst dX6_isHere_32 ?_
      refine G_zreturn dX6_isHere_33 rfl (by first | exact Or.inl rfl | exact Or.inr rfl) ?_
      exact ⟨_, rfl, rfl, by omega⟩
    · skip
      refine G_iconst dX6_isHere_28 ?_
      refine G_goto (tgt := 33) dX6_isHere_29 (by decide) ?_
      refine G_zreturn dX6_isHere_33 rfl (by first | exact Or.inl rfl | exact Or.inr rfl) ?_
      exact ⟨_, rfl, rfl, by omega⟩
set_option maxRecDepth 100000 in
set_option maxHeartbeats 4000000 in
theorem c_X6_takes (h : List PO) (m : Nat) (s tx mk co : Int → Int) (st kp ty sn se fi ca sp le on tw : Int) (c : Int) (hM : moAt h m s tx mk co st kp ty sn se fi ca sp le on tw) (hx : RG 0 65535 60 tx) (hl : 0 ≤ ty ∧ ty ≤ 60) (hsp : 0 ≤ sp ∧ sp ≤ 70) (hc : 0 ≤ c ∧ c ≤ 65535) : PM 2 yX6_takes cX6_takes 3 (some .boolean) h [r_ m, i_ c] (fun r0 h2 => ∃ y : Int, r0 = some (i_ y) ∧ Fr h h2 m (m + 5) ∧ moAt h2 m s tx mk co st kp ty sn se fi ca (sp + y) le on tw ∧ (y = 1 ∧ nxI tx ty sp = c ∨ y = 0 ∧ nxI tx ty sp ≠ c)) := by
  refine PM_of_G RX6 [some (r_ m), some (i_ c), none] rfl (by decide +kernel) (Nat.le_of_ble_eq_true rfl) rfl ?_
  obtain ⟨hM0, hM1, hM2, hM3, hM4⟩ := id hM
  have hF : Fr h h m (m + 5) := Fr.rf
  refine G_aload_n dX6_takes_0 rfl rfl ?_
  refine G_iload_n dX6_takes_1 rfl rfl ?_
  refine G_iload_n dX6_takes_2 rfl rfl ?_
  refine G_callV (ci := 6) (as := [_, _]) (c_X6_isHere h m s tx mk co st kp ty sn se fi ca sp le on tw c c hM hx hl hsp hc hc) dX6_takes_3 ml_X6_133 cv_X6_isHere (by assumption) rfl rfl (Nat.le_of_ble_eq_true rfl) (Nat.le_of_ble_eq_true rfl) rfl (fun r h2 hp => ?_)
  obtain ⟨y, rfl, rfl, hy⟩ := hp
  refine G_istore_n dX6_takes_6 rfl (by decide) rfl ?_
  refine G_aload_n dX6_takes_7 rfl rfl ?_
  refine G_dup dX6_takes_8 ?_
  refine G_getf fl_X6_130 dX6_takes_9 (by assumption) rfl ?_
  refine G_iload_n dX6_takes_12 rfl rfl ?_
  refine G_callS (as := [_]) (c_X6_flag _ y (by omega)) dX6_takes_13 ml_X6_53 cs_X6_flag rfl (Nat.le_of_ble_eq_true rfl) (Nat.le_of_ble_eq_true rfl) rfl (fun r h2 hp => ?_)
  obtain ⟨rfl, rfl⟩ := hp
  refine G_iadd dX6_takes_16 ?_
  refine G_putI (fs2 := [r_ (m + 1), i_ (st), i_ (kp), r_ (m + 2), i_ (ty), i_ (sn), i_ (se), r_ (m + 3), i_ (fi), i_ (ca), r_ (m + 4), i_ (sp + y), i_ (le), i_ (on), i_ (tw)]) fp_X6_130 dX6_takes_17 (by assumption) (Nat.le_of_ble_eq_true rfl) rfl ?_
  have hM := hM.obj (st) (kp) (ty) (sn) (se) (fi) (ca) (sp + y) (le) (on) (tw)
  obtain ⟨hM0, hM1, hM2, hM3, hM4⟩ := id hM
  have hF := hF.tr (Fr.set (o := oMod m (st) (kp) (ty) (sn) (se) (fi) (ca) (sp + y) (le) (on) (tw)) (show m ≤ m by omega) (show m < m + 5 by omega))
  refine G_iload_n dX6_takes_20 rfl rfl ?_
  refine G_zreturn dX6_takes_21 rfl (by omega) ?_
  exact ⟨y, rfl, hF, hM, by omega⟩
set_option maxRecDepth 100000 in
set_option maxHeartbeats 4000000 in
theorem c_X6_number (h : List PO) (m : Nat) (s tx mk co : Int → Int) (st kp ty sn se fi ca sp le on tw : Int) (lo hi : Int) (hM : moAt h m s tx mk co st kp ty sn se fi ca sp le on tw) (hx : RG 0 65535 60 tx) (hl : 0 ≤ ty ∧ ty ≤ 60) (hsp : 0 ≤ sp ∧ sp ≤ 65) (hlo : 0 ≤ lo ∧ lo ≤ 1) (hhi : 9 ≤ hi ∧ hi ≤ 99) : PM 2 yX6_number cX6_number 5 (some .int) h [r_ m, i_ lo, i_ hi] (fun r0 h2 => r0 = some (i_ (n5 (nmV tx ty lo hi sp))) ∧ Fr h h2 m (m + 5) ∧ moAt h2 m s tx mk co st kp ty sn se fi ca (nmE tx ty lo hi sp) le on tw) := by
  refine PM_of_G RX6 [some (r_ m), some (i_ lo), some (i_ hi), none, none] rfl (by decide +kernel) (Nat.le_of_ble_eq_true rfl) rfl ?_
  obtain ⟨hM0, hM1, hM2, hM3, hM4⟩ := id hM
  have hF : Fr h h m (m + 5) := Fr.rf
  have hd1 := dgI_or tx ty sp
  have hd2 := dgI_or tx ty (sp + 1)
  have hx1 := nxI_rng (p := sp) hx hl.2
  have hx2 := nxI_rng (p := sp + 1) hx hl.2
  have hx3 := nxI_rng (p := sp + 1 + 1) hx hl.2
  have E : ∀ (hh : List PO) (v p2 : Int), moAt hh m s tx mk co st kp ty sn se fi ca p2 le on tw → Fr h hh m (m + 5) → v = n5 (nmV tx ty lo hi sp) → p2 = nmE tx ty lo hi sp → G 2 cX6_number RX6 5 (some .int) hh 22 [some (r_ m), some (i_ lo), some (i_ hi), some (i_ v), some (i_ 0)] [] (fun r0 h2 => r0 = some (i_ (n5 (nmV tx ty lo hi sp))) ∧ Fr h h2 m (m + 5) ∧ moAt h2 m s tx mk co st kp ty sn se fi ca (nmE tx ty lo hi sp) le on tw) := by
    intro hh v p2 hM hF hv hp2
    refine G_iload dX6_number_22 rfl ?_
    refine G_if_eq (tgt := 122) dX6_number_24 (by decide) (inR_of (by omega) (by omega)) (fun hc24 => ?_) (fun hc24 => ?_)
    · skip
      refine G_iload_n dX6_number_122 rfl rfl ?_
      refine G_ireturn dX6_number_123 rfl ?_
      subst hv
      subst hp2
      exact ⟨rfl, hF, hM⟩
    · skip
      exfalso; omega
  have K2 : ∀ (hh : List PO), moAt hh m s tx mk co st kp ty sn se fi ca (sp + 1) le on tw → Fr h hh m (m + 5) → lo ≤ dgI tx ty sp → (0 < dgI tx ty sp ∧ dgI tx ty (sp + 1) ≠ -1 ∧ 10 * dgI tx ty sp + dgI tx ty (sp + 1) ≤ hi) → G 2 cX6_number RX6 5 (some .int) hh 22 [some (r_ m), some (i_ lo), some (i_ hi), some (i_ (dgI tx ty sp)), some (i_ 1)] [] (fun r0 h2 => r0 = some (i_ (n5 (nmV tx ty lo hi sp))) ∧ Fr h h2 m (m + 5) ∧ moAt h2 m s tx mk co st kp ty sn se fi ca (nmE tx ty lo hi sp) le on tw) := by
    intro hh hM hF h1 h2x
    obtain ⟨hM0, hM1, hM2, hM3, hM4⟩ := id hM
    have hin2 := dgI_in (tx := tx) (len := ty) (p := sp + 1) (by omega)
    refine G_iload dX6_number_22 rfl ?_
    refine G_if_eq (tgt := 122) dX6_number_24 (by decide) (inR_of (by omega) (by omega)) (fun hc24 => ?_) (fun hc24 => ?_)
    · skip
      exfalso; omega
    · skip
      refine G_iload_n dX6_number_27 rfl rfl ?_
      refine G_bipush dX6_number_28 rfl ?_
      refine G_icmp_ne (tgt := 48) dX6_number_30 (by decide) (inR_of (by omega) (by omega)) (inR_of (by omega) (by omega)) (fun hc30 => ?_) (fun hc30 => ?_)
      · skip
        refine G_bipush dX6_number_48 rfl ?_
        refine G_iload_n dX6_number_50 rfl rfl ?_
        refine G_imul dX6_number_51 ?_
        refine G_aload_n dX6_number_52 rfl rfl ?_
        refine G_getf fl_X6_13 dX6_number_53 (by assumption) rfl ?_
        refine G_aload_n dX6_number_56 rfl rfl ?_
        refine G_getf fl_X6_130 dX6_number_57 (by assumption) rfl ?_
        refine G_iald dX6_number_60 (by assumption) (by omega) (by omega) (by decide) ?_
        refine G_top ((nxI_at (tx := tx) (len := ty) (p := sp + 1) (by omega) (by omega)).symm) ?_
        refine G_iadd dX6_number_61 ?_
        refine G_bipush dX6_number_62 rfl ?_
        refine G_isub dX6_number_64 ?_
        refine G_top (y := 10 * dgI tx ty sp + dgI tx ty (sp + 1)) (by omega) ?_
        refine G_istore_n dX6_number_65 rfl (by decide) rfl ?_
        refine G_aload_n dX6_number_66 rfl rfl ?_
        refine G_dup dX6_number_67 ?_
        refine G_getf fl_X6_130 dX6_number_68 (by assumption) rfl ?_
        refine G_iconst dX6_number_71 ?_
        refine G_iadd dX6_number_72 ?_
        refine G_putI (fs2 := [r_ (m + 1), i_ (st), i_ (kp), r_ (m + 2), i_ (ty), i_ (sn), i_ (se), r_ (m + 3), i_ (fi), i_ (ca), r_ (m + 4), i_ (sp + 1 + 1), i_ (le), i_ (on), i_ (tw)]) fp_X6_130 dX6_number_73 (by assumption) (Nat.le_of_ble_eq_true rfl) rfl ?_
        have hM := hM.obj (st) (kp) (ty) (sn) (se) (fi) (ca) (sp + 1 + 1) (le) (on) (tw)
        obtain ⟨hM0, hM1, hM2, hM3, hM4⟩ := id hM
        have hF := hF.tr (Fr.set (o := oMod m (st) (kp) (ty) (sn) (se) (fi) (ca) (sp + 1 + 1) (le) (on) (tw)) (show m ≤ m by omega) (show m < m + 5 by omega))
        refine G_iload_n dX6_number_76 rfl rfl ?_
        refine G_if_le (tgt := 116) dX6_number_77 (by decide) (inR_of (by omega) (by omega)) (fun hc77 => ?_) (fun hc77 => ?_)
        · skip
          exfalso; omega
        · skip
          refine G_aload_n dX6_number_80 rfl rfl ?_
          refine G_bipush dX6_number_81 rfl ?_
          refine G_bipush dX6_number_83 rfl ?_
          refine G_callV (ci := 6) (as := [_, _]) (c_X6_isHere _ m s tx mk co st kp ty sn se fi ca (sp + 1 + 1) le on tw 48 57 hM hx hl (by omega) (by omega) (by omega)) dX6_number_85 ml_X6_133 cv_X6_isHere (by assumption) rfl rfl (Nat.le_of_ble_eq_true rfl) (Nat.le_of_ble_eq_true rfl) rfl (fun r h2 hp => ?_)
          obtain ⟨y, rfl, rfl, hy⟩ := hp
          refine G_if_eq (tgt := 116) dX6_number_88 (by decide) (inR_of (by omega) (by omega)) (fun hc88 => ?_) (fun hc88 => ?_)
          · skip
            refine G_iconst dX6_number_116 ?_
            refine G_istore dX6_number_117 (by decide) rfl ?_
            refine G_goto (tgt := 22) dX6_number_119 (by decide) ?_
            exact E _ _ _ hM hF (nm_2 (hi := hi) hlo.1 h1 h2x).1.symm (by have k := (nm_2 (hi := hi) hlo.1 h1 h2x).2; omega)
          · skip
            refine G_bipush dX6_number_91 rfl ?_
            refine G_iload_n dX6_number_93 rfl rfl ?_
            refine G_imul dX6_number_94 ?_
            refine G_aload_n dX6_number_95 rfl rfl ?_
            refine G_getf fl_X6_13 dX6_number_96 (by assumption) rfl ?_
            refine G_aload_n dX6_number_99 rfl rfl ?_
            refine G_getf fl_X6_130 dX6_number_100 (by assumption) rfl ?_
            refine G_iald dX6_number_103 (by assumption) (by have q := nxI_in (tx := tx) (len := ty) (p := sp + 1 + 1) (by omega); omega) (by have q := nxI_in (tx := tx) (len := ty) (p := sp + 1 + 1) (by omega); omega) (by decide) ?_
            have hin3 := nxI_in (tx := tx) (len := ty) (p := sp + 1 + 1) (by omega)
            have hat3 := nxI_at (tx := tx) (len := ty) (p := sp + 1 + 1) (by omega) (by omega)
            refine G_top hat3.symm ?_
            refine G_iadd dX6_number_104 ?_
            refine G_bipush dX6_number_105 rfl ?_
            refine G_isub dX6_number_107 ?_
            refine G_iload_n dX6_number_108 rfl rfl ?_
            refine G_icmp_gt (tgt := 116) dX6_number_109 (by decide) (inR_of (by omega) (by omega)) (inR_of (by omega) (by omega)) (fun hc109 => ?_) (fun hc109 => ?_)
            · skip
              refine G_iconst dX6_number_116 ?_
              refine G_istore dX6_number_117 (by decide) rfl ?_
              refine G_goto (tgt := 22) dX6_number_119 (by decide) ?_
              exact E _ _ _ hM hF (nm_2 (hi := hi) hlo.1 h1 h2x).1.symm (by have k := (nm_2 (hi := hi) hlo.1 h1 h2x).2; omega)
            · skip
              exfalso; omega
      · skip
        exfalso; omega
  refine G_bipush dX6_number_0 rfl ?_
  refine G_istore_n dX6_number_2 rfl (by decide) rfl ?_
  refine G_aload_n dX6_number_3 rfl rfl ?_
  refine G_iload_n dX6_number_4 rfl rfl ?_
  refine G_if_ne (tgt := 13) dX6_number_5 (by decide) (inR_of (by omega) (by omega)) (fun hc5 => ?_) (fun hc5 => ?_)
  · skip
    refine G_bipush dX6_number_13 rfl ?_
    refine G_bipush dX6_number_15 rfl ?_
    refine G_callV (ci := 6) (as := [_, _]) (c_X6_isHere _ m s tx mk co st kp ty sn se fi ca sp le on tw _ 57 hM hx hl (by omega) (by omega) (by omega)) dX6_number_17 ml_X6_133 cv_X6_isHere (by assumption) rfl rfl (Nat.le_of_ble_eq_true rfl) (Nat.le_of_ble_eq_true rfl) rfl (fun r h2 hp => ?_)
    obtain ⟨y, rfl, rfl, hy⟩ := hp
    refine G_istore dX6_number_20 (by decide) rfl ?_
    refine G_iload dX6_number_22 rfl ?_
    refine G_if_eq (tgt := 122) dX6_number_24 (by decide) (inR_of (by omega) (by omega)) (fun hc24 => ?_) (fun hc24 => ?_)
    · skip
      have hlt : dgI tx ty sp < lo := by omega
      refine G_iload_n dX6_number_122 rfl rfl ?_
      refine G_ireturn dX6_number_123 rfl ?_
      have k := nm_0 (hi := hi) hlt
      rw [k.1, k.2]
      exact ⟨rfl, hF, hM⟩
    · skip
      have hge : lo ≤ dgI tx ty sp := by omega
      have hin1 := dgI_in (tx := tx) (len := ty) (p := sp) (by omega)
      have hat1 := nxI_at (tx := tx) (len := ty) (p := sp) (by omega) (by omega)
      refine G_iload_n dX6_number_27 rfl rfl ?_
      refine G_bipush dX6_number_28 rfl ?_
      refine G_icmp_ne (tgt := 48) dX6_number_30 (by decide) (inR_of (by omega) (by omega)) (inR_of (by omega) (by omega)) (fun hc30 => ?_) (fun hc30 => ?_)
      · skip
        exfalso; omega
      · skip
        refine G_aload_n dX6_number_33 rfl rfl ?_
        refine G_getf fl_X6_13 dX6_number_34 (by assumption) rfl ?_
        refine G_aload_n dX6_number_37 rfl rfl ?_
        refine G_getf fl_X6_130 dX6_number_38 (by assumption) rfl ?_
        refine G_iald dX6_number_41 (by assumption) (by omega) (by omega) (by decide) ?_
        refine G_top (hat1.symm) ?_
        refine G_bipush dX6_number_42 rfl ?_
        refine G_isub dX6_number_44 ?_
        refine G_goto (tgt := 65) dX6_number_45 (by decide) ?_
        refine G_top (y := dgI tx ty sp) (by omega) ?_
        refine G_istore_n dX6_number_65 rfl (by decide) rfl ?_
        refine G_aload_n dX6_number_66 rfl rfl ?_
        refine G_dup dX6_number_67 ?_
        refine G_getf fl_X6_130 dX6_number_68 (by assumption) rfl ?_
        refine G_iconst dX6_number_71 ?_
        refine G_iadd dX6_number_72 ?_
        refine G_putI (fs2 := [r_ (m + 1), i_ (st), i_ (kp), r_ (m + 2), i_ (ty), i_ (sn), i_ (se), r_ (m + 3), i_ (fi), i_ (ca), r_ (m + 4), i_ (sp + 1), i_ (le), i_ (on), i_ (tw)]) fp_X6_130 dX6_number_73 (by assumption) (Nat.le_of_ble_eq_true rfl) rfl ?_
        have hM := hM.obj (st) (kp) (ty) (sn) (se) (fi) (ca) (sp + 1) (le) (on) (tw)
        obtain ⟨hM0, hM1, hM2, hM3, hM4⟩ := id hM
        have hF := hF.tr (Fr.set (o := oMod m (st) (kp) (ty) (sn) (se) (fi) (ca) (sp + 1) (le) (on) (tw)) (show m ≤ m by omega) (show m < m + 5 by omega))
        refine G_iload_n dX6_number_76 rfl rfl ?_
        refine G_if_le (tgt := 116) dX6_number_77 (by decide) (inR_of (by omega) (by omega)) (fun hc77 => ?_) (fun hc77 => ?_)
        · skip
          refine G_iconst dX6_number_116 ?_
          refine G_istore dX6_number_117 (by decide) rfl ?_
          refine G_goto (tgt := 22) dX6_number_119 (by decide) ?_
          exact E _ _ _ hM hF (nm_1 (hi := hi) hlo.1 hge (by omega)).1.symm (by have k := (nm_1 (hi := hi) hlo.1 hge (by omega)).2; omega)
        · skip
          refine G_aload_n dX6_number_80 rfl rfl ?_
          refine G_bipush dX6_number_81 rfl ?_
          refine G_bipush dX6_number_83 rfl ?_
          refine G_callV (ci := 6) (as := [_, _]) (c_X6_isHere _ m s tx mk co st kp ty sn se fi ca (sp + 1) le on tw 48 57 hM hx hl (by omega) (by omega) (by omega)) dX6_number_85 ml_X6_133 cv_X6_isHere (by assumption) rfl rfl (Nat.le_of_ble_eq_true rfl) (Nat.le_of_ble_eq_true rfl) rfl (fun r h2 hp => ?_)
          obtain ⟨y, rfl, rfl, hy⟩ := hp
          refine G_if_eq (tgt := 116) dX6_number_88 (by decide) (inR_of (by omega) (by omega)) (fun hc88 => ?_) (fun hc88 => ?_)
          · skip
            refine G_iconst dX6_number_116 ?_
            refine G_istore dX6_number_117 (by decide) rfl ?_
            refine G_goto (tgt := 22) dX6_number_119 (by decide) ?_
            exact E _ _ _ hM hF (nm_1 (hi := hi) hlo.1 hge (by omega)).1.symm (by have k := (nm_1 (hi := hi) hlo.1 hge (by omega)).2; omega)
          · skip
            refine G_bipush dX6_number_91 rfl ?_
            refine G_iload_n dX6_number_93 rfl rfl ?_
            refine G_imul dX6_number_94 ?_
            refine G_aload_n dX6_number_95 rfl rfl ?_
            refine G_getf fl_X6_13 dX6_number_96 (by assumption) rfl ?_
            refine G_aload_n dX6_number_99 rfl rfl ?_
            refine G_getf fl_X6_130 dX6_number_100 (by assumption) rfl ?_
            refine G_iald dX6_number_103 (by assumption) (by have q := nxI_in (tx := tx) (len := ty) (p := sp + 1) (by omega); omega) (by have q := nxI_in (tx := tx) (len := ty) (p := sp + 1) (by omega); omega) (by decide) ?_
            have hin3 := nxI_in (tx := tx) (len := ty) (p := sp + 1) (by omega)
            have hat3 := nxI_at (tx := tx) (len := ty) (p := sp + 1) (by omega) (by omega)
            refine G_top hat3.symm ?_
            refine G_iadd dX6_number_104 ?_
            refine G_bipush dX6_number_105 rfl ?_
            refine G_isub dX6_number_107 ?_
            refine G_iload_n dX6_number_108 rfl rfl ?_
            refine G_icmp_gt (tgt := 116) dX6_number_109 (by decide) (inR_of (by omega) (by omega)) (inR_of (by omega) (by omega)) (fun hc109 => ?_) (fun hc109 => ?_)
            · skip
              refine G_iconst dX6_number_116 ?_
              refine G_istore dX6_number_117 (by decide) rfl ?_
              refine G_goto (tgt := 22) dX6_number_119 (by decide) ?_
              exact E _ _ _ hM hF (nm_1 (hi := hi) hlo.1 hge (by omega)).1.symm (by have k := (nm_1 (hi := hi) hlo.1 hge (by omega)).2; omega)
            · skip
              refine G_iconst dX6_number_112 ?_
              refine G_goto (tgt := 117) dX6_number_113 (by decide) ?_
              refine G_istore dX6_number_117 (by decide) rfl ?_
              refine G_goto (tgt := 22) dX6_number_119 (by decide) ?_
              exact K2 _ hM hF hge (by omega)
  · skip
    refine G_bipush dX6_number_8 rfl ?_
    refine G_goto (tgt := 15) dX6_number_10 (by decide) ?_
    refine G_bipush dX6_number_15 rfl ?_
    refine G_callV (ci := 6) (as := [_, _]) (c_X6_isHere _ m s tx mk co st kp ty sn se fi ca sp le on tw _ 57 hM hx hl (by omega) (by omega) (by omega)) dX6_number_17 ml_X6_133 cv_X6_isHere (by assumption) rfl rfl (Nat.le_of_ble_eq_true rfl) (Nat.le_of_ble_eq_true rfl) rfl (fun r h2 hp => ?_)
    obtain ⟨y, rfl, rfl, hy⟩ := hp
    refine G_istore dX6_number_20 (by decide) rfl ?_
    refine G_iload dX6_number_22 rfl ?_
    refine G_if_eq (tgt := 122) dX6_number_24 (by decide) (inR_of (by omega) (by omega)) (fun hc24 => ?_) (fun hc24 => ?_)
    · skip
      have hlt : dgI tx ty sp < lo := by omega
      refine G_iload_n dX6_number_122 rfl rfl ?_
      refine G_ireturn dX6_number_123 rfl ?_
      have k := nm_0 (hi := hi) hlt
      rw [k.1, k.2]
      exact ⟨rfl, hF, hM⟩
    · skip
      have hge : lo ≤ dgI tx ty sp := by omega
      have hin1 := dgI_in (tx := tx) (len := ty) (p := sp) (by omega)
      have hat1 := nxI_at (tx := tx) (len := ty) (p := sp) (by omega) (by omega)
      refine G_iload_n dX6_number_27 rfl rfl ?_
      refine G_bipush dX6_number_28 rfl ?_
      refine G_icmp_ne (tgt := 48) dX6_number_30 (by decide) (inR_of (by omega) (by omega)) (inR_of (by omega) (by omega)) (fun hc30 => ?_) (fun hc30 => ?_)
      · skip
        exfalso; omega
      · skip
        refine G_aload_n dX6_number_33 rfl rfl ?_
        refine G_getf fl_X6_13 dX6_number_34 (by assumption) rfl ?_
        refine G_aload_n dX6_number_37 rfl rfl ?_
        refine G_getf fl_X6_130 dX6_number_38 (by assumption) rfl ?_
        refine G_iald dX6_number_41 (by assumption) (by omega) (by omega) (by decide) ?_
        refine G_top (hat1.symm) ?_
        refine G_bipush dX6_number_42 rfl ?_
        refine G_isub dX6_number_44 ?_
        refine G_goto (tgt := 65) dX6_number_45 (by decide) ?_
        refine G_top (y := dgI tx ty sp) (by omega) ?_
        refine G_istore_n dX6_number_65 rfl (by decide) rfl ?_
        refine G_aload_n dX6_number_66 rfl rfl ?_
        refine G_dup dX6_number_67 ?_
        refine G_getf fl_X6_130 dX6_number_68 (by assumption) rfl ?_
        refine G_iconst dX6_number_71 ?_
        refine G_iadd dX6_number_72 ?_
        refine G_putI (fs2 := [r_ (m + 1), i_ (st), i_ (kp), r_ (m + 2), i_ (ty), i_ (sn), i_ (se), r_ (m + 3), i_ (fi), i_ (ca), r_ (m + 4), i_ (sp + 1), i_ (le), i_ (on), i_ (tw)]) fp_X6_130 dX6_number_73 (by assumption) (Nat.le_of_ble_eq_true rfl) rfl ?_
        have hM := hM.obj (st) (kp) (ty) (sn) (se) (fi) (ca) (sp + 1) (le) (on) (tw)
        obtain ⟨hM0, hM1, hM2, hM3, hM4⟩ := id hM
        have hF := hF.tr (Fr.set (o := oMod m (st) (kp) (ty) (sn) (se) (fi) (ca) (sp + 1) (le) (on) (tw)) (show m ≤ m by omega) (show m < m + 5 by omega))
        refine G_iload_n dX6_number_76 rfl rfl ?_
        refine G_if_le (tgt := 116) dX6_number_77 (by decide) (inR_of (by omega) (by omega)) (fun hc77 => ?_) (fun hc77 => ?_)
        · skip
          refine G_iconst dX6_number_116 ?_
          refine G_istore dX6_number_117 (by decide) rfl ?_
          refine G_goto (tgt := 22) dX6_number_119 (by decide) ?_
          exact E _ _ _ hM hF (nm_1 (hi := hi) hlo.1 hge (by omega)).1.symm (by have k := (nm_1 (hi := hi) hlo.1 hge (by omega)).2; omega)
        · skip
          refine G_aload_n dX6_number_80 rfl rfl ?_
          refine G_bipush dX6_number_81 rfl ?_
          refine G_bipush dX6_number_83 rfl ?_
          refine G_callV (ci := 6) (as := [_, _]) (c_X6_isHere _ m s tx mk co st kp ty sn se fi ca (sp + 1) le on tw 48 57 hM hx hl (by omega) (by omega) (by omega)) dX6_number_85 ml_X6_133 cv_X6_isHere (by assumption) rfl rfl (Nat.le_of_ble_eq_true rfl) (Nat.le_of_ble_eq_true rfl) rfl (fun r h2 hp => ?_)
          obtain ⟨y, rfl, rfl, hy⟩ := hp
          refine G_if_eq (tgt := 116) dX6_number_88 (by decide) (inR_of (by omega) (by omega)) (fun hc88 => ?_) (fun hc88 => ?_)
          · skip
            refine G_iconst dX6_number_116 ?_
            refine G_istore dX6_number_117 (by decide) rfl ?_
            refine G_goto (tgt := 22) dX6_number_119 (by decide) ?_
            exact E _ _ _ hM hF (nm_1 (hi := hi) hlo.1 hge (by omega)).1.symm (by have k := (nm_1 (hi := hi) hlo.1 hge (by omega)).2; omega)
          · skip
            refine G_bipush dX6_number_91 rfl ?_
            refine G_iload_n dX6_number_93 rfl rfl ?_
            refine G_imul dX6_number_94 ?_
            refine G_aload_n dX6_number_95 rfl rfl ?_
            refine G_getf fl_X6_13 dX6_number_96 (by assumption) rfl ?_
            refine G_aload_n dX6_number_99 rfl rfl ?_
            refine G_getf fl_X6_130 dX6_number_100 (by assumption) rfl ?_
            refine G_iald dX6_number_103 (by assumption) (by have q := nxI_in (tx := tx) (len := ty) (p := sp + 1) (by omega); omega) (by have q := nxI_in (tx := tx) (len := ty) (p := sp + 1) (by omega); omega) (by decide) ?_
            have hin3 := nxI_in (tx := tx) (len := ty) (p := sp + 1) (by omega)
            have hat3 := nxI_at (tx := tx) (len := ty) (p := sp + 1) (by omega) (by omega)
            refine G_top hat3.symm ?_
            refine G_iadd dX6_number_104 ?_
            refine G_bipush dX6_number_105 rfl ?_
            refine G_isub dX6_number_107 ?_
            refine G_iload_n dX6_number_108 rfl rfl ?_
            refine G_icmp_gt (tgt := 116) dX6_number_109 (by decide) (inR_of (by omega) (by omega)) (inR_of (by omega) (by omega)) (fun hc109 => ?_) (fun hc109 => ?_)
            · skip
              refine G_iconst dX6_number_116 ?_
              refine G_istore dX6_number_117 (by decide) rfl ?_
              refine G_goto (tgt := 22) dX6_number_119 (by decide) ?_
              exact E _ _ _ hM hF (nm_1 (hi := hi) hlo.1 hge (by omega)).1.symm (by have k := (nm_1 (hi := hi) hlo.1 hge (by omega)).2; omega)
            · skip
              refine G_iconst dX6_number_112 ?_
              refine G_goto (tgt := 117) dX6_number_113 (by decide) ?_
              refine G_istore dX6_number_117 (by decide) rfl ?_
              refine G_goto (tgt := 22) dX6_number_119 (by decide) ?_
              exact K2 _ hM hF hge (by omega)
set_option maxRecDepth 100000 in
set_option maxHeartbeats 4000000 in
theorem c_X6_readsTide (h : List PO) (m : Nat) (s tx mk co : Int → Int) (st kp ty sn se fi ca sp le on tw : Int) (hM : moAt h m s tx mk co st kp ty sn se fi ca sp le on tw) (hx : RG 0 65535 60 tx) (hl : 0 ≤ ty ∧ ty ≤ 60) (hq : 0 ≤ sp ∧ sp ≤ ty) : PM 3 yX6_readsTide cX6_readsTide 2 (some .boolean) h [r_ m] (fun r0 h2 => r0 = some (i_ (tideP tx ty sp).1) ∧ Fr h h2 m (m + 5) ∧ ∃ on2 tw2 : Int, moAt h2 m s tx mk co st kp ty sn se fi ca (tideP tx ty sp).2.1 le on2 tw2 ∧ ((tideP tx ty sp).1 = 1 → on2 = (tideP tx ty sp).2.2.2.1 ∧ tw2 = (tideP tx ty sp).2.2.2.2)) := by
  refine PM_of_G RX6 [some (r_ m), none] rfl (by decide +kernel) (Nat.le_of_ble_eq_true rfl) rfl ?_
  obtain ⟨hM0, hM1, hM2, hM3, hM4⟩ := id hM
  have hF : Fr h h m (m + 5) := Fr.rf
  refine G_aload_n dX6_readsTide_0 rfl rfl ?_
  refine G_bipush dX6_readsTide_1 rfl ?_
  refine G_callV (ci := 6) (as := [_]) (c_X6_takes _ m s tx mk co st kp ty sn se fi ca (sp) (le) (on) (tw) 45 hM hx hl (by omega) (by omega)) dX6_readsTide_3 ml_X6_137 cv_X6_takes (by assumption) rfl rfl (Nat.le_of_ble_eq_true rfl) (Nat.le_of_ble_eq_true rfl) rfl (fun r h2 hp => ?_)
  obtain ⟨y1, rfl, hG, hM, hy1⟩ := hp
  have hF := hF.tr hG
  obtain ⟨hM0, hM1, hM2, hM3, hM4⟩ := id hM
  refine G_istore_n dX6_readsTide_6 rfl (by decide) rfl ?_
  have e1 : sp + y1 = negA tx ty sp := by
    unfold negA
    rcases hy1 with q | q
    · rw [if_pos (by omega)]; omega
    · rw [if_neg (by omega)]; omega
  rw [e1] at hM
  obtain ⟨hM0, hM1, hM2, hM3, hM4⟩ := id hM
  have hna := negA_rng (tx := tx) hq.1 hq.2
  have hnm := nm_rng (tx := tx) (len := ty) (lo := 0) (hi := 30) (p := negA tx ty sp) (by omega) (by omega) (by omega) (by omega)
  have h51 := n5_or (nmV tx ty 0 30 (negA tx ty sp))
  refine G_aload_n dX6_readsTide_7 rfl rfl ?_
  refine G_aload_n dX6_readsTide_8 rfl rfl ?_
  refine G_iconst dX6_readsTide_9 ?_
  refine G_bipush dX6_readsTide_10 rfl ?_
  refine G_callV (ci := 6) (as := [_, _]) (c_X6_number _ m s tx mk co st kp ty sn se fi ca (negA tx ty sp) (le) (on) (tw) 0 30 hM hx hl (by omega) (by omega) (by omega)) dX6_readsTide_12 ml_X6_140 cv_X6_number (by assumption) rfl rfl (Nat.le_of_ble_eq_true rfl) (Nat.le_of_ble_eq_true rfl) rfl (fun r h2 hp => ?_)
  obtain ⟨rfl, hG, hM⟩ := hp
  have hF := hF.tr hG
  obtain ⟨hM0, hM1, hM2, hM3, hM4⟩ := id hM
  refine G_putI (fs2 := [r_ (m + 1), i_ (st), i_ (kp), r_ (m + 2), i_ (ty), i_ (sn), i_ (se), r_ (m + 3), i_ (fi), i_ (ca), r_ (m + 4), i_ (nmE tx ty 0 30 (negA tx ty sp)), i_ (le), i_ (n5 (nmV tx ty 0 30 (negA tx ty sp))), i_ (tw)]) fp_X6_143 dX6_readsTide_15 (by assumption) (Nat.le_of_ble_eq_true rfl) rfl ?_
  have hM := hM.obj (st) (kp) (ty) (sn) (se) (fi) (ca) (nmE tx ty 0 30 (negA tx ty sp)) (le) (n5 (nmV tx ty 0 30 (negA tx ty sp))) (tw)
  obtain ⟨hM0, hM1, hM2, hM3, hM4⟩ := id hM
  have hF := hF.tr (Fr.set (o := oMod m (st) (kp) (ty) (sn) (se) (fi) (ca) (nmE tx ty 0 30 (negA tx ty sp)) (le) (n5 (nmV tx ty 0 30 (negA tx ty sp))) (tw)) (show m ≤ m by omega) (show m < m + 5 by omega))
  refine G_aload_n dX6_readsTide_18 rfl rfl ?_
  refine G_getf fl_X6_143 dX6_readsTide_19 (by assumption) rfl ?_
  refine G_bipush dX6_readsTide_22 rfl ?_
  refine G_icmp_ne (tgt := 29) dX6_readsTide_24 (by decide) (inR_of (by omega) (by omega)) (inR_of (by omega) (by omega)) (fun hc24 => ?_) (fun hc24 => ?_)
  · skip
    refine G_aload_n dX6_readsTide_29 rfl rfl ?_
    refine G_iload_n dX6_readsTide_30 rfl rfl ?_
    refine G_if_eq (tgt := 42) dX6_readsTide_31 (by decide) (inR_of (by omega) (by omega)) (fun hc31 => ?_) (fun hc31 => ?_)
    · skip
      refine G_aload_n dX6_readsTide_42 rfl rfl ?_
      refine G_getf fl_X6_143 dX6_readsTide_43 (by assumption) rfl ?_
      refine G_top (y := negV tx ty sp (nmV tx ty 0 30 (negA tx ty sp))) (by unfold negV; rw [if_neg (by omega)]; omega) ?_
      refine G_putI (fs2 := [r_ (m + 1), i_ (st), i_ (kp), r_ (m + 2), i_ (ty), i_ (sn), i_ (se), r_ (m + 3), i_ (fi), i_ (ca), r_ (m + 4), i_ (nmE tx ty 0 30 (negA tx ty sp)), i_ (le), i_ (negV tx ty sp (nmV tx ty 0 30 (negA tx ty sp))), i_ (tw)]) fp_X6_143 dX6_readsTide_46 (by assumption) (Nat.le_of_ble_eq_true rfl) rfl ?_
      have hM := hM.obj (st) (kp) (ty) (sn) (se) (fi) (ca) (nmE tx ty 0 30 (negA tx ty sp)) (le) (negV tx ty sp (nmV tx ty 0 30 (negA tx ty sp))) (tw)
      obtain ⟨hM0, hM1, hM2, hM3, hM4⟩ := id hM
      have hF := hF.tr (Fr.set (o := oMod m (st) (kp) (ty) (sn) (se) (fi) (ca) (nmE tx ty 0 30 (negA tx ty sp)) (le) (negV tx ty sp (nmV tx ty 0 30 (negA tx ty sp))) (tw)) (show m ≤ m by omega) (show m < m + 5 by omega))
      refine G_aload_n dX6_readsTide_49 rfl rfl ?_
      refine G_aload_n dX6_readsTide_50 rfl rfl ?_
      refine G_bipush dX6_readsTide_51 rfl ?_
      refine G_callV (ci := 6) (as := [_]) (c_X6_takes _ m s tx mk co st kp ty sn se fi ca (nmE tx ty 0 30 (negA tx ty sp)) (le) (negV tx ty sp (nmV tx ty 0 30 (negA tx ty sp))) (tw) 42 hM hx hl (by omega) (by omega)) dX6_readsTide_53 ml_X6_137 cv_X6_takes (by assumption) rfl rfl (Nat.le_of_ble_eq_true rfl) (Nat.le_of_ble_eq_true rfl) rfl (fun r h2 hp => ?_)
      obtain ⟨y2, rfl, hG, hM, hy2⟩ := hp
      have hF := hF.tr hG
      obtain ⟨hM0, hM1, hM2, hM3, hM4⟩ := id hM
      refine G_if_eq (tgt := 69) dX6_readsTide_56 (by decide) (inR_of (by omega) (by omega)) (fun hc56 => ?_) (fun hc56 => ?_)
      · skip
        have hy20 : y2 = 0 := by omega
        subst hy20
        rw [Int.add_zero] at hM
        obtain ⟨hM0, hM1, hM2, hM3, hM4⟩ := id hM
        refine G_iconst dX6_readsTide_69 ?_
        refine G_putI (fs2 := [r_ (m + 1), i_ (st), i_ (kp), r_ (m + 2), i_ (ty), i_ (sn), i_ (se), r_ (m + 3), i_ (fi), i_ (ca), r_ (m + 4), i_ (nmE tx ty 0 30 (negA tx ty sp)), i_ (le), i_ (negV tx ty sp (nmV tx ty 0 30 (negA tx ty sp))), i_ (1)]) fp_X6_146 dX6_readsTide_70 (by assumption) (Nat.le_of_ble_eq_true rfl) rfl ?_
        have hM := hM.obj (st) (kp) (ty) (sn) (se) (fi) (ca) (nmE tx ty 0 30 (negA tx ty sp)) (le) (negV tx ty sp (nmV tx ty 0 30 (negA tx ty sp))) (1)
        obtain ⟨hM0, hM1, hM2, hM3, hM4⟩ := id hM
        have hF := hF.tr (Fr.set (o := oMod m (st) (kp) (ty) (sn) (se) (fi) (ca) (nmE tx ty 0 30 (negA tx ty sp)) (le) (negV tx ty sp (nmV tx ty 0 30 (negA tx ty sp))) (1)) (show m ≤ m by omega) (show m < m + 5 by omega))
        refine G_aload_n dX6_readsTide_73 rfl rfl ?_
        refine G_getf fl_X6_146 dX6_readsTide_74 (by assumption) rfl ?_
        refine G_bipush dX6_readsTide_77 rfl ?_
        refine G_icmp_eq (tgt := 86) dX6_readsTide_79 (by decide) (inR_of (by omega) (by omega)) (inR_of (by omega) (by omega)) (fun hc79 => ?_) (fun hc79 => ?_)
        · skip
          exfalso; omega
        · skip
          refine G_iconst dX6_readsTide_82 ?_
          refine G_goto (tgt := 87) dX6_readsTide_83 (by decide) ?_
          refine G_zreturn dX6_readsTide_87 rfl (by first | exact Or.inl rfl | exact Or.inr rfl) ?_
          have e9 : tideP tx ty sp = (1, nmE tx ty 0 30 (negA tx ty sp), 0, negV tx ty sp (nmV tx ty 0 30 (negA tx ty sp)), 1) := by unfold tideP; rw [if_neg (by omega), if_neg (by omega)]
          rw [e9]
          exact ⟨rfl, hF, _, _, hM, fun _ => ⟨rfl, rfl⟩⟩
      · skip
        have hy21 : y2 = 1 := by omega
        subst hy21
        have hin4 := nxI_in (tx := tx) (len := ty) (p := nmE tx ty 0 30 (negA tx ty sp)) (by omega)
        have hnm2 := nm_rng (tx := tx) (len := ty) (lo := 1) (hi := 99) (p := nmE tx ty 0 30 (negA tx ty sp) + 1) (by omega) (by omega) (by omega) (by omega)
        have h52 := n5_or (nmV tx ty 1 99 (nmE tx ty 0 30 (negA tx ty sp) + 1))
        refine G_aload_n dX6_readsTide_59 rfl rfl ?_
        refine G_iconst dX6_readsTide_60 ?_
        refine G_bipush dX6_readsTide_61 rfl ?_
        refine G_callV (ci := 6) (as := [_, _]) (c_X6_number _ m s tx mk co st kp ty sn se fi ca (nmE tx ty 0 30 (negA tx ty sp) + 1) (le) (negV tx ty sp (nmV tx ty 0 30 (negA tx ty sp))) (tw) 1 99 hM hx hl (by omega) (by omega) (by omega)) dX6_readsTide_63 ml_X6_140 cv_X6_number (by assumption) rfl rfl (Nat.le_of_ble_eq_true rfl) (Nat.le_of_ble_eq_true rfl) rfl (fun r h2 hp => ?_)
        obtain ⟨rfl, hG, hM⟩ := hp
        have hF := hF.tr hG
        obtain ⟨hM0, hM1, hM2, hM3, hM4⟩ := id hM
        refine G_goto (tgt := 70) dX6_readsTide_66 (by decide) ?_
        refine G_putI (fs2 := [r_ (m + 1), i_ (st), i_ (kp), r_ (m + 2), i_ (ty), i_ (sn), i_ (se), r_ (m + 3), i_ (fi), i_ (ca), r_ (m + 4), i_ (nmE tx ty 1 99 (nmE tx ty 0 30 (negA tx ty sp) + 1)), i_ (le), i_ (negV tx ty sp (nmV tx ty 0 30 (negA tx ty sp))), i_ (n5 (nmV tx ty 1 99 (nmE tx ty 0 30 (negA tx ty sp) + 1)))]) fp_X6_146 dX6_readsTide_70 (by assumption) (Nat.le_of_ble_eq_true rfl) rfl ?_
        have hM := hM.obj (st) (kp) (ty) (sn) (se) (fi) (ca) (nmE tx ty 1 99 (nmE tx ty 0 30 (negA tx ty sp) + 1)) (le) (negV tx ty sp (nmV tx ty 0 30 (negA tx ty sp))) (n5 (nmV tx ty 1 99 (nmE tx ty 0 30 (negA tx ty sp) + 1)))
        obtain ⟨hM0, hM1, hM2, hM3, hM4⟩ := id hM
        have hF := hF.tr (Fr.set (o := oMod m (st) (kp) (ty) (sn) (se) (fi) (ca) (nmE tx ty 1 99 (nmE tx ty 0 30 (negA tx ty sp) + 1)) (le) (negV tx ty sp (nmV tx ty 0 30 (negA tx ty sp))) (n5 (nmV tx ty 1 99 (nmE tx ty 0 30 (negA tx ty sp) + 1)))) (show m ≤ m by omega) (show m < m + 5 by omega))
        refine G_aload_n dX6_readsTide_73 rfl rfl ?_
        refine G_getf fl_X6_146 dX6_readsTide_74 (by assumption) rfl ?_
        refine G_bipush dX6_readsTide_77 rfl ?_
        refine G_icmp_eq (tgt := 86) dX6_readsTide_79 (by decide) (inR_of (by omega) (by omega)) (inR_of (by omega) (by omega)) (fun hc79 => ?_) (fun hc79 => ?_)
        · skip
          refine G_iconst dX6_readsTide_86 ?_
          refine G_zreturn dX6_readsTide_87 rfl (by first | exact Or.inl rfl | exact Or.inr rfl) ?_
          first
            | (have e9 : tideP tx ty sp = (0, nmE tx ty 1 99 (nmE tx ty 0 30 (negA tx ty sp) + 1), 0, 0, 0) := by unfold tideP; rw [if_neg (by omega), if_pos (by omega), if_pos (by omega)]
               rw [e9]
               exact ⟨rfl, hF, _, _, hM, fun q => absurd (show (0 : Int) = 1 from q) (by decide)⟩)
            | (have e9 : tideP tx ty sp = (1, nmE tx ty 1 99 (nmE tx ty 0 30 (negA tx ty sp) + 1), 0, negV tx ty sp (nmV tx ty 0 30 (negA tx ty sp)), nmV tx ty 1 99 (nmE tx ty 0 30 (negA tx ty sp) + 1)) := by unfold tideP; rw [if_neg (by omega), if_pos (by omega), if_neg (by omega)]
               rw [e9]
               exact ⟨rfl, hF, _, _, hM, fun _ => ⟨rfl, by dsimp only; omega⟩⟩)
        · skip
          refine G_iconst dX6_readsTide_82 ?_
          refine G_goto (tgt := 87) dX6_readsTide_83 (by decide) ?_
          refine G_zreturn dX6_readsTide_87 rfl (by first | exact Or.inl rfl | exact Or.inr rfl) ?_
          first
            | (have e9 : tideP tx ty sp = (0, nmE tx ty 1 99 (nmE tx ty 0 30 (negA tx ty sp) + 1), 0, 0, 0) := by unfold tideP; rw [if_neg (by omega), if_pos (by omega), if_pos (by omega)]
               rw [e9]
               exact ⟨rfl, hF, _, _, hM, fun q => absurd (show (0 : Int) = 1 from q) (by decide)⟩)
            | (have e9 : tideP tx ty sp = (1, nmE tx ty 1 99 (nmE tx ty 0 30 (negA tx ty sp) + 1), 0, negV tx ty sp (nmV tx ty 0 30 (negA tx ty sp)), nmV tx ty 1 99 (nmE tx ty 0 30 (negA tx ty sp) + 1)) := by unfold tideP; rw [if_neg (by omega), if_pos (by omega), if_neg (by omega)]
               rw [e9]
               exact ⟨rfl, hF, _, _, hM, fun _ => ⟨rfl, by dsimp only; omega⟩⟩)
    · skip
      refine G_aload_n dX6_readsTide_34 rfl rfl ?_
      refine G_getf fl_X6_143 dX6_readsTide_35 (by assumption) rfl ?_
      refine G_ineg dX6_readsTide_38 ?_
      refine G_top (y := negV tx ty sp (nmV tx ty 0 30 (negA tx ty sp))) (by unfold negV; rw [if_pos (by omega)]; omega) ?_
      refine G_goto (tgt := 46) dX6_readsTide_39 (by decide) ?_
      refine G_putI (fs2 := [r_ (m + 1), i_ (st), i_ (kp), r_ (m + 2), i_ (ty), i_ (sn), i_ (se), r_ (m + 3), i_ (fi), i_ (ca), r_ (m + 4), i_ (nmE tx ty 0 30 (negA tx ty sp)), i_ (le), i_ (negV tx ty sp (nmV tx ty 0 30 (negA tx ty sp))), i_ (tw)]) fp_X6_143 dX6_readsTide_46 (by assumption) (Nat.le_of_ble_eq_true rfl) rfl ?_
      have hM := hM.obj (st) (kp) (ty) (sn) (se) (fi) (ca) (nmE tx ty 0 30 (negA tx ty sp)) (le) (negV tx ty sp (nmV tx ty 0 30 (negA tx ty sp))) (tw)
      obtain ⟨hM0, hM1, hM2, hM3, hM4⟩ := id hM
      have hF := hF.tr (Fr.set (o := oMod m (st) (kp) (ty) (sn) (se) (fi) (ca) (nmE tx ty 0 30 (negA tx ty sp)) (le) (negV tx ty sp (nmV tx ty 0 30 (negA tx ty sp))) (tw)) (show m ≤ m by omega) (show m < m + 5 by omega))
      refine G_aload_n dX6_readsTide_49 rfl rfl ?_
      refine G_aload_n dX6_readsTide_50 rfl rfl ?_
      refine G_bipush dX6_readsTide_51 rfl ?_
      refine G_callV (ci := 6) (as := [_]) (c_X6_takes _ m s tx mk co st kp ty sn se fi ca (nmE tx ty 0 30 (negA tx ty sp)) (le) (negV tx ty sp (nmV tx ty 0 30 (negA tx ty sp))) (tw) 42 hM hx hl (by omega) (by omega)) dX6_readsTide_53 ml_X6_137 cv_X6_takes (by assumption) rfl rfl (Nat.le_of_ble_eq_true rfl) (Nat.le_of_ble_eq_true rfl) rfl (fun r h2 hp => ?_)
      obtain ⟨y2, rfl, hG, hM, hy2⟩ := hp
      have hF := hF.tr hG
      obtain ⟨hM0, hM1, hM2, hM3, hM4⟩ := id hM
      refine G_if_eq (tgt := 69) dX6_readsTide_56 (by decide) (inR_of (by omega) (by omega)) (fun hc56 => ?_) (fun hc56 => ?_)
      · skip
        have hy20 : y2 = 0 := by omega
        subst hy20
        rw [Int.add_zero] at hM
        obtain ⟨hM0, hM1, hM2, hM3, hM4⟩ := id hM
        refine G_iconst dX6_readsTide_69 ?_
        refine G_putI (fs2 := [r_ (m + 1), i_ (st), i_ (kp), r_ (m + 2), i_ (ty), i_ (sn), i_ (se), r_ (m + 3), i_ (fi), i_ (ca), r_ (m + 4), i_ (nmE tx ty 0 30 (negA tx ty sp)), i_ (le), i_ (negV tx ty sp (nmV tx ty 0 30 (negA tx ty sp))), i_ (1)]) fp_X6_146 dX6_readsTide_70 (by assumption) (Nat.le_of_ble_eq_true rfl) rfl ?_
        have hM := hM.obj (st) (kp) (ty) (sn) (se) (fi) (ca) (nmE tx ty 0 30 (negA tx ty sp)) (le) (negV tx ty sp (nmV tx ty 0 30 (negA tx ty sp))) (1)
        obtain ⟨hM0, hM1, hM2, hM3, hM4⟩ := id hM
        have hF := hF.tr (Fr.set (o := oMod m (st) (kp) (ty) (sn) (se) (fi) (ca) (nmE tx ty 0 30 (negA tx ty sp)) (le) (negV tx ty sp (nmV tx ty 0 30 (negA tx ty sp))) (1)) (show m ≤ m by omega) (show m < m + 5 by omega))
        refine G_aload_n dX6_readsTide_73 rfl rfl ?_
        refine G_getf fl_X6_146 dX6_readsTide_74 (by assumption) rfl ?_
        refine G_bipush dX6_readsTide_77 rfl ?_
        refine G_icmp_eq (tgt := 86) dX6_readsTide_79 (by decide) (inR_of (by omega) (by omega)) (inR_of (by omega) (by omega)) (fun hc79 => ?_) (fun hc79 => ?_)
        · skip
          exfalso; omega
        · skip
          refine G_iconst dX6_readsTide_82 ?_
          refine G_goto (tgt := 87) dX6_readsTide_83 (by decide) ?_
          refine G_zreturn dX6_readsTide_87 rfl (by first | exact Or.inl rfl | exact Or.inr rfl) ?_
          have e9 : tideP tx ty sp = (1, nmE tx ty 0 30 (negA tx ty sp), 0, negV tx ty sp (nmV tx ty 0 30 (negA tx ty sp)), 1) := by unfold tideP; rw [if_neg (by omega), if_neg (by omega)]
          rw [e9]
          exact ⟨rfl, hF, _, _, hM, fun _ => ⟨rfl, rfl⟩⟩
      · skip
        have hy21 : y2 = 1 := by omega
        subst hy21
        have hin4 := nxI_in (tx := tx) (len := ty) (p := nmE tx ty 0 30 (negA tx ty sp)) (by omega)
        have hnm2 := nm_rng (tx := tx) (len := ty) (lo := 1) (hi := 99) (p := nmE tx ty 0 30 (negA tx ty sp) + 1) (by omega) (by omega) (by omega) (by omega)
        have h52 := n5_or (nmV tx ty 1 99 (nmE tx ty 0 30 (negA tx ty sp) + 1))
        refine G_aload_n dX6_readsTide_59 rfl rfl ?_
        refine G_iconst dX6_readsTide_60 ?_
        refine G_bipush dX6_readsTide_61 rfl ?_
        refine G_callV (ci := 6) (as := [_, _]) (c_X6_number _ m s tx mk co st kp ty sn se fi ca (nmE tx ty 0 30 (negA tx ty sp) + 1) (le) (negV tx ty sp (nmV tx ty 0 30 (negA tx ty sp))) (tw) 1 99 hM hx hl (by omega) (by omega) (by omega)) dX6_readsTide_63 ml_X6_140 cv_X6_number (by assumption) rfl rfl (Nat.le_of_ble_eq_true rfl) (Nat.le_of_ble_eq_true rfl) rfl (fun r h2 hp => ?_)
        obtain ⟨rfl, hG, hM⟩ := hp
        have hF := hF.tr hG
        obtain ⟨hM0, hM1, hM2, hM3, hM4⟩ := id hM
        refine G_goto (tgt := 70) dX6_readsTide_66 (by decide) ?_
        refine G_putI (fs2 := [r_ (m + 1), i_ (st), i_ (kp), r_ (m + 2), i_ (ty), i_ (sn), i_ (se), r_ (m + 3), i_ (fi), i_ (ca), r_ (m + 4), i_ (nmE tx ty 1 99 (nmE tx ty 0 30 (negA tx ty sp) + 1)), i_ (le), i_ (negV tx ty sp (nmV tx ty 0 30 (negA tx ty sp))), i_ (n5 (nmV tx ty 1 99 (nmE tx ty 0 30 (negA tx ty sp) + 1)))]) fp_X6_146 dX6_readsTide_70 (by assumption) (Nat.le_of_ble_eq_true rfl) rfl ?_
        have hM := hM.obj (st) (kp) (ty) (sn) (se) (fi) (ca) (nmE tx ty 1 99 (nmE tx ty 0 30 (negA tx ty sp) + 1)) (le) (negV tx ty sp (nmV tx ty 0 30 (negA tx ty sp))) (n5 (nmV tx ty 1 99 (nmE tx ty 0 30 (negA tx ty sp) + 1)))
        obtain ⟨hM0, hM1, hM2, hM3, hM4⟩ := id hM
        have hF := hF.tr (Fr.set (o := oMod m (st) (kp) (ty) (sn) (se) (fi) (ca) (nmE tx ty 1 99 (nmE tx ty 0 30 (negA tx ty sp) + 1)) (le) (negV tx ty sp (nmV tx ty 0 30 (negA tx ty sp))) (n5 (nmV tx ty 1 99 (nmE tx ty 0 30 (negA tx ty sp) + 1)))) (show m ≤ m by omega) (show m < m + 5 by omega))
        refine G_aload_n dX6_readsTide_73 rfl rfl ?_
        refine G_getf fl_X6_146 dX6_readsTide_74 (by assumption) rfl ?_
        refine G_bipush dX6_readsTide_77 rfl ?_
        refine G_icmp_eq (tgt := 86) dX6_readsTide_79 (by decide) (inR_of (by omega) (by omega)) (inR_of (by omega) (by omega)) (fun hc79 => ?_) (fun hc79 => ?_)
        · skip
          refine G_iconst dX6_readsTide_86 ?_
          refine G_zreturn dX6_readsTide_87 rfl (by first | exact Or.inl rfl | exact Or.inr rfl) ?_
          first
            | (have e9 : tideP tx ty sp = (0, nmE tx ty 1 99 (nmE tx ty 0 30 (negA tx ty sp) + 1), 0, 0, 0) := by unfold tideP; rw [if_neg (by omega), if_pos (by omega), if_pos (by omega)]
               rw [e9]
               exact ⟨rfl, hF, _, _, hM, fun q => absurd (show (0 : Int) = 1 from q) (by decide)⟩)
            | (have e9 : tideP tx ty sp = (1, nmE tx ty 1 99 (nmE tx ty 0 30 (negA tx ty sp) + 1), 0, negV tx ty sp (nmV tx ty 0 30 (negA tx ty sp)), nmV tx ty 1 99 (nmE tx ty 0 30 (negA tx ty sp) + 1)) := by unfold tideP; rw [if_neg (by omega), if_pos (by omega), if_neg (by omega)]
               rw [e9]
               exact ⟨rfl, hF, _, _, hM, fun _ => ⟨rfl, by dsimp only; omega⟩⟩)
        · skip
          refine G_iconst dX6_readsTide_82 ?_
          refine G_goto (tgt := 87) dX6_readsTide_83 (by decide) ?_
          refine G_zreturn dX6_readsTide_87 rfl (by first | exact Or.inl rfl | exact Or.inr rfl) ?_
          first
            | (have e9 : tideP tx ty sp = (0, nmE tx ty 1 99 (nmE tx ty 0 30 (negA tx ty sp) + 1), 0, 0, 0) := by unfold tideP; rw [if_neg (by omega), if_pos (by omega), if_pos (by omega)]
               rw [e9]
               exact ⟨rfl, hF, _, _, hM, fun q => absurd (show (0 : Int) = 1 from q) (by decide)⟩)
            | (have e9 : tideP tx ty sp = (1, nmE tx ty 1 99 (nmE tx ty 0 30 (negA tx ty sp) + 1), 0, negV tx ty sp (nmV tx ty 0 30 (negA tx ty sp)), nmV tx ty 1 99 (nmE tx ty 0 30 (negA tx ty sp) + 1)) := by unfold tideP; rw [if_neg (by omega), if_pos (by omega), if_neg (by omega)]
               rw [e9]
               exact ⟨rfl, hF, _, _, hM, fun _ => ⟨rfl, by dsimp only; omega⟩⟩)
  · skip
    refine G_iconst dX6_readsTide_27 ?_
    refine G_zreturn dX6_readsTide_28 rfl (by first | exact Or.inl rfl | exact Or.inr rfl) ?_
    have e9 : tideP tx ty sp = (0, nmE tx ty 0 30 (negA tx ty sp), 0, 0, 0) := by unfold tideP; rw [if_pos (by omega)]
    rw [e9]
    exact ⟨rfl, hF, _, _, hM, fun q => absurd (show (0 : Int) = 1 from q) (by decide)⟩
