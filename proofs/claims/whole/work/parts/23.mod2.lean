def fiI (t i : Int) : Int := if t < i then t else -5
def caI (o : Int → Int) (t i : Int) : Int := if t < i then o t else 0
theorem fiI_or (t i : Int) : t < i ∧ fiI t i = t ∨ i ≤ t ∧ fiI t i = -5 := by
  unfold fiI
  by_cases q : t < i
  · rw [if_pos q]; exact Or.inl ⟨q, rfl⟩
  · rw [if_neg q]; exact Or.inr ⟨by omega, rfl⟩
theorem fiI_s {t i : Int} (h : i ≠ t) : fiI t (i + 1) = fiI t i := by
  unfold fiI
  by_cases q : t < i
  · rw [if_pos q, if_pos (by omega)]
  · rw [if_neg q, if_neg (by omega)]
theorem caI_s {o : Int → Int} {t i : Int} (h : i ≠ t) : caI o t (i + 1) = caI o t i := by
  unfold caI
  by_cases q : t < i
  · rw [if_pos q, if_pos (by omega)]
  · rw [if_neg q, if_neg (by omega)]
theorem fiI_h {t i : Int} (h : i = t) : fiI t (i + 1) = i := by
  unfold fiI
  rw [if_pos (by omega), h]
theorem caI_h {o : Int → Int} {t i : Int} (h : i = t) : caI o t (i + 1) = o i := by
  unfold caI
  rw [if_pos (by omega), h]
set_option maxRecDepth 100000 in
set_option maxHeartbeats 4000000 in
theorem c_X6_findsMarks (h : List PO) (m : Nat) (s tx mk co : Int → Int) (st kp ty sn se fi ca sp le on tw : Int) (b r : Int) (D S H T C R A Z W U : Int → Int) (N : Int) (E : Int → Int) (X Y F : Int) (hM : moAt h m s tx mk co st kp ty sn se fi ca sp le on tw) (b0 : 0 ≤ b) (b1 : b ≤ 1421) (hR : rwF s b D S H T C R A Z W U N E X Y F) (hD : RG 1 60 40 D) (hS : RG 0 60 40 S) (hH : RG 0 60 40 H) (hE : (0 ≤ E 0 ∧ E 0 ≤ 60) ∧ (0 ≤ E 1 ∧ E 1 ≤ 9) ∧ (1 ≤ E 2 ∧ E 2 ≤ 60)) (hX : 0 ≤ X ∧ X ≤ 99) (hr : -30 ≤ r ∧ r ≤ 30) : PM 1 yX6_findsMarks cX6_findsMarks 6 none h [r_ m, i_ b, i_ r] (fun r0 h2 => r0 = none ∧ Fr h h2 m (m + 5) ∧ ∃ mk2 : Int → Int, moAt h2 m s tx mk2 co st kp ty sn se (fiI (stI (E 0 + r - X) (E 1) S D) 40) (caI (offI (E 0 + r - X) (E 1) S D) (stI (E 0 + r - X) (E 1) S D) 40) sp le on tw ∧ ∀ j : Int, 0 ≤ j → j < 40 → mk2 j = mkI (E 0 + r - X) (E 1) S D j) := by
  refine PM_of_G RX6 [some (r_ m), some (i_ b), some (i_ r), none, none, none] rfl (by decide +kernel) (Nat.le_of_ble_eq_true rfl) rfl ?_
  obtain ⟨hM0, hM1, hM2, hM3, hM4⟩ := id hM
  obtain ⟨hRc, ⟨hR0, hR1, hR2, hR3, hR4, hR5, hR6⟩, hRw⟩ := id hR
  have hF : Fr h h m (m + 5) := Fr.rf
  have hIs := stI_is (E 0 + r - X) (E 1) S D
  have hI0 := hIs.1
  have hI1 := hIs.2.1
  have L : ∀ (fu : Nat) (i : Int) (hh : List PO) (mk2 : Int → Int) (vv : Int), 0 ≤ i → i ≤ 40 → (i = 0 → vv = E 0 + r - X) → moAt hh m s tx mk2 co st kp ty sn se (fiI (stI (E 0 + r - X) (E 1) S D) i) (caI (offI (E 0 + r - X) (E 1) S D) (stI (E 0 + r - X) (E 1) S D) i) sp le on tw → (∀ j : Int, 0 ≤ j → j < i → mk2 j = mkI (E 0 + r - X) (E 1) S D j) → Fr h hh m (m + 5) → 40 - i < fu → G 1 cX6_findsMarks RX6 6 none hh 34 [some (r_ m), some (i_ b), some (i_ r), some (i_ vv), some (i_ i), none] [] (fun r0 h2 => r0 = none ∧ Fr h h2 m (m + 5) ∧ ∃ mk2 : Int → Int, moAt h2 m s tx mk2 co st kp ty sn se (fiI (stI (E 0 + r - X) (E 1) S D) 40) (caI (offI (E 0 + r - X) (E 1) S D) (stI (E 0 + r - X) (E 1) S D) 40) sp le on tw ∧ ∀ j : Int, 0 ≤ j → j < 40 → mk2 j = mkI (E 0 + r - X) (E 1) S D j) := by
    intro fu
    induction fu with
    | zero => intro i hh mk2 vv a1 a2 hvv hM hmk hF hmeas; exfalso; omega
    | succ fu ih =>
      intro i hh mk2 vv a1 a2 hvv hM hmk hF hmeas
      obtain ⟨hM0, hM1, hM2, hM3, hM4⟩ := id hM
      have hfi := fiI_or (stI (E 0 + r - X) (E 1) S D) i
      have hor := fun (x0 : i < 40) => offI_rng (push := E 0 + r - X) (slope := E 1) (sil := S) (dep := D) (by omega) hE.2.1 hS hD i a1 (by omega)
      have hz0 : i < 40 → stI (E 0 + r - X) (E 1) S D ≤ i → 0 = mkI (E 0 + r - X) (E 1) S D i := fun x0 x1 => (mk_dead hE.2.1.1 hS hIs.1 (hIs.2.2.2 (by omega)) x1 x0).symm
      have hzp : i < 40 → i < stI (E 0 + r - X) (E 1) S D → min (offI (E 0 + r - X) (E 1) S D i) (D i) = mkI (E 0 + r - X) (E 1) S D i := fun x0 x1 => (mkf_gt (hIs.2.2.1 i a1 x1)).symm
      have hop : 1 ≤ i → mkI (E 0 + r - X) (E 1) S D (i - 1) - E 1 = offI (E 0 + r - X) (E 1) S D i := fun x1 => by
        have k := offI_s (E 0 + r - X) (E 1) S D (c := i - 1) (by omega)
        rw [show i - 1 + 1 = i from by omega] at k
        exact k.symm
      have hss := fun (x0 : i < stI (E 0 + r - X) (E 1) S D) => hIs.2.2.1 i a1 x0
      have hs2 := fun (x0 : stI (E 0 + r - X) (E 1) S D < 40) => hIs.2.2.2 x0
      refine G_iload dX6_findsMarks_34 rfl ?_
      refine G_bipush dX6_findsMarks_36 rfl ?_
      refine G_icmp_ge (tgt := 164) dX6_findsMarks_38 (by decide) (inR_of (by omega) (by omega)) (inR_of (by omega) (by omega)) (fun hc38 => ?_) (fun hc38 => ?_)
      · skip
        have e : i = 40 := by omega
        subst e
        refine G_return dX6_findsMarks_164 rfl ?_
        exact ⟨rfl, hF, mk2, hM, hmk⟩
      · skip
        have hi40 : i < 40 := by omega
        have hD9 := hD i a1 hi40
        have hS9 := hS i a1 hi40
        have hor9 := hor hi40
        have hz0 := hz0 hi40
        have hzp := hzp hi40
        have hiS : i = stI (E 0 + r - X) (E 1) S D → offI (E 0 + r - X) (E 1) S D i ≤ S i := fun e => by rw [e]; exact hIs.2.2.2 (by omega)
        skip
        have K : ∀ q : Int, (q = 1 ∧ stI (E 0 + r - X) (E 1) S D ≤ i ∨ q = 0 ∧ i < stI (E 0 + r - X) (E 1) S D) → G 1 cX6_findsMarks RX6 6 none hh 101 [some (r_ m), some (i_ b), some (i_ r), some (i_ (offI (E 0 + r - X) (E 1) S D i)), some (i_ i), some (i_ q)] [] (fun r0 h2 => r0 = none ∧ Fr h h2 m (m + 5) ∧ ∃ mk2 : Int → Int, moAt h2 m s tx mk2 co st kp ty sn se (fiI (stI (E 0 + r - X) (E 1) S D) 40) (caI (offI (E 0 + r - X) (E 1) S D) (stI (E 0 + r - X) (E 1) S D) 40) sp le on tw ∧ ∀ j : Int, 0 ≤ j → j < 40 → mk2 j = mkI (E 0 + r - X) (E 1) S D j) := by
          intro q hq
          refine G_iload dX6_findsMarks_101 rfl ?_
          refine G_if_eq (tgt := 126) dX6_findsMarks_103 (by decide) (inR_of (by omega) (by omega)) (fun hc103 => ?_) (fun hc103 => ?_)
          · skip
            refine G_aload_n dX6_findsMarks_126 rfl rfl ?_
            refine G_getf fl_X6_23 dX6_findsMarks_127 (by assumption) rfl ?_
            refine G_iload dX6_findsMarks_130 rfl ?_
            refine G_iload dX6_findsMarks_132 rfl ?_
            refine G_if_eq (tgt := 141) dX6_findsMarks_134 (by decide) (inR_of (by omega) (by omega)) (fun hc134 => ?_) (fun hc134 => ?_)
            · skip
              refine G_iload_n dX6_findsMarks_141 rfl rfl ?_
              refine G_aload_n dX6_findsMarks_142 rfl rfl ?_
              refine G_getf fl_X6_7 dX6_findsMarks_143 (by assumption) rfl ?_
              refine G_iload_n dX6_findsMarks_146 rfl rfl ?_
              refine G_bipush dX6_findsMarks_147 rfl ?_
              refine G_iadd dX6_findsMarks_149 ?_
              refine G_iload dX6_findsMarks_150 rfl ?_
              refine G_iadd dX6_findsMarks_152 ?_
              refine G_iald dX6_findsMarks_153 (by assumption) (by omega) (by omega) (by decide) ?_
              refine G_top ((hRc (i) (by omega) (by omega)).1) ?_
              refine G_callS (as := [_, _]) (c_X6_less _ (offI (E 0 + r - X) (E 1) S D i) (D i) (inR_of (by omega) (by omega)) (inR_of (by omega) (by omega))) dX6_findsMarks_154 ml_X6_42 cs_X6_less rfl (Nat.le_of_ble_eq_true rfl) (Nat.le_of_ble_eq_true rfl) rfl (fun r h2 hp => ?_)
              obtain ⟨rfl, rfl⟩ := hp
              refine G_iast dX6_findsMarks_157 (by assumption) (by omega) (by omega) (by decide) rfl ?_
              have hM := hM.set3 (fup mk2 i (min (offI (E 0 + r - X) (E 1) S D i) (D i)))
              obtain ⟨hM0, hM1, hM2, hM3, hM4⟩ := id hM
              have hF := hF.tr (Fr.set (o := oI 40 (fup mk2 i (min (offI (E 0 + r - X) (E 1) S D i) (D i)))) (show m ≤ m + 3 by omega) (show m + 3 < m + 5 by omega))
              refine G_iinc dX6_findsMarks_158 (by decide) rfl rfl ?_
              refine G_goto (tgt := 34) dX6_findsMarks_161 (by decide) ?_
              refine G_forget 5 ?_
              refine ih (i + 1) _ (fup mk2 i (min (offI (E 0 + r - X) (E 1) S D i) (D i))) (offI (E 0 + r - X) (E 1) S D i) (by omega) (by omega) (fun e => by exfalso; omega) ?_ ?_ hF (by omega)
              · rw [fiI_s (by omega), caI_s (by omega)]; exact hM
              · intro j j0 j1
                by_cases e : j = i
                · rw [e, fup_eq]; exact hzp (by omega)
                · rw [fup_ne e]; exact hmk j j0 (by omega)
            · skip
              exfalso; omega
          · skip
            refine G_aload_n dX6_findsMarks_106 rfl rfl ?_
            refine G_getf fl_X6_36 dX6_findsMarks_107 (by assumption) rfl ?_
            refine G_bipush dX6_findsMarks_110 rfl ?_
            refine G_icmp_ne (tgt := 126) dX6_findsMarks_112 (by decide) (inR_of (by omega) (by omega)) (inR_of (by omega) (by omega)) (fun hc112 => ?_) (fun hc112 => ?_)
            · skip
              refine G_aload_n dX6_findsMarks_126 rfl rfl ?_
              refine G_getf fl_X6_23 dX6_findsMarks_127 (by assumption) rfl ?_
              refine G_iload dX6_findsMarks_130 rfl ?_
              refine G_iload dX6_findsMarks_132 rfl ?_
              refine G_if_eq (tgt := 141) dX6_findsMarks_134 (by decide) (inR_of (by omega) (by omega)) (fun hc134 => ?_) (fun hc134 => ?_)
              · skip
                exfalso; omega
              · skip
                refine G_iconst dX6_findsMarks_137 ?_
                refine G_goto (tgt := 157) dX6_findsMarks_138 (by decide) ?_
                refine G_iast dX6_findsMarks_157 (by assumption) (by omega) (by omega) (by decide) rfl ?_
                have hM := hM.set3 (fup mk2 i 0)
                obtain ⟨hM0, hM1, hM2, hM3, hM4⟩ := id hM
                have hF := hF.tr (Fr.set (o := oI 40 (fup mk2 i 0)) (show m ≤ m + 3 by omega) (show m + 3 < m + 5 by omega))
                refine G_iinc dX6_findsMarks_158 (by decide) rfl rfl ?_
                refine G_goto (tgt := 34) dX6_findsMarks_161 (by decide) ?_
                refine G_forget 5 ?_
                refine ih (i + 1) _ (fup mk2 i 0) (offI (E 0 + r - X) (E 1) S D i) (by omega) (by omega) (fun e => by exfalso; omega) ?_ ?_ hF (by omega)
                · rw [fiI_s (by omega), caI_s (by omega)]; exact hM
                · intro j j0 j1
                  by_cases e : j = i
                  · rw [e, fup_eq]; exact hz0 (by omega)
                  · rw [fup_ne e]; exact hmk j j0 (by omega)
            · skip
              refine G_aload_n dX6_findsMarks_115 rfl rfl ?_
              refine G_iload dX6_findsMarks_116 rfl ?_
              refine G_putI (fs2 := [r_ (m + 1), i_ (st), i_ (kp), r_ (m + 2), i_ (ty), i_ (sn), i_ (se), r_ (m + 3), i_ (i), i_ ((caI (offI (E 0 + r - X) (E 1) S D) (stI (E 0 + r - X) (E 1) S D) i)), r_ (m + 4), i_ (sp), i_ (le), i_ (on), i_ (tw)]) fp_X6_36 dX6_findsMarks_118 (by assumption) (Nat.le_of_ble_eq_true rfl) rfl ?_
              have hM := hM.obj (st) (kp) (ty) (sn) (se) (i) ((caI (offI (E 0 + r - X) (E 1) S D) (stI (E 0 + r - X) (E 1) S D) i)) (sp) (le) (on) (tw)
              obtain ⟨hM0, hM1, hM2, hM3, hM4⟩ := id hM
              have hF := hF.tr (Fr.set (o := oMod m (st) (kp) (ty) (sn) (se) (i) ((caI (offI (E 0 + r - X) (E 1) S D) (stI (E 0 + r - X) (E 1) S D) i)) (sp) (le) (on) (tw)) (show m ≤ m by omega) (show m < m + 5 by omega))
              refine G_aload_n dX6_findsMarks_121 rfl rfl ?_
              refine G_iload_n dX6_findsMarks_122 rfl rfl ?_
              refine G_putI (fs2 := [r_ (m + 1), i_ (st), i_ (kp), r_ (m + 2), i_ (ty), i_ (sn), i_ (se), r_ (m + 3), i_ (i), i_ (offI (E 0 + r - X) (E 1) S D i), r_ (m + 4), i_ (sp), i_ (le), i_ (on), i_ (tw)]) fp_X6_39 dX6_findsMarks_123 (by assumption) (Nat.le_of_ble_eq_true rfl) rfl ?_
              have hM := hM.obj (st) (kp) (ty) (sn) (se) (i) (offI (E 0 + r - X) (E 1) S D i) (sp) (le) (on) (tw)
              obtain ⟨hM0, hM1, hM2, hM3, hM4⟩ := id hM
              have hF := hF.tr (Fr.set (o := oMod m (st) (kp) (ty) (sn) (se) (i) (offI (E 0 + r - X) (E 1) S D i) (sp) (le) (on) (tw)) (show m ≤ m by omega) (show m < m + 5 by omega))
              refine G_aload_n dX6_findsMarks_126 rfl rfl ?_
              refine G_getf fl_X6_23 dX6_findsMarks_127 (by assumption) rfl ?_
              refine G_iload dX6_findsMarks_130 rfl ?_
              refine G_iload dX6_findsMarks_132 rfl ?_
              refine G_if_eq (tgt := 141) dX6_findsMarks_134 (by decide) (inR_of (by omega) (by omega)) (fun hc134 => ?_) (fun hc134 => ?_)
              · skip
                exfalso; omega
              · skip
                refine G_iconst dX6_findsMarks_137 ?_
                refine G_goto (tgt := 157) dX6_findsMarks_138 (by decide) ?_
                refine G_iast dX6_findsMarks_157 (by assumption) (by omega) (by omega) (by decide) rfl ?_
                have hM := hM.set3 (fup mk2 i 0)
                obtain ⟨hM0, hM1, hM2, hM3, hM4⟩ := id hM
                have hF := hF.tr (Fr.set (o := oI 40 (fup mk2 i 0)) (show m ≤ m + 3 by omega) (show m + 3 < m + 5 by omega))
                refine G_iinc dX6_findsMarks_158 (by decide) rfl rfl ?_
                refine G_goto (tgt := 34) dX6_findsMarks_161 (by decide) ?_
                refine G_forget 5 ?_
                refine ih (i + 1) _ (fup mk2 i 0) (offI (E 0 + r - X) (E 1) S D i) (by omega) (by omega) (fun e => by exfalso; omega) ?_ ?_ hF (by omega)
                · rw [fiI_h (by omega), caI_h (by omega)]; exact hM
                · intro j j0 j1
                  by_cases e : j = i
                  · rw [e, fup_eq]; exact hz0 (by omega)
                  · rw [fup_ne e]; exact hmk j j0 (by omega)
        refine G_iload dX6_findsMarks_41 rfl ?_
        refine G_if_ne (tgt := 50) dX6_findsMarks_43 (by decide) (inR_of (by omega) (by omega)) (fun hc43 => ?_) (fun hc43 => ?_)
        · skip
          have hop9 := hop (by omega)
          refine G_aload_n dX6_findsMarks_50 rfl rfl ?_
          refine G_getf fl_X6_23 dX6_findsMarks_51 (by assumption) rfl ?_
          refine G_iload dX6_findsMarks_54 rfl ?_
          refine G_iconst dX6_findsMarks_56 ?_
          refine G_isub dX6_findsMarks_57 ?_
          refine G_iald dX6_findsMarks_58 (by assumption) (by omega) (by omega) (by decide) ?_
          refine G_top (hmk (i - 1) (by omega) (by omega)) ?_
          refine G_aload_n dX6_findsMarks_59 rfl rfl ?_
          refine G_getf fl_X6_7 dX6_findsMarks_60 (by assumption) rfl ?_
          refine G_iload_n dX6_findsMarks_63 rfl rfl ?_
          refine G_iconst dX6_findsMarks_64 ?_
          refine G_iadd dX6_findsMarks_65 ?_
          refine G_iald dX6_findsMarks_66 (by assumption) (by omega) (by omega) (by decide) ?_
          refine G_top (hR1) ?_
          refine G_isub dX6_findsMarks_67 ?_
          refine G_top (y := offI (E 0 + r - X) (E 1) S D i) (by first | assumption | omega) ?_
          refine G_istore_n dX6_findsMarks_68 rfl (by decide) rfl ?_
          refine G_aload_n dX6_findsMarks_69 rfl rfl ?_
          refine G_getf fl_X6_36 dX6_findsMarks_70 (by assumption) rfl ?_
          refine G_bipush dX6_findsMarks_73 rfl ?_
          refine G_icmp_ne (tgt := 94) dX6_findsMarks_75 (by decide) (inR_of (by omega) (by omega)) (inR_of (by omega) (by omega)) (fun hc75 => ?_) (fun hc75 => ?_)
          · skip
            have hfq : stI (E 0 + r - X) (E 1) S D ≤ i := by omega
            refine G_iconst dX6_findsMarks_94 ?_
            refine G_goto (tgt := 99) dX6_findsMarks_95 (by decide) ?_
            refine G_istore dX6_findsMarks_99 (by decide) rfl ?_
            exact K _ (by omega)
          · skip
            refine G_iload_n dX6_findsMarks_78 rfl rfl ?_
            refine G_aload_n dX6_findsMarks_79 rfl rfl ?_
            refine G_getf fl_X6_7 dX6_findsMarks_80 (by assumption) rfl ?_
            refine G_iload_n dX6_findsMarks_83 rfl rfl ?_
            refine G_bipush dX6_findsMarks_84 rfl ?_
            refine G_iadd dX6_findsMarks_86 ?_
            refine G_iload dX6_findsMarks_87 rfl ?_
            refine G_iadd dX6_findsMarks_89 ?_
            refine G_iald dX6_findsMarks_90 (by assumption) (by omega) (by omega) (by decide) ?_
            refine G_top ((hRc (i) (by omega) (by omega)).2.1) ?_
            refine G_icmp_gt (tgt := 98) dX6_findsMarks_91 (by decide) (inR_of (by omega) (by omega)) (inR_of (by omega) (by omega)) (fun hc91 => ?_) (fun hc91 => ?_)
            · skip
              refine G_iconst dX6_findsMarks_98 ?_
              refine G_istore dX6_findsMarks_99 (by decide) rfl ?_
              exact K _ (by omega)
            · skip
              refine G_iconst dX6_findsMarks_94 ?_
              refine G_goto (tgt := 99) dX6_findsMarks_95 (by decide) ?_
              refine G_istore dX6_findsMarks_99 (by decide) rfl ?_
              exact K _ (by omega)
        · skip
          have hv0 : vv = offI (E 0 + r - X) (E 1) S D i := by
            rw [hvv (by omega), show i = 0 from by omega]
            exact (offI_0 _ _ _ _).symm
          refine G_iload_n dX6_findsMarks_46 rfl rfl ?_
          refine G_goto (tgt := 68) dX6_findsMarks_47 (by decide) ?_
          refine G_top (y := offI (E 0 + r - X) (E 1) S D i) (by first | assumption | omega) ?_
          refine G_istore_n dX6_findsMarks_68 rfl (by decide) rfl ?_
          refine G_aload_n dX6_findsMarks_69 rfl rfl ?_
          refine G_getf fl_X6_36 dX6_findsMarks_70 (by assumption) rfl ?_
          refine G_bipush dX6_findsMarks_73 rfl ?_
          refine G_icmp_ne (tgt := 94) dX6_findsMarks_75 (by decide) (inR_of (by omega) (by omega)) (inR_of (by omega) (by omega)) (fun hc75 => ?_) (fun hc75 => ?_)
          · skip
            have hfq : stI (E 0 + r - X) (E 1) S D ≤ i := by omega
            refine G_iconst dX6_findsMarks_94 ?_
            refine G_goto (tgt := 99) dX6_findsMarks_95 (by decide) ?_
            refine G_istore dX6_findsMarks_99 (by decide) rfl ?_
            exact K _ (by omega)
          · skip
            refine G_iload_n dX6_findsMarks_78 rfl rfl ?_
            refine G_aload_n dX6_findsMarks_79 rfl rfl ?_
            refine G_getf fl_X6_7 dX6_findsMarks_80 (by assumption) rfl ?_
            refine G_iload_n dX6_findsMarks_83 rfl rfl ?_
            refine G_bipush dX6_findsMarks_84 rfl ?_
            refine G_iadd dX6_findsMarks_86 ?_
            refine G_iload dX6_findsMarks_87 rfl ?_
            refine G_iadd dX6_findsMarks_89 ?_
            refine G_iald dX6_findsMarks_90 (by assumption) (by omega) (by omega) (by decide) ?_
            refine G_top ((hRc (i) (by omega) (by omega)).2.1) ?_
            refine G_icmp_gt (tgt := 98) dX6_findsMarks_91 (by decide) (inR_of (by omega) (by omega)) (inR_of (by omega) (by omega)) (fun hc91 => ?_) (fun hc91 => ?_)
            · skip
              refine G_iconst dX6_findsMarks_98 ?_
              refine G_istore dX6_findsMarks_99 (by decide) rfl ?_
              exact K _ (by omega)
            · skip
              refine G_iconst dX6_findsMarks_94 ?_
              refine G_goto (tgt := 99) dX6_findsMarks_95 (by decide) ?_
              refine G_istore dX6_findsMarks_99 (by decide) rfl ?_
              exact K _ (by omega)
  refine G_aload_n dX6_findsMarks_0 rfl rfl ?_
  refine G_getf fl_X6_7 dX6_findsMarks_1 (by assumption) rfl ?_
  refine G_iload_n dX6_findsMarks_4 rfl rfl ?_
  refine G_iconst dX6_findsMarks_5 ?_
  refine G_iadd dX6_findsMarks_6 ?_
  refine G_iald dX6_findsMarks_7 (by assumption) (by omega) (by omega) (by decide) ?_
  refine G_top ((congrArg s (Int.add_zero b)).trans hR0) ?_
  refine G_iload_n dX6_findsMarks_8 rfl rfl ?_
  refine G_iadd dX6_findsMarks_9 ?_
  refine G_aload_n dX6_findsMarks_10 rfl rfl ?_
  refine G_getf fl_X6_7 dX6_findsMarks_11 (by assumption) rfl ?_
  refine G_iload_n dX6_findsMarks_14 rfl rfl ?_
  refine G_iconst dX6_findsMarks_15 ?_
  refine G_iadd dX6_findsMarks_16 ?_
  refine G_iald dX6_findsMarks_17 (by assumption) (by omega) (by omega) (by decide) ?_
  refine G_top (hR3) ?_
  refine G_isub dX6_findsMarks_18 ?_
  refine G_istore_n dX6_findsMarks_19 rfl (by decide) rfl ?_
  refine G_aload_n dX6_findsMarks_20 rfl rfl ?_
  refine G_bipush dX6_findsMarks_21 rfl ?_
  refine G_putI (fs2 := [r_ (m + 1), i_ (st), i_ (kp), r_ (m + 2), i_ (ty), i_ (sn), i_ (se), r_ (m + 3), i_ (-5), i_ (ca), r_ (m + 4), i_ (sp), i_ (le), i_ (on), i_ (tw)]) fp_X6_36 dX6_findsMarks_23 (by assumption) (Nat.le_of_ble_eq_true rfl) rfl ?_
  have hM := hM.obj (st) (kp) (ty) (sn) (se) (-5) (ca) (sp) (le) (on) (tw)
  obtain ⟨hM0, hM1, hM2, hM3, hM4⟩ := id hM
  have hF := hF.tr (Fr.set (o := oMod m (st) (kp) (ty) (sn) (se) (-5) (ca) (sp) (le) (on) (tw)) (show m ≤ m by omega) (show m < m + 5 by omega))
  refine G_aload_n dX6_findsMarks_26 rfl rfl ?_
  refine G_iconst dX6_findsMarks_27 ?_
  refine G_putI (fs2 := [r_ (m + 1), i_ (st), i_ (kp), r_ (m + 2), i_ (ty), i_ (sn), i_ (se), r_ (m + 3), i_ (-5), i_ (0), r_ (m + 4), i_ (sp), i_ (le), i_ (on), i_ (tw)]) fp_X6_39 dX6_findsMarks_28 (by assumption) (Nat.le_of_ble_eq_true rfl) rfl ?_
  have hM := hM.obj (st) (kp) (ty) (sn) (se) (-5) (0) (sp) (le) (on) (tw)
  obtain ⟨hM0, hM1, hM2, hM3, hM4⟩ := id hM
  have hF := hF.tr (Fr.set (o := oMod m (st) (kp) (ty) (sn) (se) (-5) (0) (sp) (le) (on) (tw)) (show m ≤ m by omega) (show m < m + 5 by omega))
  refine G_iconst dX6_findsMarks_31 ?_
  refine G_istore dX6_findsMarks_32 (by decide) rfl ?_
  refine L 41 0 _ mk _ (by omega) (by omega) (fun _ => rfl) ?_ (fun j j0 j1 => absurd j1 (by omega)) hF (by omega)
  have e1 : fiI (stI (E 0 + r - X) (E 1) S D) 0 = -5 := by unfold fiI; rw [if_neg (by omega)]
  have e2 : caI (offI (E 0 + r - X) (E 1) S D) (stI (E 0 + r - X) (E 1) S D) 0 = 0 := by unfold caI; rw [if_neg (by omega)]
  rw [e1, e2]
  exact hM
set_option maxRecDepth 100000 in
set_option maxHeartbeats 4000000 in
theorem c_X6_cone (h : List PO) (m : Nat) (s tx mk co : Int → Int) (st kp ty sn se fi ca sp le on tw : Int) (b w : Int) (D S H T C R A Z W U : Int → Int) (N : Int) (E : Int → Int) (X Y F : Int) (hM : moAt h m s tx mk co st kp ty sn se fi ca sp le on tw) (b0 : 0 ≤ b) (b1 : b ≤ 1421) (hR : rwF s b D S H T C R A Z W U N E X Y F) (hN : 0 ≤ N ∧ N ≤ 6) (hC : RG 0 39 N C) (hRr : RG 1 30 N R) (hZ : RG 0 1 N Z) (w0 : 0 ≤ w) (w1 : w < N) : PM 1 yX6_cone cX6_cone 8 (some .int) h [r_ m, i_ b, i_ w] (fun r0 h2 => r0 = some (i_ (conI C R Z N w)) ∧ h = h2) := by
  refine PM_of_G RX6 [some (r_ m), some (i_ b), some (i_ w), none, none, none, none, none] rfl (by decide +kernel) (Nat.le_of_ble_eq_true rfl) rfl ?_
  obtain ⟨hM0, hM1, hM2, hM3, hM4⟩ := id hM
  obtain ⟨hRc, ⟨hR0, hR1, hR2, hR3, hR4, hR5, hR6⟩, hRw⟩ := id hR
  have L : ∀ (fu : Nat) (i : Int) (ac : Int), 0 ≤ i → i ≤ N → ac = conN C R Z w i.toNat → N - i < fu → G 1 cX6_cone RX6 8 (some .int) h 19 [some (r_ m), some (i_ b), some (i_ w), some (i_ (b + 167 + 6 * w)), some (i_ ac), some (i_ i), none, none] [] (fun r0 h2 => r0 = some (i_ (conI C R Z N w)) ∧ h = h2) := by
    intro fu
    induction fu with
    | zero => intro i ac a1 a2 hac hmeas; exfalso; omega
    | succ fu ih =>
      intro i ac a1 a2 hac hmeas
      refine G_iload dX6_cone_19 rfl ?_
      refine G_aload_n dX6_cone_21 rfl rfl ?_
      refine G_getf fl_X6_7 dX6_cone_22 (by assumption) rfl ?_
      refine G_iload_n dX6_cone_25 rfl rfl ?_
      refine G_bipush dX6_cone_26 rfl ?_
      refine G_iadd dX6_cone_28 ?_
      refine G_iald dX6_cone_29 (by assumption) (by omega) (by omega) (by decide) ?_
      refine G_top (hR6) ?_
      refine G_icmp_ge (tgt := 125) dX6_cone_30 (by decide) (inR_of (by omega) (by omega)) (inR_of (by omega) (by omega)) (fun hc30 => ?_) (fun hc30 => ?_)
      · skip
        have e : i = N := by omega
        subst e
        have hcr := conN_rng (c := C) (z := Z) hRr w0 w1 i.toNat (by omega)
        subst hac
        have hzw := hZ w w0 w1
        refine G_aload_n dX6_cone_125 rfl rfl ?_
        refine G_getf fl_X6_7 dX6_cone_126 (by assumption) rfl ?_
        refine G_iload_n dX6_cone_129 rfl rfl ?_
        refine G_iconst dX6_cone_130 ?_
        refine G_iadd dX6_cone_131 ?_
        refine G_iald dX6_cone_132 (by assumption) (by omega) (by omega) (by decide) ?_
        refine G_top ((hRw (w) (by omega) (by omega)).2.2.2.1) ?_
        refine G_iconst dX6_cone_133 ?_
        refine G_icmp_eq (tgt := 142) dX6_cone_134 (by decide) (inR_of (by omega) (by omega)) (inR_of (by omega) (by omega)) (fun hc134 => ?_) (fun hc134 => ?_)
        · skip
          refine G_iconst dX6_cone_142 ?_
          refine G_goto (tgt := 148) dX6_cone_143 (by decide) ?_
          refine G_ireturn dX6_cone_148 rfl ?_
          first
            | (have e9 : conI C R Z i w = 0 := by
                 unfold conI
                 first
                   | (rw [if_pos (by omega)]; done)
                   | (rw [if_neg (by omega)]; omega)
               rw [e9]
               exact ⟨rfl, rfl⟩)
            | (have e9 : conI C R Z i w = conN C R Z w i.toNat := by
                 unfold conI
                 rw [if_neg (by omega)]
                 omega
               rw [e9]
               exact ⟨rfl, rfl⟩)
        · skip
          refine G_iload dX6_cone_137 rfl ?_
          refine G_if_ge (tgt := 146) dX6_cone_139 (by decide) (inR_of (by omega) (by omega)) (fun hc139 => ?_) (fun hc139 => ?_)
          · skip
            refine G_iload dX6_cone_146 rfl ?_
            refine G_ireturn dX6_cone_148 rfl ?_
            first
              | (have e9 : conI C R Z i w = 0 := by
                   unfold conI
                   first
                     | (rw [if_pos (by omega)]; done)
                     | (rw [if_neg (by omega)]; omega)
                 rw [e9]
                 exact ⟨rfl, rfl⟩)
              | (have e9 : conI C R Z i w = conN C R Z w i.toNat := by
                   unfold conI
                   rw [if_neg (by omega)]
                   omega
                 rw [e9]
                 exact ⟨rfl, rfl⟩)
          · skip
            refine G_iconst dX6_cone_142 ?_
            refine G_goto (tgt := 148) dX6_cone_143 (by decide) ?_
            refine G_ireturn dX6_cone_148 rfl ?_
            first
              | (have e9 : conI C R Z i w = 0 := by
                   unfold conI
                   first
                     | (rw [if_pos (by omega)]; done)
                     | (rw [if_neg (by omega)]; omega)
                 rw [e9]
                 exact ⟨rfl, rfl⟩)
              | (have e9 : conI C R Z i w = conN C R Z w i.toNat := by
                   unfold conI
                   rw [if_neg (by omega)]
                   omega
                 rw [e9]
                 exact ⟨rfl, rfl⟩)
      · skip
        have hci := hC i (by omega) (by omega)
        have hzi := hZ i (by omega) (by omega)
        have hcw := hC w w0 w1
        refine G_iload_n dX6_cone_33 rfl rfl ?_
        refine G_iload dX6_cone_34 rfl ?_
        refine G_callS (as := [_, _]) (c_X6_wellAt h b i) dX6_cone_36 ml_X6_46 cs_X6_wellAt rfl (Nat.le_of_ble_eq_true rfl) (Nat.le_of_ble_eq_true rfl) rfl (fun r h2 hp => ?_)
        obtain ⟨rfl, rfl⟩ := hp
        refine G_istore dX6_cone_39 (by decide) rfl ?_
        refine G_aload_n dX6_cone_41 rfl rfl ?_
        refine G_getf fl_X6_7 dX6_cone_42 (by assumption) rfl ?_
        refine G_iload dX6_cone_45 rfl ?_
        refine G_iald dX6_cone_47 (by assumption) (by omega) (by omega) (by decide) ?_
        refine G_top ((hRw (i) (by omega) (by omega)).1) ?_
        refine G_aload_n dX6_cone_48 rfl rfl ?_
        refine G_getf fl_X6_7 dX6_cone_49 (by assumption) rfl ?_
        refine G_iload_n dX6_cone_52 rfl rfl ?_
        refine G_iald dX6_cone_53 (by assumption) (by omega) (by omega) (by decide) ?_
        refine G_top ((hRw (w) (by omega) (by omega)).1) ?_
        refine G_isub dX6_cone_54 ?_
        refine G_iconst dX6_cone_55 ?_
        refine G_icmp_eq (tgt := 77) dX6_cone_56 (by decide) (inR_of (by omega) (by omega)) (inR_of (by omega) (by omega)) (fun hc56 => ?_) (fun hc56 => ?_)
        · skip
          refine G_iconst dX6_cone_77 ?_
          refine G_goto (tgt := 82) dX6_cone_78 (by decide) ?_
          refine G_istore dX6_cone_82 (by decide) rfl ?_
          refine G_iload dX6_cone_84 rfl ?_
          refine G_iload dX6_cone_86 rfl ?_
          refine G_if_eq (tgt := 115) dX6_cone_88 (by decide) (inR_of (by omega) (by omega)) (fun hc88 => ?_) (fun hc88 => ?_)
          · skip
            refine G_iconst dX6_cone_115 ?_
            refine G_isub dX6_cone_116 ?_
            refine G_istore dX6_cone_117 (by decide) rfl ?_
            refine G_iinc dX6_cone_119 (by decide) rfl rfl ?_
            refine G_goto (tgt := 19) dX6_cone_122 (by decide) ?_
            refine G_forget 6 ?_
            refine G_forget 7 ?_
            refine ih (i + 1) _ (by omega) (by omega) ?_ (by omega)
            rw [hac, conN_s a1]
            first
              | (rw [if_pos (by omega)]; done)
              | (rw [if_neg (by omega)]; done)
          · skip
            refine G_aload_n dX6_cone_91 rfl rfl ?_
            refine G_getf fl_X6_7 dX6_cone_92 (by assumption) rfl ?_
            refine G_iload dX6_cone_95 rfl ?_
            refine G_iconst dX6_cone_97 ?_
            refine G_iadd dX6_cone_98 ?_
            refine G_iald dX6_cone_99 (by assumption) (by omega) (by omega) (by decide) ?_
            refine G_top ((hRw (i) (by omega) (by omega)).2.2.2.1) ?_
            refine G_if_ne (tgt := 115) dX6_cone_100 (by decide) (inR_of (by omega) (by omega)) (fun hc100 => ?_) (fun hc100 => ?_)
            · skip
              refine G_iconst dX6_cone_115 ?_
              refine G_isub dX6_cone_116 ?_
              refine G_istore dX6_cone_117 (by decide) rfl ?_
              refine G_iinc dX6_cone_119 (by decide) rfl rfl ?_
              refine G_goto (tgt := 19) dX6_cone_122 (by decide) ?_
              refine G_forget 6 ?_
              refine G_forget 7 ?_
              refine ih (i + 1) _ (by omega) (by omega) ?_ (by omega)
              rw [hac, conN_s a1]
              first
                | (rw [if_pos (by omega)]; done)
                | (rw [if_neg (by omega)]; done)
            · skip
              refine G_aload_n dX6_cone_103 rfl rfl ?_
              refine G_getf fl_X6_7 dX6_cone_104 (by assumption) rfl ?_
              refine G_iload dX6_cone_107 rfl ?_
              refine G_iconst dX6_cone_109 ?_
              refine G_iadd dX6_cone_110 ?_
              refine G_iald dX6_cone_111 (by assumption) (by omega) (by omega) (by decide) ?_
              refine G_top ((hRw (i) (by omega) (by omega)).2.1) ?_
              refine G_goto (tgt := 116) dX6_cone_112 (by decide) ?_
              refine G_isub dX6_cone_116 ?_
              refine G_istore dX6_cone_117 (by decide) rfl ?_
              refine G_iinc dX6_cone_119 (by decide) rfl rfl ?_
              refine G_goto (tgt := 19) dX6_cone_122 (by decide) ?_
              refine G_forget 6 ?_
              refine G_forget 7 ?_
              refine ih (i + 1) _ (by omega) (by omega) ?_ (by omega)
              rw [hac, conN_s a1]
              first
                | (rw [if_pos (by omega)]; done)
                | (rw [if_neg (by omega)]; done)
        · skip
          refine G_aload_n dX6_cone_59 rfl rfl ?_
          refine G_getf fl_X6_7 dX6_cone_60 (by assumption) rfl ?_
          refine G_iload_n dX6_cone_63 rfl rfl ?_
          refine G_iald dX6_cone_64 (by assumption) (by omega) (by omega) (by decide) ?_
          refine G_top ((hRw (w) (by omega) (by omega)).1) ?_
          refine G_aload_n dX6_cone_65 rfl rfl ?_
          refine G_getf fl_X6_7 dX6_cone_66 (by assumption) rfl ?_
          refine G_iload dX6_cone_69 rfl ?_
          refine G_iald dX6_cone_71 (by assumption) (by omega) (by omega) (by decide) ?_
          refine G_top ((hRw (i) (by omega) (by omega)).1) ?_
          refine G_isub dX6_cone_72 ?_
          refine G_iconst dX6_cone_73 ?_
          refine G_icmp_ne (tgt := 81) dX6_cone_74 (by decide) (inR_of (by omega) (by omega)) (inR_of (by omega) (by omega)) (fun hc74 => ?_) (fun hc74 => ?_)
          · skip
            refine G_iconst dX6_cone_81 ?_
            refine G_istore dX6_cone_82 (by decide) rfl ?_
            refine G_iload dX6_cone_84 rfl ?_
            refine G_iload dX6_cone_86 rfl ?_
            refine G_if_eq (tgt := 115) dX6_cone_88 (by decide) (inR_of (by omega) (by omega)) (fun hc88 => ?_) (fun hc88 => ?_)
            · skip
              refine G_iconst dX6_cone_115 ?_
              refine G_isub dX6_cone_116 ?_
              refine G_istore dX6_cone_117 (by decide) rfl ?_
              refine G_iinc dX6_cone_119 (by decide) rfl rfl ?_
              refine G_goto (tgt := 19) dX6_cone_122 (by decide) ?_
              refine G_forget 6 ?_
              refine G_forget 7 ?_
              refine ih (i + 1) _ (by omega) (by omega) ?_ (by omega)
              rw [hac, conN_s a1]
              first
                | (rw [if_pos (by omega)]; done)
                | (rw [if_neg (by omega)]; done)
            · skip
              refine G_aload_n dX6_cone_91 rfl rfl ?_
              refine G_getf fl_X6_7 dX6_cone_92 (by assumption) rfl ?_
              refine G_iload dX6_cone_95 rfl ?_
              refine G_iconst dX6_cone_97 ?_
              refine G_iadd dX6_cone_98 ?_
              refine G_iald dX6_cone_99 (by assumption) (by omega) (by omega) (by decide) ?_
              refine G_top ((hRw (i) (by omega) (by omega)).2.2.2.1) ?_
              refine G_if_ne (tgt := 115) dX6_cone_100 (by decide) (inR_of (by omega) (by omega)) (fun hc100 => ?_) (fun hc100 => ?_)
              · skip
                refine G_iconst dX6_cone_115 ?_
                refine G_isub dX6_cone_116 ?_
                refine G_istore dX6_cone_117 (by decide) rfl ?_
                refine G_iinc dX6_cone_119 (by decide) rfl rfl ?_
                refine G_goto (tgt := 19) dX6_cone_122 (by decide) ?_
                refine G_forget 6 ?_
                refine G_forget 7 ?_
                refine ih (i + 1) _ (by omega) (by omega) ?_ (by omega)
                rw [hac, conN_s a1]
                first
                  | (rw [if_pos (by omega)]; done)
                  | (rw [if_neg (by omega)]; done)
              · skip
                refine G_aload_n dX6_cone_103 rfl rfl ?_
                refine G_getf fl_X6_7 dX6_cone_104 (by assumption) rfl ?_
                refine G_iload dX6_cone_107 rfl ?_
                refine G_iconst dX6_cone_109 ?_
                refine G_iadd dX6_cone_110 ?_
                refine G_iald dX6_cone_111 (by assumption) (by omega) (by omega) (by decide) ?_
                refine G_top ((hRw (i) (by omega) (by omega)).2.1) ?_
                refine G_goto (tgt := 116) dX6_cone_112 (by decide) ?_
                refine G_isub dX6_cone_116 ?_
                refine G_istore dX6_cone_117 (by decide) rfl ?_
                refine G_iinc dX6_cone_119 (by decide) rfl rfl ?_
                refine G_goto (tgt := 19) dX6_cone_122 (by decide) ?_
                refine G_forget 6 ?_
                refine G_forget 7 ?_
                refine ih (i + 1) _ (by omega) (by omega) ?_ (by omega)
                rw [hac, conN_s a1]
                first
                  | (rw [if_pos (by omega)]; done)
                  | (rw [if_neg (by omega)]; done)
          · skip
            refine G_iconst dX6_cone_77 ?_
            refine G_goto (tgt := 82) dX6_cone_78 (by decide) ?_
            refine G_istore dX6_cone_82 (by decide) rfl ?_
            refine G_iload dX6_cone_84 rfl ?_
            refine G_iload dX6_cone_86 rfl ?_
            refine G_if_eq (tgt := 115) dX6_cone_88 (by decide) (inR_of (by omega) (by omega)) (fun hc88 => ?_) (fun hc88 => ?_)
            · skip
              refine G_iconst dX6_cone_115 ?_
              refine G_isub dX6_cone_116 ?_
              refine G_istore dX6_cone_117 (by decide) rfl ?_
              refine G_iinc dX6_cone_119 (by decide) rfl rfl ?_
              refine G_goto (tgt := 19) dX6_cone_122 (by decide) ?_
              refine G_forget 6 ?_
              refine G_forget 7 ?_
              refine ih (i + 1) _ (by omega) (by omega) ?_ (by omega)
              rw [hac, conN_s a1]
              first
                | (rw [if_pos (by omega)]; done)
                | (rw [if_neg (by omega)]; done)
            · skip
              refine G_aload_n dX6_cone_91 rfl rfl ?_
              refine G_getf fl_X6_7 dX6_cone_92 (by assumption) rfl ?_
              refine G_iload dX6_cone_95 rfl ?_
              refine G_iconst dX6_cone_97 ?_
              refine G_iadd dX6_cone_98 ?_
              refine G_iald dX6_cone_99 (by assumption) (by omega) (by omega) (by decide) ?_
              refine G_top ((hRw (i) (by omega) (by omega)).2.2.2.1) ?_
              refine G_if_ne (tgt := 115) dX6_cone_100 (by decide) (inR_of (by omega) (by omega)) (fun hc100 => ?_) (fun hc100 => ?_)
              · skip
                refine G_iconst dX6_cone_115 ?_
                refine G_isub dX6_cone_116 ?_
                refine G_istore dX6_cone_117 (by decide) rfl ?_
                refine G_iinc dX6_cone_119 (by decide) rfl rfl ?_
                refine G_goto (tgt := 19) dX6_cone_122 (by decide) ?_
                refine G_forget 6 ?_
                refine G_forget 7 ?_
                refine ih (i + 1) _ (by omega) (by omega) ?_ (by omega)
                rw [hac, conN_s a1]
                first
                  | (rw [if_pos (by omega)]; done)
                  | (rw [if_neg (by omega)]; done)
              · skip
                refine G_aload_n dX6_cone_103 rfl rfl ?_
                refine G_getf fl_X6_7 dX6_cone_104 (by assumption) rfl ?_
                refine G_iload dX6_cone_107 rfl ?_
                refine G_iconst dX6_cone_109 ?_
                refine G_iadd dX6_cone_110 ?_
                refine G_iald dX6_cone_111 (by assumption) (by omega) (by omega) (by decide) ?_
                refine G_top ((hRw (i) (by omega) (by omega)).2.1) ?_
                refine G_goto (tgt := 116) dX6_cone_112 (by decide) ?_
                refine G_isub dX6_cone_116 ?_
                refine G_istore dX6_cone_117 (by decide) rfl ?_
                refine G_iinc dX6_cone_119 (by decide) rfl rfl ?_
                refine G_goto (tgt := 19) dX6_cone_122 (by decide) ?_
                refine G_forget 6 ?_
                refine G_forget 7 ?_
                refine ih (i + 1) _ (by omega) (by omega) ?_ (by omega)
                rw [hac, conN_s a1]
                first
                  | (rw [if_pos (by omega)]; done)
                  | (rw [if_neg (by omega)]; done)
  refine G_iload_n dX6_cone_0 rfl rfl ?_
  refine G_iload_n dX6_cone_1 rfl rfl ?_
  refine G_callS (as := [_, _]) (c_X6_wellAt h b w) dX6_cone_2 ml_X6_46 cs_X6_wellAt rfl (Nat.le_of_ble_eq_true rfl) (Nat.le_of_ble_eq_true rfl) rfl (fun r h2 hp => ?_)
  obtain ⟨rfl, rfl⟩ := hp
  refine G_istore_n dX6_cone_5 rfl (by decide) rfl ?_
  refine G_aload_n dX6_cone_6 rfl rfl ?_
  refine G_getf fl_X6_7 dX6_cone_7 (by assumption) rfl ?_
  refine G_iload_n dX6_cone_10 rfl rfl ?_
  refine G_iconst dX6_cone_11 ?_
  refine G_iadd dX6_cone_12 ?_
  refine G_iald dX6_cone_13 (by assumption) (by omega) (by omega) (by decide) ?_
  refine G_top ((hRw (w) (by omega) (by omega)).2.1) ?_
  refine G_istore dX6_cone_14 (by decide) rfl ?_
  refine G_iconst dX6_cone_16 ?_
  refine G_istore dX6_cone_17 (by decide) rfl ?_
  exact L 7 0 _ (by omega) (by omega) rfl (by omega)
set_option maxRecDepth 100000 in
set_option maxHeartbeats 4000000 in
theorem c_X6_loses (h : List PO) (m : Nat) (s tx mk co : Int → Int) (st kp ty sn se fi ca sp le on tw : Int) (q g : Int) (hM : moAt h m s tx mk co st kp ty sn se fi ca sp le on tw) (q0 : 0 ≤ q) (q1 : q < 1620) (hg : s (q + 2) = g) (hg0 : 0 ≤ g ∧ g ≤ 600) : PM 0 yX6_loses cX6_loses 2 none h [r_ m, i_ q] (fun r0 h2 => r0 = none ∧ Fr h h2 m (m + 5) ∧ moAt h2 m (fup s (q + 2) (max (g - 2) 0)) tx mk co st kp ty sn se fi ca sp le on tw) := by
  refine PM_of_G RX6 [some (r_ m), some (i_ q)] rfl (by decide +kernel) (Nat.le_of_ble_eq_true rfl) rfl ?_
  obtain ⟨hM0, hM1, hM2, hM3, hM4⟩ := id hM
  have hF : Fr h h m (m + 5) := Fr.rf
  refine G_aload_n dX6_loses_0 rfl rfl ?_
  refine G_getf fl_X6_7 dX6_loses_1 (by assumption) rfl ?_
  refine G_iload_n dX6_loses_4 rfl rfl ?_
  refine G_iconst dX6_loses_5 ?_
  refine G_iadd dX6_loses_6 ?_
  refine G_aload_n dX6_loses_7 rfl rfl ?_
  refine G_getf fl_X6_7 dX6_loses_8 (by assumption) rfl ?_
  refine G_iload_n dX6_loses_11 rfl rfl ?_
  refine G_iconst dX6_loses_12 ?_
  refine G_iadd dX6_loses_13 ?_
  refine G_iald dX6_loses_14 (by assumption) (by omega) (by omega) (by decide) ?_
  refine G_top (hg) ?_
  refine G_iconst dX6_loses_15 ?_
  refine G_icmp_ge (tgt := 23) dX6_loses_16 (by decide) (inR_of (by omega) (by omega)) (inR_of (by omega) (by omega)) (fun hc16 => ?_) (fun hc16 => ?_)
  · skip
    refine G_aload_n dX6_loses_23 rfl rfl ?_
    refine G_getf fl_X6_7 dX6_loses_24 (by assumption) rfl ?_
    refine G_iload_n dX6_loses_27 rfl rfl ?_
    refine G_iconst dX6_loses_28 ?_
    refine G_iadd dX6_loses_29 ?_
    refine G_iald dX6_loses_30 (by assumption) (by omega) (by omega) (by decide) ?_
    refine G_top (hg) ?_
    refine G_iconst dX6_loses_31 ?_
    refine G_isub dX6_loses_32 ?_
    refine G_top (y := max (g - 2) 0) (by omega) ?_
    refine G_iast dX6_loses_33 (by assumption) (by omega) (by omega) (by decide) rfl ?_
    have hM := hM.set1 (fup s (q + 2) (max (g - 2) 0))
    obtain ⟨hM0, hM1, hM2, hM3, hM4⟩ := id hM
    have hF := hF.tr (Fr.set (o := oI 1624 (fup s (q + 2) (max (g - 2) 0))) (show m ≤ m + 1 by omega) (show m + 1 < m + 5 by omega))
    refine G_return dX6_loses_34 rfl ?_
    exact ⟨rfl, hF, hM⟩
  · skip
    refine G_iconst dX6_loses_19 ?_
    refine G_goto (tgt := 33) dX6_loses_20 (by decide) ?_
    refine G_top (y := max (g - 2) 0) (by omega) ?_
    refine G_iast dX6_loses_33 (by assumption) (by omega) (by omega) (by decide) rfl ?_
    have hM := hM.set1 (fup s (q + 2) (max (g - 2) 0))
    obtain ⟨hM0, hM1, hM2, hM3, hM4⟩ := id hM
    have hF := hF.tr (Fr.set (o := oI 1624 (fup s (q + 2) (max (g - 2) 0))) (show m ≤ m + 1 by omega) (show m + 1 < m + 5 by omega))
    refine G_return dX6_loses_34 rfl ?_
    exact ⟨rfl, hF, hM⟩
def drS (D S H C Z A : Int → Int) (w k : Int) : Int := sbI (A w) (if Z w = 0 then H (C w) + k - (D (C w) - S (C w)) else 0)
def drZ (Z : Int → Int) (w g : Int) : Int := if Z w = 0 ∧ 50 ≤ g then 1 else if g = 0 then 0 else Z w
set_option maxRecDepth 100000 in
set_option maxHeartbeats 4000000 in
theorem c_X6_draws (h : List PO) (m : Nat) (s tx mk co : Int → Int) (st kp ty sn se fi ca sp le on tw : Int) (b w k : Int) (D S H T C R A Z W U : Int → Int) (N : Int) (E : Int → Int) (X Y F : Int) (hM : moAt h m s tx mk co st kp ty sn se fi ca sp le on tw) (b0 : 0 ≤ b) (b1 : b ≤ 1421) (hR : rwF s b D S H T C R A Z W U N E X Y F) (hN : 0 ≤ N ∧ N ≤ 6) (w0 : 0 ≤ w) (w1 : w < N) (hk : co w = k) (hk0 : 0 ≤ k ∧ k ≤ 30) (hcw : 0 ≤ C w ∧ C w ≤ 39) (hrw : 1 ≤ R w ∧ R w ≤ 30) (haw : 0 ≤ A w ∧ A w ≤ 300) (hzw : 0 ≤ Z w ∧ Z w ≤ 1) (hd9 : 1 ≤ D (C w) ∧ D (C w) ≤ 60) (hs9 : 0 ≤ S (C w) ∧ S (C w) ≤ 60) (hh9 : 0 ≤ H (C w) ∧ H (C w) ≤ 60) : PM 1 yX6_draws cX6_draws 6 none h [r_ m, i_ b, i_ w] (fun r0 h2 => r0 = none ∧ Fr h h2 m (m + 5) ∧ ∃ s2 : Int → Int, moAt h2 m s2 tx mk co st kp ty sn se fi ca sp le on tw ∧ frR s s2 b ∧ rwF s2 b D S H T C R (fup A w (drS D S H C Z A w k)) (fup Z w (drZ Z w (drS D S H C Z A w k))) (fup W w (if Z w = 0 then W w + R w else W w)) (fup U w (if Z w = 0 ∧ 50 ≤ (drS D S H C Z A w k) then U w + 1 else U w)) N E X Y F) := by
  refine PM_of_G RX6 [some (r_ m), some (i_ b), some (i_ w), none, none, none] rfl (by decide +kernel) (Nat.le_of_ble_eq_true rfl) rfl ?_
  obtain ⟨hM0, hM1, hM2, hM3, hM4⟩ := id hM
  obtain ⟨hRc, ⟨hR0, hR1, hR2, hR3, hR4, hR5, hR6⟩, hRw⟩ := id hR
  have hF : Fr h h m (m + 5) := Fr.rf
  have hK : frR s s b := frR.rf
  refine G_iload_n dX6_draws_0 rfl rfl ?_
  refine G_iload_n dX6_draws_1 rfl rfl ?_
  refine G_callS (as := [_, _]) (c_X6_wellAt h b w) dX6_draws_2 ml_X6_46 cs_X6_wellAt rfl (Nat.le_of_ble_eq_true rfl) (Nat.le_of_ble_eq_true rfl) rfl (fun r h2 hp => ?_)
  obtain ⟨rfl, rfl⟩ := hp
  refine G_istore_n dX6_draws_5 rfl (by decide) rfl ?_
  refine G_aload_n dX6_draws_6 rfl rfl ?_
  refine G_getf fl_X6_7 dX6_draws_7 (by assumption) rfl ?_
  refine G_iload_n dX6_draws_10 rfl rfl ?_
  refine G_iconst dX6_draws_11 ?_
  refine G_iadd dX6_draws_12 ?_
  refine G_iald dX6_draws_13 (by assumption) (by omega) (by omega) (by decide) ?_
  refine G_top ((hRw (w) (by omega) (by omega)).2.2.2.1) ?_
  refine G_iconst dX6_draws_14 ?_
  refine G_icmp_ne (tgt := 51) dX6_draws_15 (by decide) (inR_of (by omega) (by omega)) (inR_of (by omega) (by omega)) (fun hc15 => ?_) (fun hc15 => ?_)
  · skip
    refine G_aload_n dX6_draws_51 rfl rfl ?_
    refine G_getf fl_X6_7 dX6_draws_52 (by assumption) rfl ?_
    refine G_iload_n dX6_draws_55 rfl rfl ?_
    refine G_iald dX6_draws_56 (by assumption) (by omega) (by omega) (by decide) ?_
    refine G_top ((hRw (w) (by omega) (by omega)).1) ?_
    refine G_istore dX6_draws_57 (by decide) rfl ?_
    refine G_aload_n dX6_draws_59 rfl rfl ?_
    refine G_getf fl_X6_7 dX6_draws_60 (by assumption) rfl ?_
    refine G_iload_n dX6_draws_63 rfl rfl ?_
    refine G_bipush dX6_draws_64 rfl ?_
    refine G_iadd dX6_draws_66 ?_
    refine G_iload dX6_draws_67 rfl ?_
    refine G_iadd dX6_draws_69 ?_
    refine G_iald dX6_draws_70 (by assumption) (by omega) (by omega) (by decide) ?_
    refine G_top ((hRc (C w) (by omega) (by omega)).2.2.1) ?_
    refine G_aload_n dX6_draws_71 rfl rfl ?_
    refine G_getf fl_X6_26 dX6_draws_72 (by assumption) rfl ?_
    refine G_iload_n dX6_draws_75 rfl rfl ?_
    refine G_iald dX6_draws_76 (by assumption) (by omega) (by omega) (by decide) ?_
    refine G_top (hk) ?_
    refine G_iadd dX6_draws_77 ?_
    refine G_aload_n dX6_draws_78 rfl rfl ?_
    refine G_getf fl_X6_7 dX6_draws_79 (by assumption) rfl ?_
    refine G_iload_n dX6_draws_82 rfl rfl ?_
    refine G_bipush dX6_draws_83 rfl ?_
    refine G_iadd dX6_draws_85 ?_
    refine G_iload dX6_draws_86 rfl ?_
    refine G_iadd dX6_draws_88 ?_
    refine G_iald dX6_draws_89 (by assumption) (by omega) (by omega) (by decide) ?_
    refine G_top ((hRc (C w) (by omega) (by omega)).1) ?_
    refine G_aload_n dX6_draws_90 rfl rfl ?_
    refine G_getf fl_X6_7 dX6_draws_91 (by assumption) rfl ?_
    refine G_iload_n dX6_draws_94 rfl rfl ?_
    refine G_bipush dX6_draws_95 rfl ?_
    refine G_iadd dX6_draws_97 ?_
    refine G_iload dX6_draws_98 rfl ?_
    refine G_iadd dX6_draws_100 ?_
    refine G_iald dX6_draws_101 (by assumption) (by omega) (by omega) (by decide) ?_
    refine G_top ((hRc (C w) (by omega) (by omega)).2.1) ?_
    refine G_isub dX6_draws_102 ?_
    refine G_isub dX6_draws_103 ?_
    refine G_istore dX6_draws_104 (by decide) rfl ?_
    refine G_aload_n dX6_draws_106 rfl rfl ?_
    refine G_getf fl_X6_7 dX6_draws_107 (by assumption) rfl ?_
    refine G_iload_n dX6_draws_110 rfl rfl ?_
    refine G_iconst dX6_draws_111 ?_
    refine G_iadd dX6_draws_112 ?_
    refine G_dup2 dX6_draws_113 ?_
    refine G_iald dX6_draws_114 (by assumption) (by omega) (by omega) (by decide) ?_
    refine G_top ((hRw (w) (by omega) (by omega)).2.2.2.2.1) ?_
    refine G_aload_n dX6_draws_115 rfl rfl ?_
    refine G_getf fl_X6_7 dX6_draws_116 (by assumption) rfl ?_
    refine G_iload_n dX6_draws_119 rfl rfl ?_
    refine G_iconst dX6_draws_120 ?_
    refine G_iadd dX6_draws_121 ?_
    refine G_iald dX6_draws_122 (by assumption) (by omega) (by omega) (by decide) ?_
    refine G_top ((hRw (w) (by omega) (by omega)).2.1) ?_
    refine G_iadd dX6_draws_123 ?_
    refine G_iast dX6_draws_124 (by assumption) (by omega) (by omega) (by decide) rfl ?_
    have hM := hM.set1 (fup s (b + 167 + 6 * w + 4) (W w + R w))
    obtain ⟨hM0, hM1, hM2, hM3, hM4⟩ := id hM
    have hF := hF.tr (Fr.set (o := oI 1624 (fup s (b + 167 + 6 * w + 4) (W w + R w))) (show m ≤ m + 1 by omega) (show m + 1 < m + 5 by omega))
    have hR := hR.wdr (i := w) (W w + R w) w0
    obtain ⟨hRc, ⟨hR0, hR1, hR2, hR3, hR4, hR5, hR6⟩, hRw⟩ := id hR
    have hK := hK.put (x := b + 167 + 6 * w + 4) (q := W w + R w) (show b ≤ b + 167 + 6 * w + 4 by omega) (show b + 167 + 6 * w + 4 < b + 203 by omega)
    refine G_iload dX6_draws_125 rfl ?_
    refine G_if_le (tgt := 146) dX6_draws_127 (by decide) (inR_of (by omega) (by omega)) (fun hc127 => ?_) (fun hc127 => ?_)
    · skip
      have e6 : max (A w - 2) 0 = (drS D S H C Z A w k) := by unfold drS sbI; rw [if_pos (show Z w = 0 by omega), if_neg (by omega)]
      have hg9 : 0 ≤ (drS D S H C Z A w k) ∧ (drS D S H C Z A w k) ≤ 600 := by omega
      refine G_aload_n dX6_draws_146 rfl rfl ?_
      refine G_iload_n dX6_draws_147 rfl rfl ?_
      refine G_callV (ci := 6) (as := [_]) (c_X6_loses _ m (fup s (b + 167 + 6 * w + 4) (W w + R w)) tx mk co st kp ty sn se fi ca sp le on tw (b + 167 + 6 * w) (A w) hM (by omega) (by omega) (hRw (w) (by omega) (by omega)).2.2.1 (by omega)) dX6_draws_148 ml_X6_49 cv_X6_loses (by assumption) rfl rfl (Nat.le_of_ble_eq_true rfl) (Nat.le_of_ble_eq_true rfl) rfl (fun r h2 hp => ?_)
      obtain ⟨rfl, hF1, hM⟩ := hp
      have hF := hF.tr hF1
      rw [e6] at hM
      obtain ⟨hM0, hM1, hM2, hM3, hM4⟩ := id hM
      have hR := hR.wsa (i := w) (drS D S H C Z A w k) w0
      obtain ⟨hRc, ⟨hR0, hR1, hR2, hR3, hR4, hR5, hR6⟩, hRw⟩ := id hR
      have hK := hK.put (x := b + 167 + 6 * w + 2) (q := (drS D S H C Z A w k)) (show b ≤ b + 167 + 6 * w + 2 by omega) (show b + 167 + 6 * w + 2 < b + 203 by omega)
      refine G_aload_n dX6_draws_151 rfl rfl ?_
      refine G_getf fl_X6_7 dX6_draws_152 (by assumption) rfl ?_
      refine G_iload_n dX6_draws_155 rfl rfl ?_
      refine G_iconst dX6_draws_156 ?_
      refine G_iadd dX6_draws_157 ?_
      refine G_iald dX6_draws_158 (by assumption) (by omega) (by omega) (by decide) ?_
      refine G_top (((hRw (w) (by omega) (by omega)).2.2.1).trans fup_eq) ?_
      refine G_bipush dX6_draws_159 rfl ?_
      refine G_icmp_lt (tgt := 185) dX6_draws_161 (by decide) (inR_of (by omega) (by omega)) (inR_of (by omega) (by omega)) (fun hc161 => ?_) (fun hc161 => ?_)
      · skip
        refine G_return dX6_draws_185 rfl ?_
        refine ⟨rfl, hF, _, hM, hK, ?_⟩
        have e3 : (if Z w = 0 then W w + R w else W w) = W w + R w := if_pos (by omega)
        first
          | (have e4 : (if Z w = 0 ∧ 50 ≤ (drS D S H C Z A w k) then U w + 1 else U w) = U w + 1 := if_pos (by omega)
             have e5 : drZ Z w (drS D S H C Z A w k) = 1 := if_pos (by omega)
             rw [e3, e4, e5]
             exact hR)
          | (have e4 : (if Z w = 0 ∧ 50 ≤ (drS D S H C Z A w k) then U w + 1 else U w) = U w := if_neg (by omega)
             have e5 : drZ Z w (drS D S H C Z A w k) = Z w := by unfold drZ; rw [if_neg (by omega)]; split <;> omega
             rw [e3, e4, e5, fup_same (q := U) rfl, fup_same (q := Z) rfl]
             exact hR)
      · skip
        refine G_aload_n dX6_draws_164 rfl rfl ?_
        refine G_getf fl_X6_7 dX6_draws_165 (by assumption) rfl ?_
        refine G_iload_n dX6_draws_168 rfl rfl ?_
        refine G_iconst dX6_draws_169 ?_
        refine G_iadd dX6_draws_170 ?_
        refine G_iconst dX6_draws_171 ?_
        refine G_iast dX6_draws_172 (by assumption) (by omega) (by omega) (by decide) rfl ?_
        have hM := hM.set1 (fup (fup (fup s (b + 167 + 6 * w + 4) (W w + R w)) (b + 167 + 6 * w + 2) (drS D S H C Z A w k)) (b + 167 + 6 * w + 3) 1)
        obtain ⟨hM0, hM1, hM2, hM3, hM4⟩ := id hM
        have hF := hF.tr (Fr.set (o := oI 1624 (fup (fup (fup s (b + 167 + 6 * w + 4) (W w + R w)) (b + 167 + 6 * w + 2) (drS D S H C Z A w k)) (b + 167 + 6 * w + 3) 1)) (show m ≤ m + 1 by omega) (show m + 1 < m + 5 by omega))
        have hR := hR.wre (i := w) 1 w0
        obtain ⟨hRc, ⟨hR0, hR1, hR2, hR3, hR4, hR5, hR6⟩, hRw⟩ := id hR
        have hK := hK.put (x := b + 167 + 6 * w + 3) (q := 1) (show b ≤ b + 167 + 6 * w + 3 by omega) (show b + 167 + 6 * w + 3 < b + 203 by omega)
        refine G_aload_n dX6_draws_173 rfl rfl ?_
        refine G_getf fl_X6_7 dX6_draws_174 (by assumption) rfl ?_
        refine G_iload_n dX6_draws_177 rfl rfl ?_
        refine G_iconst dX6_draws_178 ?_
        refine G_iadd dX6_draws_179 ?_
        refine G_dup2 dX6_draws_180 ?_
        refine G_iald dX6_draws_181 (by assumption) (by omega) (by omega) (by decide) ?_
        refine G_top ((hRw (w) (by omega) (by omega)).2.2.2.2.2) ?_
        refine G_iconst dX6_draws_182 ?_
        refine G_iadd dX6_draws_183 ?_
        refine G_iast dX6_draws_184 (by assumption) (by omega) (by omega) (by decide) rfl ?_
        have hM := hM.set1 (fup (fup (fup (fup s (b + 167 + 6 * w + 4) (W w + R w)) (b + 167 + 6 * w + 2) (drS D S H C Z A w k)) (b + 167 + 6 * w + 3) 1) (b + 167 + 6 * w + 5) (U w + 1))
        obtain ⟨hM0, hM1, hM2, hM3, hM4⟩ := id hM
        have hF := hF.tr (Fr.set (o := oI 1624 (fup (fup (fup (fup s (b + 167 + 6 * w + 4) (W w + R w)) (b + 167 + 6 * w + 2) (drS D S H C Z A w k)) (b + 167 + 6 * w + 3) 1) (b + 167 + 6 * w + 5) (U w + 1))) (show m ≤ m + 1 by omega) (show m + 1 < m + 5 by omega))
        have hR := hR.wtu (i := w) (U w + 1) w0
        obtain ⟨hRc, ⟨hR0, hR1, hR2, hR3, hR4, hR5, hR6⟩, hRw⟩ := id hR
        have hK := hK.put (x := b + 167 + 6 * w + 5) (q := U w + 1) (show b ≤ b + 167 + 6 * w + 5 by omega) (show b + 167 + 6 * w + 5 < b + 203 by omega)
        refine G_return dX6_draws_185 rfl ?_
        refine ⟨rfl, hF, _, hM, hK, ?_⟩
        have e3 : (if Z w = 0 then W w + R w else W w) = W w + R w := if_pos (by omega)
        first
          | (have e4 : (if Z w = 0 ∧ 50 ≤ (drS D S H C Z A w k) then U w + 1 else U w) = U w + 1 := if_pos (by omega)
             have e5 : drZ Z w (drS D S H C Z A w k) = 1 := if_pos (by omega)
             rw [e3, e4, e5]
             exact hR)
          | (have e4 : (if Z w = 0 ∧ 50 ≤ (drS D S H C Z A w k) then U w + 1 else U w) = U w := if_neg (by omega)
             have e5 : drZ Z w (drS D S H C Z A w k) = Z w := by unfold drZ; rw [if_neg (by omega)]; split <;> omega
             rw [e3, e4, e5, fup_same (q := U) rfl, fup_same (q := Z) rfl]
             exact hR)
    · skip
      have e6 : A w + (H (C w) + k - (D (C w) - S (C w))) = (drS D S H C Z A w k) := by unfold drS sbI; rw [if_pos (show Z w = 0 by omega), if_pos (by omega)]
      have hg9 : 0 ≤ (drS D S H C Z A w k) ∧ (drS D S H C Z A w k) ≤ 600 := by omega
      refine G_aload_n dX6_draws_130 rfl rfl ?_
      refine G_getf fl_X6_7 dX6_draws_131 (by assumption) rfl ?_
      refine G_iload_n dX6_draws_134 rfl rfl ?_
      refine G_iconst dX6_draws_135 ?_
      refine G_iadd dX6_draws_136 ?_
      refine G_dup2 dX6_draws_137 ?_
      refine G_iald dX6_draws_138 (by assumption) (by omega) (by omega) (by decide) ?_
      refine G_top ((hRw (w) (by omega) (by omega)).2.2.1) ?_
      refine G_iload dX6_draws_139 rfl ?_
      refine G_iadd dX6_draws_141 ?_
      refine G_top (y := (drS D S H C Z A w k)) e6 ?_
      refine G_iast dX6_draws_142 (by assumption) (by omega) (by omega) (by decide) rfl ?_
      have hM := hM.set1 (fup (fup s (b + 167 + 6 * w + 4) (W w + R w)) (b + 167 + 6 * w + 2) (drS D S H C Z A w k))
      obtain ⟨hM0, hM1, hM2, hM3, hM4⟩ := id hM
      have hF := hF.tr (Fr.set (o := oI 1624 (fup (fup s (b + 167 + 6 * w + 4) (W w + R w)) (b + 167 + 6 * w + 2) (drS D S H C Z A w k))) (show m ≤ m + 1 by omega) (show m + 1 < m + 5 by omega))
      have hR := hR.wsa (i := w) (drS D S H C Z A w k) w0
      obtain ⟨hRc, ⟨hR0, hR1, hR2, hR3, hR4, hR5, hR6⟩, hRw⟩ := id hR
      have hK := hK.put (x := b + 167 + 6 * w + 2) (q := (drS D S H C Z A w k)) (show b ≤ b + 167 + 6 * w + 2 by omega) (show b + 167 + 6 * w + 2 < b + 203 by omega)
      refine G_goto (tgt := 151) dX6_draws_143 (by decide) ?_
      refine G_aload_n dX6_draws_151 rfl rfl ?_
      refine G_getf fl_X6_7 dX6_draws_152 (by assumption) rfl ?_
      refine G_iload_n dX6_draws_155 rfl rfl ?_
      refine G_iconst dX6_draws_156 ?_
      refine G_iadd dX6_draws_157 ?_
      refine G_iald dX6_draws_158 (by assumption) (by omega) (by omega) (by decide) ?_
      refine G_top (((hRw (w) (by omega) (by omega)).2.2.1).trans fup_eq) ?_
      refine G_bipush dX6_draws_159 rfl ?_
      refine G_icmp_lt (tgt := 185) dX6_draws_161 (by decide) (inR_of (by omega) (by omega)) (inR_of (by omega) (by omega)) (fun hc161 => ?_) (fun hc161 => ?_)
      · skip
        refine G_return dX6_draws_185 rfl ?_
        refine ⟨rfl, hF, _, hM, hK, ?_⟩
        have e3 : (if Z w = 0 then W w + R w else W w) = W w + R w := if_pos (by omega)
        first
          | (have e4 : (if Z w = 0 ∧ 50 ≤ (drS D S H C Z A w k) then U w + 1 else U w) = U w + 1 := if_pos (by omega)
             have e5 : drZ Z w (drS D S H C Z A w k) = 1 := if_pos (by omega)
             rw [e3, e4, e5]
             exact hR)
          | (have e4 : (if Z w = 0 ∧ 50 ≤ (drS D S H C Z A w k) then U w + 1 else U w) = U w := if_neg (by omega)
             have e5 : drZ Z w (drS D S H C Z A w k) = Z w := by unfold drZ; rw [if_neg (by omega)]; split <;> omega
             rw [e3, e4, e5, fup_same (q := U) rfl, fup_same (q := Z) rfl]
             exact hR)
      · skip
        refine G_aload_n dX6_draws_164 rfl rfl ?_
        refine G_getf fl_X6_7 dX6_draws_165 (by assumption) rfl ?_
        refine G_iload_n dX6_draws_168 rfl rfl ?_
        refine G_iconst dX6_draws_169 ?_
        refine G_iadd dX6_draws_170 ?_
        refine G_iconst dX6_draws_171 ?_
        refine G_iast dX6_draws_172 (by assumption) (by omega) (by omega) (by decide) rfl ?_
        have hM := hM.set1 (fup (fup (fup s (b + 167 + 6 * w + 4) (W w + R w)) (b + 167 + 6 * w + 2) (drS D S H C Z A w k)) (b + 167 + 6 * w + 3) 1)
        obtain ⟨hM0, hM1, hM2, hM3, hM4⟩ := id hM
        have hF := hF.tr (Fr.set (o := oI 1624 (fup (fup (fup s (b + 167 + 6 * w + 4) (W w + R w)) (b + 167 + 6 * w + 2) (drS D S H C Z A w k)) (b + 167 + 6 * w + 3) 1)) (show m ≤ m + 1 by omega) (show m + 1 < m + 5 by omega))
        have hR := hR.wre (i := w) 1 w0
        obtain ⟨hRc, ⟨hR0, hR1, hR2, hR3, hR4, hR5, hR6⟩, hRw⟩ := id hR
        have hK := hK.put (x := b + 167 + 6 * w + 3) (q := 1) (show b ≤ b + 167 + 6 * w + 3 by omega) (show b + 167 + 6 * w + 3 < b + 203 by omega)
        refine G_aload_n dX6_draws_173 rfl rfl ?_
        refine G_getf fl_X6_7 dX6_draws_174 (by assumption) rfl ?_
        refine G_iload_n dX6_draws_177 rfl rfl ?_
        refine G_iconst dX6_draws_178 ?_
        refine G_iadd dX6_draws_179 ?_
        refine G_dup2 dX6_draws_180 ?_
        refine G_iald dX6_draws_181 (by assumption) (by omega) (by omega) (by decide) ?_
        refine G_top ((hRw (w) (by omega) (by omega)).2.2.2.2.2) ?_
        refine G_iconst dX6_draws_182 ?_
        refine G_iadd dX6_draws_183 ?_
        refine G_iast dX6_draws_184 (by assumption) (by omega) (by omega) (by decide) rfl ?_
        have hM := hM.set1 (fup (fup (fup (fup s (b + 167 + 6 * w + 4) (W w + R w)) (b + 167 + 6 * w + 2) (drS D S H C Z A w k)) (b + 167 + 6 * w + 3) 1) (b + 167 + 6 * w + 5) (U w + 1))
        obtain ⟨hM0, hM1, hM2, hM3, hM4⟩ := id hM
        have hF := hF.tr (Fr.set (o := oI 1624 (fup (fup (fup (fup s (b + 167 + 6 * w + 4) (W w + R w)) (b + 167 + 6 * w + 2) (drS D S H C Z A w k)) (b + 167 + 6 * w + 3) 1) (b + 167 + 6 * w + 5) (U w + 1))) (show m ≤ m + 1 by omega) (show m + 1 < m + 5 by omega))
        have hR := hR.wtu (i := w) (U w + 1) w0
        obtain ⟨hRc, ⟨hR0, hR1, hR2, hR3, hR4, hR5, hR6⟩, hRw⟩ := id hR
        have hK := hK.put (x := b + 167 + 6 * w + 5) (q := U w + 1) (show b ≤ b + 167 + 6 * w + 5 by omega) (show b + 167 + 6 * w + 5 < b + 203 by omega)
        refine G_return dX6_draws_185 rfl ?_
        refine ⟨rfl, hF, _, hM, hK, ?_⟩
        have e3 : (if Z w = 0 then W w + R w else W w) = W w + R w := if_pos (by omega)
        first
          | (have e4 : (if Z w = 0 ∧ 50 ≤ (drS D S H C Z A w k) then U w + 1 else U w) = U w + 1 := if_pos (by omega)
             have e5 : drZ Z w (drS D S H C Z A w k) = 1 := if_pos (by omega)
             rw [e3, e4, e5]
             exact hR)
          | (have e4 : (if Z w = 0 ∧ 50 ≤ (drS D S H C Z A w k) then U w + 1 else U w) = U w := if_neg (by omega)
             have e5 : drZ Z w (drS D S H C Z A w k) = Z w := by unfold drZ; rw [if_neg (by omega)]; split <;> omega
             rw [e3, e4, e5, fup_same (q := U) rfl, fup_same (q := Z) rfl]
             exact hR)
  · skip
    refine G_aload_n dX6_draws_18 rfl rfl ?_
    refine G_iload_n dX6_draws_19 rfl rfl ?_
    refine G_callV (ci := 6) (as := [_]) (c_X6_loses _ m s tx mk co st kp ty sn se fi ca sp le on tw (b + 167 + 6 * w) (A w) hM (by omega) (by omega) (hRw (w) (by omega) (by omega)).2.2.1 (by omega)) dX6_draws_20 ml_X6_49 cv_X6_loses (by assumption) rfl rfl (Nat.le_of_ble_eq_true rfl) (Nat.le_of_ble_eq_true rfl) rfl (fun r h2 hp => ?_)
    obtain ⟨rfl, hF1, hM⟩ := hp
    have hF := hF.tr hF1
    obtain ⟨hM0, hM1, hM2, hM3, hM4⟩ := id hM
    have hR := hR.wsa (i := w) (max (A w - 2) 0) w0
    have e7 : max (A w - 2) 0 = (drS D S H C Z A w k) := by unfold drS; rw [if_neg (show ¬ Z w = 0 by omega)]; unfold sbI; rw [if_neg (by omega)]
    rw [e7] at hR hM
    obtain ⟨hM0, hM1, hM2, hM3, hM4⟩ := id hM
    obtain ⟨hRc, ⟨hR0, hR1, hR2, hR3, hR4, hR5, hR6⟩, hRw⟩ := id hR
    have hK := hK.put (x := b + 167 + 6 * w + 2) (q := (drS D S H C Z A w k)) (show b ≤ b + 167 + 6 * w + 2 by omega) (show b + 167 + 6 * w + 2 < b + 203 by omega)
    have hg9 : 0 ≤ (drS D S H C Z A w k) ∧ (drS D S H C Z A w k) ≤ 300 := by omega
    refine G_aload_n dX6_draws_23 rfl rfl ?_
    refine G_getf fl_X6_7 dX6_draws_24 (by assumption) rfl ?_
    refine G_iload_n dX6_draws_27 rfl rfl ?_
    refine G_iconst dX6_draws_28 ?_
    refine G_iadd dX6_draws_29 ?_
    refine G_aload_n dX6_draws_30 rfl rfl ?_
    refine G_getf fl_X6_7 dX6_draws_31 (by assumption) rfl ?_
    refine G_iload_n dX6_draws_34 rfl rfl ?_
    refine G_iconst dX6_draws_35 ?_
    refine G_iadd dX6_draws_36 ?_
    refine G_iald dX6_draws_37 (by assumption) (by omega) (by omega) (by decide) ?_
    refine G_top (((hRw (w) (by omega) (by omega)).2.2.1).trans fup_eq) ?_
    refine G_if_le (tgt := 45) dX6_draws_38 (by decide) (inR_of (by omega) (by omega)) (fun hc38 => ?_) (fun hc38 => ?_)
    · skip
      refine G_iconst dX6_draws_45 ?_
      refine G_callS (as := [_]) (c_X6_flag _ _ (by first | exact Or.inl rfl | exact Or.inr rfl)) dX6_draws_46 ml_X6_53 cs_X6_flag rfl (Nat.le_of_ble_eq_true rfl) (Nat.le_of_ble_eq_true rfl) rfl (fun r h2 hp => ?_)
      obtain ⟨rfl, rfl⟩ := hp
      refine G_top (y := drZ Z w (drS D S H C Z A w k)) (by unfold drZ; rw [if_neg (by omega)]; first | (rw [if_pos (by omega)]; done) | (rw [if_neg (by omega)]; omega)) ?_
      refine G_iast dX6_draws_49 (by assumption) (by omega) (by omega) (by decide) rfl ?_
      have hM := hM.set1 (fup (fup s (b + 167 + 6 * w + 2) (drS D S H C Z A w k)) (b + 167 + 6 * w + 3) (drZ Z w (drS D S H C Z A w k)))
      obtain ⟨hM0, hM1, hM2, hM3, hM4⟩ := id hM
      have hF := hF.tr (Fr.set (o := oI 1624 (fup (fup s (b + 167 + 6 * w + 2) (drS D S H C Z A w k)) (b + 167 + 6 * w + 3) (drZ Z w (drS D S H C Z A w k)))) (show m ≤ m + 1 by omega) (show m + 1 < m + 5 by omega))
      have hR := hR.wre (i := w) (drZ Z w (drS D S H C Z A w k)) w0
      obtain ⟨hRc, ⟨hR0, hR1, hR2, hR3, hR4, hR5, hR6⟩, hRw⟩ := id hR
      have hK := hK.put (x := b + 167 + 6 * w + 3) (q := drZ Z w (drS D S H C Z A w k)) (show b ≤ b + 167 + 6 * w + 3 by omega) (show b + 167 + 6 * w + 3 < b + 203 by omega)
      refine G_return dX6_draws_50 rfl ?_
      refine ⟨rfl, hF, _, hM, hK, ?_⟩
      have e3 : (if Z w = 0 then W w + R w else W w) = W w := if_neg (by omega)
      have e4 : (if Z w = 0 ∧ 50 ≤ (drS D S H C Z A w k) then U w + 1 else U w) = U w := if_neg (by omega)
      rw [e3, e4, fup_same rfl, fup_same rfl]
      exact hR
    · skip
      refine G_iconst dX6_draws_41 ?_
      refine G_goto (tgt := 46) dX6_draws_42 (by decide) ?_
      refine G_callS (as := [_]) (c_X6_flag _ _ (by first | exact Or.inl rfl | exact Or.inr rfl)) dX6_draws_46 ml_X6_53 cs_X6_flag rfl (Nat.le_of_ble_eq_true rfl) (Nat.le_of_ble_eq_true rfl) rfl (fun r h2 hp => ?_)
      obtain ⟨rfl, rfl⟩ := hp
      refine G_top (y := drZ Z w (drS D S H C Z A w k)) (by unfold drZ; rw [if_neg (by omega)]; first | (rw [if_pos (by omega)]; done) | (rw [if_neg (by omega)]; omega)) ?_
      refine G_iast dX6_draws_49 (by assumption) (by omega) (by omega) (by decide) rfl ?_
      have hM := hM.set1 (fup (fup s (b + 167 + 6 * w + 2) (drS D S H C Z A w k)) (b + 167 + 6 * w + 3) (drZ Z w (drS D S H C Z A w k)))
      obtain ⟨hM0, hM1, hM2, hM3, hM4⟩ := id hM
      have hF := hF.tr (Fr.set (o := oI 1624 (fup (fup s (b + 167 + 6 * w + 2) (drS D S H C Z A w k)) (b + 167 + 6 * w + 3) (drZ Z w (drS D S H C Z A w k)))) (show m ≤ m + 1 by omega) (show m + 1 < m + 5 by omega))
      have hR := hR.wre (i := w) (drZ Z w (drS D S H C Z A w k)) w0
      obtain ⟨hRc, ⟨hR0, hR1, hR2, hR3, hR4, hR5, hR6⟩, hRw⟩ := id hR
      have hK := hK.put (x := b + 167 + 6 * w + 3) (q := drZ Z w (drS D S H C Z A w k)) (show b ≤ b + 167 + 6 * w + 3 by omega) (show b + 167 + 6 * w + 3 < b + 203 by omega)
      refine G_return dX6_draws_50 rfl ?_
      refine ⟨rfl, hF, _, hM, hK, ?_⟩
      have e3 : (if Z w = 0 then W w + R w else W w) = W w := if_neg (by omega)
      have e4 : (if Z w = 0 ∧ 50 ≤ (drS D S H C Z A w k) then U w + 1 else U w) = U w := if_neg (by omega)
      rw [e3, e4, fup_same rfl, fup_same rfl]
      exact hR
