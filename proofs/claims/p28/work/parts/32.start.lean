def Lx (g : GP) (p : Program) (s : State) (m : MethodId) (meth : Method) (c : Code) (b L : Nat) (xs : Nat → Int32) : Prop := lw_At p s m meth c b L xs ∧ Env g s ∧ gK g = s.heap.size ∧ gad g rZs = b ∧ L ≤ 260
theorem lwl_map (g : GP) (lv : List (Option PV)) : ∀ n : Nat, lwl g n (lv.map (Option.map Sum.inl)) = lvl g n lv := by
  induction lv with
  | nil => intro n; rfl
  | cons x t ih =>
    intro n
    cases x with
    | none => exact ih (n + 1)
    | some v =>
      show (n, tw g (.inl v)) :: lwl g (n + 1) (t.map (Option.map Sum.inl)) = (n, tr g v) :: lvl g (n + 1) t
      rw [ih (n + 1)]
      rfl
def LN (l : Launch) (L : Nat) (xs : Nat → Int32) (c0 s0 : Nat) (h : List PO) (pc : Nat) (lv : List (Option PV)) (st : List PV) : Prop :=
  ∀ (g : GP) (p : Program) (e : Jvm.Env) (s : State) (m : MethodId) (b : Nat) (below : List Frame) (meth : Method) (c : Code) (H : Heap) (locs : List Loc) (ls : Array Slot),
    Lx g p s m meth c b L xs → adr g → NK s → c0 = h.length → va_P (gD g) vwCl (wld g h) H → va_D (gA g) (wld g h) → va_S (gA g) s.heap H locs → lvh g ls 10 lv →
    W p l e room_1 s m #[Value.ref b] below meth c H locs c0 s0 (lw_Z below #[Value.ref b] s) (F0 m pc ls (st.map (tr g)))
section LNS
variable {l : Launch} {L : Nat} {xs : Nat → Int32} {c0 s0 : Nat} {h : List PO} {pc : Nat} {lv : List (Option PV)} {st : List PV}
theorem LN_go {lv2 : List (Option PW)} (h1 : c0 ≤ 600000) (h2 : s0 ≤ 7302249) (e : lv.map (Option.map Sum.inl) = lv2) (k : ∀ b : Nat, GL (Ol b) room_1 9 Zl cL_law 10 h pc lv2 []) : LN l L xs c0 s0 h pc lv [] :=
  fun g p e2 s m b below meth c H locs ls M _ _ _ hP hD hS hl => by
    obtain ⟨⟨hx, hb, hr, hml, hown, hts0, hX, hbl, hlocks, hgv⟩, E, hK, hb1, hL⟩ := M
    refine W.widen h1 h2 (k b g p l e2 s m #[Value.ref b] below meth c H locs ls ⟨hr, hlocks, rfl, hK⟩ ro_law ⟨hx, hb, hml, hown, fun w hw => hts0 w (List.mem_filter.mp hw).1, trivial⟩ E (by rw [hK]; exact Nat.le_refl _) hP hD hS ?_)
    show lv_has ls 10 (lwl g 0 lv2)
    rw [← e, lwl_map]
    exact hl
theorem LN_dup {v : PV} (hd : decode cL_law pc = .ok (.dup, 1)) (k : LN l L xs c0 s0 h (pc + 1) lv (v :: v :: st)) : LN l L xs c0 s0 h pc lv (v :: st) :=
  fun g p e s m b below meth c H locs ls M hA hN hz hP hD hS hl => lv_dup M.1.1 M.1.2.1 hd (tr_cat g v) (k g p e s m b below meth c H locs ls M hA hN hz hP hD hS hl)
theorem LN_astore_n {q : Fin 4} {i : Nat} {x : Nat} {lv2 : List (Option PV)} (hd : decode cL_law pc = .ok (.astore_n q, 1)) (hi : (q : Nat) = i) (hn : i < 10) (hl2 : lv.set i (some (r_ x)) = lv2) (k : LN l L xs c0 s0 h (pc + 1) lv2 st) : LN l L xs c0 s0 h pc lv (r_ x :: st) :=
  fun g p e s m b below meth c H locs ls M hA hN hz hP hD hS hl => lv_astore_n (x := gad g x) (nL := 10) (lv := lvl g 0 lv) M.1.1 M.1.2.1 hd hi hl hn rfl (fun ls' hl' => k g p e s m b below meth c H locs ls' M hA hN hz hP hD hS (hl2 ▸ lvh_set (v := r_ x) hl'))
theorem LN_new {idx ci n : Nat} {fs : List PV} (hd : decode cL_law pc = .ok (.new idx, 3)) (hN : NC RL idx ci fs n) (hc : c0 + 1 ≤ 600000) (hs : s0 + n ≤ 7302249) (hh : h.length < 1000000) {k9 : Nat} (hk9 : h.length = k9)
    (k : LN l L xs (c0 + 1) (s0 + n) (h ++ [oO ci fs]) (pc + 3) lv (r_ k9 :: st)) : LN l L xs c0 s0 h pc lv st := by
  subst hk9
  obtain ⟨C, T, ty, n1, n2, n3, n4, n5, n6, n7⟩ := hN
  intro g p e s m b below meth c H locs ls M hA1 hNK hz hP hD hS hl
  obtain ⟨C0, E, hK, hb1, hL⟩ := id M
  obtain ⟨hx, hb, hr, hml, hown, hts0, hX, hbl, hlocks, hgv⟩ := C0
  have ho : s.vm.findClass RL = some m.cls := hown
  have hts : ∀ w ∈ GW, w.before #[Value.ref b] s = true := fun w hw => hts0 w (List.mem_filter.mp hw).1
  have hA : ∀ q, s.heap.size ≤ q → gA g q := fun q hq => by show gK g ≤ q; rw [hK]; exact hq
  refine va_new (tys := gT g) (ci := ci) (fs := fs.map (tr g)) (C := C) (T := T) (N := n) hx hb hts n2 ty n3 ho (hts _ n4) (hts _ n5) (hts _ n6) E.1 hP hD hS hA n1 (n7 g) hc hs hd (fun q H1 hP1 hD1 hS1 => ?_)
  intro T0 hT X
  have hq := addr_new X hT hA1 hh (by rw [hz, hK]) hP1 hD1
  subst hq
  have e1 : wld g (h ++ [oO ci fs]) = wld g h ++ [(gad g h.length, .inr (ci, fs.map (tr g)))] := wld_app g h _
  exact k g p e s m b below meth c H1 locs ls M hA1 hNK (by rw [List.length_append, hz]; rfl) (by rw [e1]; exact hP1) (by rw [e1]; exact hD1) hS1 hl T0 hT X
theorem LN_callI {fy nLy n idx b0 mc2 ms2 : Nat} {y : MethodName} {cy : ByteArray} {posty : Option PV → List PO → Prop} {as st0 : List PV}
    (hM : PMN fy y cy nLy none mc2 ms2 h (r_ b0 :: as) posty) (hd : decode cL_law pc = .ok (.invokespecial idx, 3)) (hlk : Cond.methodLink RL idx y ∈ GW) (hv : CI y cy nLy none n ∧ Cond.instanceMethod y ∈ GW ∧ y.name = "<init>")
    (hn : as.length = n) (hf : fy ≤ 8) (hs : st.length ≤ 8) (hc : c0 + mc2 ≤ 600000) (hsl : s0 + ms2 ≤ 7302249) (hh : h.length < 1000000) (e0 : st0 = as.reverse ++ r_ b0 :: st)
    (hlen : ∀ r h', posty r h' → h'.length = h.length + mc2)
    (k : ∀ r h', posty r h' → LN l L xs (c0 + mc2) (s0 + ms2) h' (pc + 3) lv (r.toList ++ st)) : LN l L xs c0 s0 h pc lv st0 := by
  subst e0
  obtain ⟨⟨v1, v2, v3, v4⟩, v5, v6⟩ := hv
  intro g p e s m b below meth c H locs ls M hA1 hNK hz hP hD hS hlv
  obtain ⟨C0, E, hK, hb1, hL⟩ := id M
  obtain ⟨hx, hb, hr0, hml, hown, hts0, hX, hbl, hlocks, hgv⟩ := C0
  have ho : s.vm.findClass RL = some m.cls := hown
  have hts : ∀ w ∈ GW, w.before #[Value.ref b] s = true := fun w hw => hts0 w (List.mem_filter.mp hw).1
  have hm := hM l g
  have hroom : (rmN fy mc2 ms2).frames + 1 ≤ room_1.frames ∧ 8 + (nLy + 11) + (rmN fy mc2 ms2).locals ≤ room_1.locals := by
    refine ⟨Nat.succ_le_succ hf, ?_⟩
    show 8 + (nLy + 11) + 33 * fy ≤ 354
    omega
  intro T hT X
  have hsz := size_is X hT hA1 hh (by rw [hz, hK]) (by rw [hK]; exact Nat.le_refl _) hP hS
  have hr := va_runI (cells := c0) (slots := s0) (locs := locs) (below := below) (e := e) (meth := meth) (R := room_1) (g := F0 m pc ls ((as.reverse ++ r_ b0 :: st).map (tr g))) (H := H) (b := gad g b0) (As := as.map (tr g)) (rest := st.map (tr g)) ⟨hx, hb, hml, ho, hts⟩ hm (cwI n hts (gw_in (gw_code v2)) rfl rfl rfl (hts _ v1) (hts _ hlk) (hts _ v5) v6 v3 hroom) ⟨PcN.blind, fun U hU hW => ⟨rfl, ⟨by rw [hU, hK]; exact hS.1, by rw [hU]; exact hP, hD, E.go hW hU hS⟩, by rw [hU]; exact hsz, hA1, hNK.go hW⟩⟩ rfl (by simpa using hn) hlv.1 (by simp [tr]) (lv_room (by rw [tr_sum]; exact hs)) hd ⟨hc, hsl⟩
  obtain ⟨v, st₀, t, T', L2, h0, X', hL2, e1, e2, ⟨⟨r, h', hv, hp, hP', hD'⟩, hzz, hk⟩, hst⟩ := hr T hT X
  cases hv
  rw [h0] at hzz hk
  have hS' : va_S (gA g) s.heap T'.heap (locs ++ L2) := ⟨Nat.le_trans hS.1 (by rw [e1]; exact hzz), fun q h1 h2 => by rw [e1, hk q (Nat.lt_of_lt_of_le h1 hS.1) h2]; exact hS.2.1 q h1 h2, fun q hq => by
      rcases List.mem_append.mp hq with h | h
      · exact hS.2.2 q h
      · exact hL2 q h⟩
  obtain ⟨t2, a1, b1⟩ := k r h' hp g p e s m b below meth c T'.heap (locs ++ L2) ls M hA1 hNK (by rw [hlen r h' hp, hz]) (by rw [e1]; exact hP') hD' hS' hlv T' rfl X'
  refine ⟨t2, hst t2 ?_, b1⟩
  have e3 : ((r.toList ++ st).map (tr g)) = (r.map (tr g)).toList ++ st.map (tr g) := by
    cases r <;> rfl
  rw [e3] at a1
  exact a1
end LNS
/-! what the start gives -/
set_option maxRecDepth 100000 in
set_option maxHeartbeats 8000000 in
theorem start_env {p : Program} {s : State} {m : MethodId} {meth : Method} {c : Code} {b L : Nat} {xs : Nat → Int32} (hL : L ≤ 260) (C0 : lw_At p s m meth c b L xs) : ∃ g : GP, Env g s ∧ NK s ∧ gK g = s.heap.size ∧ gad g rZs = b ∧ adr g := by
  obtain ⟨hx, hb, hr, hml, hown, hts, hX, hbl, hlocks, hgv⟩ := C0
  have hXT : va_T .int b L (fun k => .int (xs k)) (fun q : Nat => s.heap.size ≤ q) s s.heap := by
    obtain ⟨scr, a1, a2, a3, a4, a5⟩ := hX
    exact ⟨scr, a1, a2, a3, by omega, by (rw [a4]; try rfl), a5, Nat.not_le.mpr hbl⟩
  have hg : ∀ w ∈ GW, w.before #[Value.ref b] s = true := fun w hw => hts w (List.mem_filter.mp hw).1
  obtain ⟨c0, i0, k0⟩ := u_known (C := RX0) (T := TX0) (N := 4) (n := 4) hg us_X0 (hts (.instantiable RX0 4) (List.mem_of_getElem? (i := 31) (by decide +kernel)))
  obtain ⟨c1, i1, k1⟩ := u_known (C := RX1) (T := TX1) (N := 2) (n := 2) hg us_X1 (hts (.instantiable RX1 2) (List.mem_of_getElem? (i := 115) (by decide +kernel)))
  obtain ⟨c2, i2, k2⟩ := u_known (C := RX2) (T := TX2) (N := 7) (n := 7) hg us_X2 (hts (.instantiable RX2 7) (List.mem_of_getElem? (i := 132) (by decide +kernel)))
  obtain ⟨c3, i3, k3⟩ := u_known (C := RX3) (T := TX3) (N := 6) (n := 6) hg us_X3 (hts (.instantiable RX3 6) (List.mem_of_getElem? (i := 25) (by decide +kernel)))
  obtain ⟨c4, i4, k4⟩ := u_known (C := RX4) (T := TX4) (N := 7) (n := 7) hg us_X4 (hts (.instantiable RX4 7) (List.mem_of_getElem? (i := 58) (by decide +kernel)))
  obtain ⟨c5, i5, k5⟩ := u_known (C := RX5) (T := TX5) (N := 9) (n := 9) hg us_X5 (hts (.instantiable RX5 9) (List.mem_of_getElem? (i := 17) (by decide +kernel)))
  obtain ⟨dC, dI, hKc⟩ : ∃ (dC : Nat → ClassId) (dI : Nat → Nat → Nat), ∀ (k : Nat) (q : vw_C), vwCl[k]? = some q → u_Kn s q.1 q.2.1 q.2.2 (dC k) (dI k) := by
    refine ⟨fun k => if k = 0 then c0 else if k = 1 then c1 else if k = 2 then c2 else if k = 3 then c3 else if k = 4 then c4 else c5, fun k => if k = 0 then i0 else if k = 1 then i1 else if k = 2 then i2 else if k = 3 then i3 else if k = 4 then i4 else i5, ?_⟩
    intro k q hq
    match k, hq with
    | 0, hq => cases hq; exact k0
    | 1, hq => cases hq; exact k1
    | 2, hq => cases hq; exact k2
    | 3, hq => cases hq; exact k3
    | 4, hq => cases hq; exact k4
    | 5, hq => cases hq; exact k5
    | k + 6, hq => simp [vwCl] at hq
  obtain ⟨cI, kI, pI, fI1, fI2, fI3⟩ := Cond.arrayClass_spec (hg _ ac_I)
  obtain ⟨cC, kC, pC, fC1, fC2, fC3⟩ := Cond.arrayClass_spec (hg _ ac_C)
  have hov : (Cond.arrayOver (.object RX3)).before #[Value.ref b] s = true := hts _ (List.mem_of_getElem? (i := 121) (by decide +kernel))
  obtain ⟨pS, cS, kS, fS1, fS2, fS3, fS4, fS5⟩ := Cond.arrayOver_spec hov
  have hs := flat_of_before _ hgv
  have hA : ∀ a : Nat, a < s.heap.size → ¬ (fun q : Nat => s.heap.size ≤ q) a := fun a ha => Nat.not_le.mpr ha
  have hini : (Cond.initialized "SaltWedge").before #[Value.ref b] s = true := hts _ (List.mem_of_getElem? (i := 7) (by decide +kernel))
  have aL : (Cond.arrayOf (.static "SaltWedge" "LEAST_SETTINGS" "[I") .int).before #[Value.ref b] s = true := hs _ (by decide +kernel)
  have nL := va_eqt (hs (.eq (.length (.static "SaltWedge" "LEAST_SETTINGS" "[I")) (.int 3)) (by decide +kernel))
  have eL0 := va_eqt (hs (.eq (.elem (.static "SaltWedge" "LEAST_SETTINGS" "[I") (.int 0)) (.int 0)) (by decide +kernel))
  have eL1 := va_eqt (hs (.eq (.elem (.static "SaltWedge" "LEAST_SETTINGS" "[I") (.int 1)) (.int 0)) (by decide +kernel))
  have eL2 := va_eqt (hs (.eq (.elem (.static "SaltWedge" "LEAST_SETTINGS" "[I") (.int 2)) (.int 1)) (by decide +kernel))
  obtain ⟨tL, evL, hTL⟩ := va_Tof (N := 3) (f := fun k => .int (I (leastF (k : Int)))) (A := fun q : Nat => s.heap.size ≤ q) (by decide) aL nL (fun j hj => by
    rcases (show j = 0 ∨ j = 1 ∨ j = 2 from by omega) with rfl | rfl | rfl
    · exact eL0
    · exact eL1
    · exact eL2) hA
  have hZL : va_Z "SaltWedge" "LEAST_SETTINGS" "[I" (.ref tL) (fun q : Nat => s.heap.size ≤ q) s s.heap := va_Zref (hts _ (List.mem_of_getElem? (i := 301) (by decide +kernel))) hini evL hA
  have aM : (Cond.arrayOf (.static "SaltWedge" "MOST_SETTINGS" "[I") .int).before #[Value.ref b] s = true := hs _ (by decide +kernel)
  have nM := va_eqt (hs (.eq (.length (.static "SaltWedge" "MOST_SETTINGS" "[I")) (.int 3)) (by decide +kernel))
  have eM0 := va_eqt (hs (.eq (.elem (.static "SaltWedge" "MOST_SETTINGS" "[I") (.int 0)) (.int 60)) (by decide +kernel))
  have eM1 := va_eqt (hs (.eq (.elem (.static "SaltWedge" "MOST_SETTINGS" "[I") (.int 1)) (.int 9)) (by decide +kernel))
  have eM2 := va_eqt (hs (.eq (.elem (.static "SaltWedge" "MOST_SETTINGS" "[I") (.int 2)) (.int 60)) (by decide +kernel))
  obtain ⟨tM, evM, hTM⟩ := va_Tof (N := 3) (f := fun k => .int (I (mostF (k : Int)))) (A := fun q : Nat => s.heap.size ≤ q) (by decide) aM nM (fun j hj => by
    rcases (show j = 0 ∨ j = 1 ∨ j = 2 from by omega) with rfl | rfl | rfl
    · exact eM0
    · exact eM1
    · exact eM2) hA
  have hZM : va_Z "SaltWedge" "MOST_SETTINGS" "[I" (.ref tM) (fun q : Nat => s.heap.size ≤ q) s s.heap := va_Zref (hts _ (List.mem_of_getElem? (i := 303) (by decide +kernel))) hini evM hA
  obtain ⟨ad, had, hadL, hadM, hadS⟩ : ∃ ad : Nat → Nat, (∀ k : Nat, k < 1000000 → ad k = s.heap.size + k) ∧ ad 1000000 = tL ∧ ad 1000001 = tM ∧ ad 1000002 = b := ⟨fun k => if k < 1000000 then s.heap.size + k else if k = 1000000 then tL else if k = 1000001 then tM else b, fun k hk => if_pos hk, (if_neg (show ¬ (1000000 : Nat) < 1000000 by omega)).trans (if_pos rfl), (if_neg (show ¬ (1000001 : Nat) < 1000000 by omega)).trans ((if_neg (show ¬ (1000001 : Nat) = 1000000 by omega)).trans (if_pos rfl)), (if_neg (show ¬ (1000002 : Nat) < 1000000 by omega)).trans ((if_neg (show ¬ (1000002 : Nat) = 1000000 by omega)).trans (if_neg (show ¬ (1000002 : Nat) = 1000001 by omega)))⟩
  refine ⟨((dC, dI), (cI, cC, cS), ad, s.heap.size), ⟨⟨hKc, fun k q hk => ?_⟩, ⟨?_, ?_, ?_, ?_, ?_⟩, ⟨?_, ?_⟩, ?_, ?_, ?_, ?_, L, xs, hL, ?_⟩, ⟨?_, ?_, ?_, ?_, va_AO.of hov⟩, rfl, hadS, had⟩
  · match k, hk with
    | 0, hk => cases hk; exact ⟨fun n z => ⟨fun k h => (by cases h), kI, fI2, pI, fI3⟩, fI1⟩
    | 1, hk => cases hk; exact ⟨fun n z => ⟨fun k h => (by cases h), kC, fC2, pC, fC3⟩, fC1⟩
    | 2, hk => cases hk; exact ⟨fun n z => ⟨fun k h => (by cases h), kS, fS3, pS, fS4⟩, kS, pS, fS3, fS4, fS1, fS5⟩
    | k + 3, hk => simp [gT] at hk
  · exact (hts (.methodLinkNest RX0 36 yX5_isCell host5) (List.mem_of_getElem? (i := 275) (by decide +kernel)) : _)
  · exact (hts (.methodLinkNest RX4 44 yX5_isCell host5) (List.mem_of_getElem? (i := 208) (by decide +kernel)) : _)
  · exact (hts (.methodLinkNest RX3 62 yX5_isRise host5) (List.mem_of_getElem? (i := 338) (by decide +kernel)) : _)
  · exact (hts (.fieldLinkNest RX3 52 "SaltWedge" "LEAST_SETTINGS" "[I" host5) (List.mem_of_getElem? (i := 300) (by decide +kernel)) : _)
  · exact (hts (.fieldLinkNest RX3 55 "SaltWedge" "MOST_SETTINGS" "[I" host5) (List.mem_of_getElem? (i := 302) (by decide +kernel)) : _)
  · show va_Z _ _ _ (.ref (ad 1000000)) _ _ _
    rw [hadL]
    exact hZL
  · show va_Z _ _ _ (.ref (ad 1000001)) _ _ _
    rw [hadM]
    exact hZM
  · show va_T _ (ad 1000000) _ _ _ _ _
    rw [hadL]
    exact hTL
  · show va_T _ (ad 1000001) _ _ _ _ _
    rw [hadM]
    exact hTM
  · show ¬ s.heap.size ≤ ad 1000000
    rw [hadL]
    exact hTL.out
  · show ¬ s.heap.size ≤ ad 1000001
    rw [hadM]
    exact hTM.out
  · show va_T _ (ad 1000002) _ _ _ _ _
    rw [hadS]
    exact hXT
  · exact (hts (.methodLinkNest RX5 11 yX3_init host5) (List.mem_of_getElem? (i := 26) (by decide +kernel)) : _)
  · exact (hts (.methodLinkNest RX3 20 yX4_init host5) (List.mem_of_getElem? (i := 59) (by decide +kernel)) : _)
  · exact (hts (.methodLinkNest RX1 17 yX3_init host5) (List.mem_of_getElem? (i := 122) (by decide +kernel)) : _)
  · exact (hts (.methodLinkNest RX5 31 yX2_init host5) (List.mem_of_getElem? (i := 133) (by decide +kernel)) : _)
/-! a new object -/
def v0 : SV := fun i => match i with
  | 0 => d0F
  | 10 => s0F
  | 11 => fun j => if j = 1 then 10 else if j = 3 then -5 else 0
  | _ => zF
abbrev hZ : List PO := [] ++ clsL 0
set_option maxRecDepth 100000 in
theorem st_z1 : stAt hZ 1 v0 := ⟨rfl, ⟨rfl, rfl, rfl, rfl, rfl⟩, ⟨rfl, rfl, rfl, rfl, rfl, rfl, rfl⟩, rfl⟩
set_option maxRecDepth 100000 in
theorem st_z2 : stAt hZ 15 v0 := ⟨rfl, ⟨rfl, rfl, rfl, rfl, rfl⟩, ⟨rfl, rfl, rfl, rfl, rfl, rfl, rfl⟩, rfl⟩
set_option maxRecDepth 100000 in
theorem st_z3 : stAt hZ 29 v0 := ⟨rfl, ⟨rfl, rfl, rfl, rfl, rfl⟩, ⟨rfl, rfl, rfl, rfl, rfl, rfl, rfl⟩, rfl⟩
set_option maxRecDepth 100000 in
theorem st_z4 : stAt hZ 45 v0 := ⟨rfl, ⟨rfl, rfl, rfl, rfl, rfl⟩, ⟨rfl, rfl, rfl, rfl, rfl, rfl, rfl⟩, rfl⟩
set_option maxRecDepth 100000 in
theorem st_z5 : stAt hZ 59 v0 := ⟨rfl, ⟨rfl, rfl, rfl, rfl, rfl⟩, ⟨rfl, rfl, rfl, rfl, rfl, rfl, rfl⟩, rfl⟩
set_option maxRecDepth 100000 in
theorem st_z6 : stAt hZ 73 v0 := ⟨rfl, ⟨rfl, rfl, rfl, rfl, rfl⟩, ⟨rfl, rfl, rfl, rfl, rfl, rfl, rfl⟩, rfl⟩
set_option maxRecDepth 100000 in
theorem st_z7 : stAt hZ 87 v0 := ⟨rfl, ⟨rfl, rfl, rfl, rfl, rfl⟩, ⟨rfl, rfl, rfl, rfl, rfl, rfl, rfl⟩, rfl⟩
theorem pr_z : PR 43 (rh0 43) := by
  refine ⟨fun i a b => ⟨i.toNat, by omega, rfl⟩, fun i j a b c d e => ?_⟩
  unfold rh0 at e
  omega
set_option maxRecDepth 100000 in
theorem hi_z : hiAt hZ 43 (rh0 43) (fun _ => v0) 0 := by
  refine ⟨rfl, rfl, pr_z, fun i i0 i1 => ?_⟩
  rcases (show i = 0 ∨ i = 1 ∨ i = 2 ∨ i = 3 from by omega) with q | q | q | q
  · subst q; exact st_z4
  · subst q; exact st_z5
  · subst q; exact st_z6
  · subst q; exact st_z7
set_option maxRecDepth 100000 in
theorem sc_z : scAt hZ 101 zF 0 zF zF zF 0 0 := ⟨rfl, rfl, rfl, rfl, rfl⟩
set_option maxRecDepth 100000 in
theorem cl_z : clA hZ 0 v0 (fun _ => v0) 0 0 v0 zF 0 (-5) (-5) :=
  ⟨v0, rh0 43, zF, zF, zF, 0, 0, 0, 0, 0, ⟨rfl, st_z1, st_z2, st_z3, hi_z, sc_z⟩, Or.inl ⟨rfl, rfl, rfl⟩⟩
theorem rg_z {lo hi n : Int} (h0 : lo ≤ 0) (h1 : 0 ≤ hi) : RG lo hi n zF := fun _ _ _ => ⟨h0, h1⟩
theorem ok_z : OKt v0 := by
  have rgn : ∀ (lo hi : Int) (q : Int → Int), RG lo hi 0 q := fun lo hi q j a b => absurd b (by omega)
  refine ⟨⟨⟨fun j j0 j1 => ?_, rg_z (by decide) (by decide), rg_z (by decide) (by decide)⟩, ⟨⟨by decide, by decide⟩, ⟨by decide, by decide⟩, ⟨by decide, by decide⟩⟩, ⟨⟨by decide, by decide⟩, ⟨by decide, by decide⟩, ⟨by decide, by decide⟩⟩, ⟨rgn _ _ _, rgn _ _ _, rgn _ _ _, rgn _ _ _⟩, fun w w0 w1 => ?_, fun w u w0 w1 => ?_⟩, by decide, by decide⟩
  · show 1 ≤ d0F j ∧ d0F j ≤ 60
    unfold d0F
    rw [parN_lt j0 j1]
    decide
  · have w1' : w < 0 := w1
    omega
  · have w1' : w < 0 := w1
    omega
theorem inv_z : INV v0 (fun _ => v0) 0 0 v0 zF 0 := ⟨ok_z, by decide, fun i i0 i1 => absurd i1 (by omega), Or.inl rfl, rg_z (by decide) (by decide), by decide⟩
theorem xi_z : XI v0 := by
  refine ⟨fun c c0 c1 => ?_, fun w w0 w1 => ?_⟩
  · show (0 : Int) ≤ d0F c ∧ (0 : Int) ≤ d0F c ∧ (0 : Int) ≤ 0 ∧ (0 : Int) ≤ 0 ∧ ((0 : Int) < 0 → c ≤ -5)
    have e : d0F c = 20 := by
      unfold d0F
      rw [parN_lt c0 c1]
    rw [e]
    exact ⟨by decide, by decide, by decide, by decide, fun q => absurd q (by decide)⟩
  · have w1' : w < 0 := w1
    omega
theorem sys_z : SYS hZ v0 (fun _ => v0) 0 0 v0 := ⟨cl_z, inv_z, xi_z⟩
set_option maxRecDepth 100000 in
set_option maxHeartbeats 8000000 in
theorem law_main (b : Nat) : GL (Ol b) room_1 9 Zl cL_law 10 hZ 8 [some (p_ rZs), some (p_ 0), none, none, none, none, none, none, none, none] [] := by
  have hS := sys_z
  refine L_aload_n dL_law_8 rfl rfl ?_
  refine L_callS (as := [_]) (c_L_hangs _ _ _ _ _ _ hS) dL_law_9 ml_L_77 cs_L_hangs rfl (Nat.le_of_ble_eq_true rfl) (Nat.le_of_ble_eq_true rfl) rfl (fun r h2 hp => ?_)
  obtain ⟨rfl, hS⟩ := hp
  refine L_if_eq (tgt := 27) dL_law_12 (by decide) (inR_of (by omega) (by omega)) (fun hc12 => ?_) (fun hc12 => ?_)
  · skip
    exfalso; omega
  · skip
    refine L_aload_n dL_law_15 rfl rfl ?_
    refine L_iconst dL_law_16 ?_
    refine L_callS (as := [_, _]) (c_L_comes _ _ _ _ _ _ _ hS (by omega) (by show (0 : Int) + 1 ≤ 99999; omega)) dL_law_17 ml_L_99 cs_L_comes rfl (Nat.le_of_ble_eq_true rfl) (Nat.le_of_ble_eq_true rfl) rfl (fun r h2 hp => ?_)
    obtain ⟨rfl, hv2, sz2, hS⟩ := hp
    refine L_if_eq (tgt := 27) dL_law_20 (by decide) (inR_of (by omega) (by omega)) (fun hc20 => ?_) (fun hc20 => ?_)
    · skip
      exfalso; omega
    · skip
      refine L_iconst dL_law_23 ?_
      refine L_goto (tgt := 28) dL_law_24 (by decide) ?_
      refine L_istore_n dL_law_28 rfl (by decide) rfl rfl ?_
      refine L_iconst dL_law_29 ?_
      refine L_istore_n dL_law_30 rfl (by decide) rfl rfl ?_
      exact law_loop b 45 0 _ _ _ _ _ _ hS (by show (0 : Int) ≤ 60 * 0; omega) (by omega) (by omega)
set_option maxRecDepth 100000 in
set_option maxHeartbeats 8000000 in
theorem law_walk (l : Launch) (L : Nat) (hL : L ≤ 260) (xs : Nat → Int32) : LN l L xs 0 0 [] 0 [some (r_ rZs), none, none, none, none, none, none, none, none, none] [] := by
  refine LN_new (k9 := 0) dL_law_0 nc_L_17 (Nat.le_of_ble_eq_true rfl) (Nat.le_of_ble_eq_true rfl) (Nat.le_of_ble_eq_true rfl) rfl ?_
  refine LN_dup dL_law_3 ?_
  refine LN_callI (as := []) (c_X5_init [] 0 rfl (Nat.le_of_ble_eq_true rfl)) dL_law_4 ml_L_98 cc_X5 rfl (Nat.le_of_ble_eq_true rfl) (Nat.le_of_ble_eq_true rfl) (Nat.le_of_ble_eq_true rfl) (Nat.le_of_ble_eq_true rfl) (Nat.le_of_ble_eq_true rfl) rfl (fun r h2 hp => by obtain ⟨-, rfl⟩ := hp; rfl) (fun r h2 hp => ?_)
  obtain ⟨rfl, rfl⟩ := hp
  refine LN_astore_n (lv2 := [some (r_ rZs), some (r_ 0), none, none, none, none, none, none, none, none]) dL_law_7 rfl (by decide) rfl ?_
  exact LN_go (Nat.le_of_ble_eq_true rfl) (Nat.le_of_ble_eq_true rfl) rfl (fun b => law_main b)
theorem whole_start {p : Program} {e : Jvm.Env} {s : State} {m : MethodId} {below : List Frame} {meth : Method} {c : Code} (l : Launch) (hflags : l.flags = flags0) {b L : Nat} {xs : Nat → Int32} (hL : L ≤ 260) (C0 : lw_At p s m meth c b L xs) : W p l e room_1 s m #[Value.ref b] below meth c s.heap [] 0 0 (lw_Z below #[Value.ref b] s) (entryFrame m ([Value.ref b] : List Value).toArray 10) := by
  obtain ⟨g, hE, hN, hK, hZ9, hA⟩ := start_env hL C0
  have hl := lv_entry ([.ref b]) (n := 10) (Nat.le_of_ble_eq_true rfl)
  rw [lg_entry_eq]
  generalize (lg_sl ([.ref b]) ++ List.replicate (10 - (lg_sl ([.ref b])).length) Slot.unset).toArray = ls at hl ⊢
  have hl : lv_has ls 10 [(0, .ref b)] := hl
  have hl2 : lvh g ls 10 [some (r_ rZs), none, none, none, none, none, none, none, none, none] := by
    show lv_has ls 10 [(0, .ref (gad g rZs))]
    rw [hZ9]
    exact hl
  exact law_walk l L hL xs g p e s m b below meth c s.heap [] ls ⟨C0, hE, hK, hZ9, hL⟩ hA hN rfl (fun k q h => by simp [wld] at h) ⟨fun i j p q h => by simp [wld] at h, fun k q h => by simp [wld] at h⟩ va_S.rf hl2
-- ===== YOUR PART ENDS =====
set_option maxHeartbeats 4000000 in
theorem lw_walk (l : Launch) (hflags : l.flags = flags0) (b : Addr) (xs : List Int32) : MetFree l x (headSpec (Jvm.Cond.code x code maxLocals ret :: tables_1) room_1) (lw_P b xs) (fun _ _ _ _ _ => True) lw_Q := by
  refine MetFree.of_bodyS (code := code) (maxLocals := maxLocals) (ret := ret) (by decide) ?_ ?_
  · intro args s m h hn
    obtain ⟨meth, c, h1, h2, h3, h4, h5, h6, -, -⟩ := Cond.code_spec hn (atoms_spec (ws := Jvm.Cond.code x code maxLocals ret :: tables_1) h _ List.mem_cons_self)
    exact ⟨meth, c, h1, h2, h3, h4, h5, h6⟩
  · intro p e s m args below meth c s₁ B hml0 hP _
    obtain ⟨rfl, hx, hbd, hgv⟩ := hP
    obtain ⟨scr, harrAt, hlist, hof, hsmall⟩ := hx
    obtain ⟨hcb, hkn, -, -⟩ := State.arrayAt?_spec harrAt
    have hown : s.vm.findClass R_law = some m.cls := findClass_of_methodNamed B.named
    have hts0 : ∀ c ∈ (Jvm.Cond.code x code maxLocals ret :: tables_1), c.before #[Value.ref b] s = true := atoms_spec (ws := Jvm.Cond.code x code maxLocals ret :: tables_1) B.pre
    have hts : ∀ w ∈ lw_tbl, w.before #[Value.ref b] s = true := k2_hts_sels lw_privs (fun w hw => hts0 w (List.mem_cons_of_mem _ hw)) lw_privs_ok
    have hml : c.maxLocals = 10 := B.maxLocals_eq (hts0 _ List.mem_cons_self)
    have X₀ : Stand p l e room_1 s m #[Value.ref b] below meth c s₁ [] 0 0 := Stand.of_body B
    have hh0 : s₁.heap = s.heap := by rw [B.state]; rfl
    have hsz : scr.slots.size = xs.length := by rw [← Array.length_toList, hlist, List.length_map]
    have hval : ∀ j : Nat, j < xs.length → scr.slots[j]? = some (.int (xs.getD j 0)) := fun j hj => by
      rw [← Array.getElem?_toList, hlist]
      simp [hj]
    have hbl : b < s.heap.size := (Array.getElem?_eq_some_iff.mp hcb).1
    have hX : va_X b xs.length (fun j => xs.getD j 0) s s.heap := ⟨scr, hcb, hof, hkn, hsz, hval⟩
    have K : W p l e room_1 s m #[Value.ref b] below meth c s₁.heap [] 0 0 (lw_Z below #[Value.ref b] s) (entryFrame m ([Value.ref b] : List Value).toArray 10) := by
      rw [hh0]
      exact whole_start l hflags hbd ⟨B.exec, B.bytes, B.returns, hml, hown, hts, hX, hbl, B.notSynchronized, hgv⟩
    obtain ⟨t, a1, o, b1, b2, b3⟩ := K s₁ rfl X₀
    exact ⟨t, o, a1, b1, b2, b3⟩
theorem lw_pre_spec {args : Array Value} {s : State} (h : (Jvm.Cond.and given_1 narrow_1).before args s = true) (hr : rest_1_c.before args s = true) : ∃ (b : Addr) (xs : List Int32), lw_P b xs args s := by
  have hs := flat_of_before _ h
  have hq := flat_of_before _ hr
  have hc : (Cond.count 1).before args s = true := hs _ (by decide +kernel)
  have harr : (Cond.arrayOf (.arg 0) .int).before args s = true := hs _ (by decide +kernel)
  have hle : (Cond.le (.length (.arg 0)) (.int 260)).before args s = true := hs _ (by decide +kernel)
  have hlen : (Cond.isInt (.length (.arg 0))).before args s = true := hq _ (by decide +kernel)
  have hall : (Cond.all (.arg 0) (.isInt (.elem (.arg 0) (.index 0)))).before args s = true := hq _ (by decide +kernel)
  obtain ⟨b, xs, hb, hx⟩ := State.ints_of_pre rfl harr hlen hall
  have hsm : xs.length < 2 ^ 31 := hx.choose_spec.2.2.2
  have hev : (Term.length (.arg 0)).eval args s none [] s = some (.int xs.length.toInt32) := hx.length_eval hb
  have hv := Cond.le_ints hev (show (Term.int 260).eval args s none [] s = some (.int 260) from rfl)
  have hd : xs.length.toInt32 ≤ 260 := by
    simpa [Cond.before, Cond.holds, hv] using hle
  have hN : xs.length ≤ 260 := (Int32.ofNat_le_ofNat hsm (by decide)).mp (show Int32.ofNat xs.length ≤ Int32.ofNat 260 from hd)
  exact ⟨b, xs, Cond.one_arg hc (show args[0]? = some (.ref b) from hb), hx, hN, h⟩
theorem lw_comes (l : Launch) (hflags : l.flags = flags0) : Comes l x (Jvm.Cond.code x code maxLocals ret :: tables_1) room_1 (fun tb e args s => Calls_1 tb e args s ∧ rest_1 tb e args s ∧ Pre_1 tb e args s)
    (fun _ _ args s o t => lw_Q args s o t) := by
  intro p e ha hc hk s m args below hf hfit hheap happ hpre
  obtain ⟨b, xs, hP⟩ := lw_pre_spec hpre.2.2 hpre.2.1
  obtain ⟨k, o, h1, h2, h3, hQ⟩ := lw_walk l hflags b xs p e ha hc hk s m args below hf ((Spec.applies_iff_loose hf).mp happ).1 hP trivial
  exact ⟨k, o, h1, h2, h3, hQ⟩
theorem lw_frame {s t : State} {o : Outcome} {args : Array Value} (h : Framed s o t [] 600000 7302249) :
    Framed s o t (fieldLocs frame_1_writes args s ++ arrayLocs frame_1_arrays args s ++ staticLocs frame_1_statics s) 600000 7302249 := h
theorem lw_limb (L : Cond) (hL : ∀ (args : Array Value) (s t : State), L.after args s (.returned (some (.int 1))) t = true) :
    ArmFor flags0 classFile x code maxLocals ret World_1 tables_1 room_1 Calls_1 rest_1 Pre_1
      (fun tb e a s o t => postC L tb e a s o t ∧ Framed s o t (fieldLocs frame_1_writes a s ++ arrayLocs frame_1_arrays a s ++ staticLocs frame_1_statics s) 600000 7302249) := by
  intro l hflags _ _ p e ha hc hk s m args below hf hfit hheap happ hpre
  obtain ⟨k, o, h1, h2, h3, rfl, hF⟩ := lw_comes l hflags p e ha hc hk s m args below hf hfit hheap happ hpre
  exact ⟨k, _, h1, h2, h3, hL args s _, lw_frame hF⟩
theorem i_vc : Claimed_1_1 ∧ Claimed_1_2 := ⟨lw_limb limb_1_1 (fun args s t => by simp [limb_1_1, Cond.after, Cond.holds, Cond.value]), lw_limb limb_1_2 (fun args s t => Cond.after_iff.mpr (by
  first | (rw [show limb_1_2 = Cond.eq .result (.int 1) from rfl, Cond.eq_ints (x := 1) (y := 1) rfl rfl]; simp; done) | (simp [limb_1_2, Cond.value, Term.eval]; done)))⟩
