/-! the system in one word: the object at 0, no text; what the class's methods do in it -/
abbrev zF : Int → Int := fun _ => 0
theorem PM.imp {f : Nat} {y : MethodName} {cc : ByteArray} {nL : Nat} {rt : Option FieldType} {h : List PO} {args : List PV} {post post2 : Option PV → List PO → Prop} (a : PM f y cc nL rt h args post) (k : ∀ r h', post r h' → post2 r h') : PM f y cc nL rt h args post2 :=
  fun l g => MetFree.mono (a l g) (fun _ _ q => q) (fun _ _ _ _ _ q => q) (fun _ _ _ _ _ q => ⟨⟨by obtain ⟨r, h', e1, e2, e3, e4⟩ := q.1.1; exact ⟨r, h', e1, k r h' e2, e3, e4⟩, q.1.2⟩, q.2⟩)
def SYS (h : List PO) (v : SV) (hv : Int → SV) (sz ks : Int) (sw : SV) : Prop := clA h 0 v hv sz ks sw zF 0 (-5) (-5) ∧ INV v hv sz ks sw zF 0 ∧ XI v
theorem clA.obj5 {h : List PO} {x : Nat} {v : SV} {hv : Int → SV} {sz ks : Int} {w : SV} {tx : Int → Int} {len sn se : Int} (a : clA h x v hv sz ks w tx len sn se) : ∃ fs, h[x]? = some (oO 5 fs) := by
  obtain ⟨u, ρ, ki, fi, s2, th, p, hst, n, e, ⟨a0, -⟩, -⟩ := a
  exact ⟨_, a0⟩
section SY
variable {h : List PO} {v : SV} {hv : Int → SV} {sz ks : Int} {sw : SV}
theorem SYS.obj (a : SYS h v hv sz ks sw) : ∃ fs, h[0]? = some (oO 5 fs) := a.1.obj5
theorem SYS.ok (a : SYS h v hv sz ks sw) : OK v := a.2.1.1.1
theorem SYS.okt (a : SYS h v hv sz ks sw) : OKt v := a.2.1.1
theorem SYS.xi (a : SYS h v hv sz ks sw) : XI v := a.2.2
/-- numbers of the state -/
theorem SYS.gen (a : SYS h v hv sz ks sw) : (0 ≤ v 11 0 ∧ v 11 0 ≤ 6) ∧ (0 ≤ v 11 1 ∧ v 11 1 ≤ 99) ∧ (0 ≤ v 11 2 ∧ v 11 2 ≤ 99999) ∧ (-5 ≤ v 11 3 ∧ v 11 3 ≤ 39) ∧ (0 ≤ v 10 0 ∧ v 10 0 ≤ 60) ∧ (0 ≤ v 10 1 ∧ v 10 1 ≤ 9) ∧ (1 ≤ v 10 2 ∧ v 10 2 ≤ 60) ∧ (0 ≤ sz ∧ sz ≤ 4) :=
  ⟨a.ok.2.2.1.1, a.ok.2.2.1.2.1, a.okt.2, a.ok.2.2.1.2.2, a.ok.2.1.1, a.ok.2.1.2.1, a.ok.2.1.2.2, a.2.1.2.1⟩
/-- a cell -/
theorem SYS.bed (a : SYS h v hv sz ks sw) {c : Int} (c0 : 0 ≤ c) (c1 : c < 40) : (1 ≤ v 0 c ∧ v 0 c ≤ 60) ∧ (0 ≤ v 1 c ∧ v 1 c ≤ v 0 c) ∧ (0 ≤ v 2 c ∧ v 2 c ≤ v 0 c) ∧ (0 ≤ v 3 c ∧ v 3 c ≤ v 11 2) ∧ (0 < v 2 c → c ≤ v 11 3) := by
  have d := a.ok.1.1 c c0 c1
  have s := a.ok.1.2.1 c c0 c1
  have e := a.ok.1.2.2 c c0 c1
  have x := a.xi.1 c c0 c1
  exact ⟨d, ⟨s.1, x.1⟩, ⟨e.1, x.2.1⟩, ⟨x.2.2.1, x.2.2.2.1⟩, x.2.2.2.2⟩
/-- a well -/
theorem SYS.wel (a : SYS h v hv sz ks sw) {w : Int} (w0 : 0 ≤ w) (w1 : w < v 11 0) : (0 ≤ v 4 w ∧ v 4 w ≤ 39) ∧ (1 ≤ v 5 w ∧ v 5 w ≤ 30) ∧ (0 ≤ v 6 w ∧ v 6 w ≤ 300) ∧ (0 ≤ v 7 w ∧ v 7 w ≤ 1) ∧ (v 7 w = 0 → v 6 w ≤ 49) ∧ (v 7 w = 1 → 1 ≤ v 6 w ∧ 1 ≤ v 9 w) ∧ (0 ≤ v 8 w ∧ v 8 w ≤ 30 * v 11 2) ∧ (0 ≤ v 9 w ∧ v 9 w ≤ v 11 2) := by
  obtain ⟨q1, q2, q3, q4⟩ := a.ok.2.2.2.1
  have x := a.xi.2 w w0 w1
  exact ⟨q1 w w0 w1, q2 w w0 w1, q3 w w0 w1, q4 w w0 w1, a.ok.2.2.2.2.1 w w0 w1, x.1, ⟨x.2.1, x.2.2.1⟩, x.2.2.2⟩
theorem SYS.inj (a : SYS h v hv sz ks sw) : ∀ w u : Int, 0 ≤ w → w < v 11 0 → 0 ≤ u → u < v 11 0 → v 4 w = v 4 u → w = u := a.ok.2.2.2.2.2
theorem SYS.bes (a : SYS h v hv sz ks sw) {k : Int} (k0 : 0 ≤ k) (k1 : k < v 11 0) : besN (v 4) (v 4 k) (v 11 0).toNat = k := by
  have g := a.gen.1
  exact besN_at (fun w u a1 a2 a3 a4 => a.inj w u a1 (by omega) a3 (by omega)) k0 (by omega)
/-! the readers -/
theorem s_cell {c d y : Int} (hS : SYS h v hv sz ks sw) (hc : inR c) (hd : inR d) (e : cellR v c d = y) : PM 5 yX5_cell cX5_cell 3 (some .int) h [r_ 0, i_ c, i_ d] (fun r0 h2 => r0 = some (i_ y) ∧ SYS h2 v hv sz ks sw) :=
  PM.imp (c_X5_cell h 0 v hv sz ks sw zF 0 (-5) (-5) c d hS.1 hS.2.1 hc hd) (fun r h' q => ⟨by rw [q.1, e], q.2.2, hS.2⟩)
theorem s_well {c d y : Int} (hS : SYS h v hv sz ks sw) (hc : inR c) (hd : inR d) (e : wellR v c d = y) : PM 5 yX5_well cX5_well 3 (some .int) h [r_ 0, i_ c, i_ d] (fun r0 h2 => r0 = some (i_ y) ∧ SYS h2 v hv sz ks sw) :=
  PM.imp (c_X5_well h 0 v hv sz ks sw zF 0 (-5) (-5) c d hS.1 hS.2.1 hc hd) (fun r h' q => ⟨by rw [q.1, e], q.2.2, hS.2⟩)
theorem s_reach (hS : SYS h v hv sz ks sw) : PM 5 yX5_reach cX5_reach 1 (some .int) h [r_ 0] (fun r0 h2 => r0 = some (i_ (reachN (v 2) 40)) ∧ SYS h2 v hv sz ks sw) :=
  PM.imp (c_X5_reach h 0 v hv sz ks sw zF 0 (-5) (-5) hS.1 hS.2.1) (fun r h' q => ⟨q.1, q.2.2, hS.2⟩)
theorem s_count {k y : Int} (hS : SYS h v hv sz ks sw) (hk : inR k) (e : countR v sz 0 k = y) : PM 5 yX5_count cX5_count 2 (some .int) h [r_ 0, i_ k] (fun r0 h2 => r0 = some (i_ y) ∧ SYS h2 v hv sz ks sw) :=
  PM.imp (c_X5_count h 0 v hv sz ks sw zF 0 (-5) (-5) k hS.1 hS.2.1 hk) (fun r h' q => ⟨by rw [q.1, e], q.2.2, hS.2⟩)
theorem s_mark {c d y : Int} (hS : SYS h v hv sz ks sw) (hc : inR c) (hd : inR d) (e : markR v c d = y) : PM 7 yX5_mark cX5_mark 3 (some .int) h [r_ 0, i_ c, i_ d] (fun r0 h2 => r0 = some (i_ y) ∧ SYS h2 v hv sz ks sw) :=
  PM.imp (c_X5_mark h 0 v hv sz ks sw zF 0 (-5) (-5) c d hS.1 hS.2.1 hc hd) (fun r h' q => ⟨by rw [q.1, e], q.2.2, hS.2⟩)
theorem s_reason {c d y : Int} (hS : SYS h v hv sz ks sw) (hc : inR c) (hd : inR d) (e : whyR v c d = y) : PM 7 yX5_reason cX5_reason 3 (some .int) h [r_ 0, i_ c, i_ d] (fun r0 h2 => r0 = some (i_ y) ∧ SYS h2 v hv sz ks sw) :=
  PM.imp (c_X5_reason h 0 v hv sz ks sw zF 0 (-5) (-5) c d hS.1 hS.2.1 hc hd) (fun r h' q => ⟨by rw [q.1, e], q.2.2, hS.2⟩)
theorem s_stopCell {c : Int} (hS : SYS h v hv sz ks sw) (hc : inR c) : PM 7 yX5_stopCell cX5_stopCell 3 (some .int) h [r_ 0, i_ c] (fun r0 h2 => r0 = some (i_ (stopR v c)) ∧ SYS h2 v hv sz ks sw) :=
  PM.imp (c_X5_stopCell h 0 v hv sz ks sw zF 0 (-5) (-5) c hS.1 hS.2.1 hc) (fun r h' q => ⟨q.1, q.2.2, hS.2⟩)
theorem s_leastFlow {c d : Int} (hS : SYS h v hv sz ks sw) (hc : inR c) (hd : inR d) : PM 7 yX5_leastFlow cX5_leastFlow 3 (some .int) h [r_ 0, i_ c, i_ d] (fun r0 h2 => r0 = some (i_ (leastR v c d)) ∧ SYS h2 v hv sz ks sw) :=
  PM.imp (c_X5_leastFlow h 0 v hv sz ks sw zF 0 (-5) (-5) c d hS.1 hS.2.1 hc hd) (fun r h' q => ⟨q.1, q.2.2, hS.2⟩)
theorem s_bestSill {c d : Int} (hS : SYS h v hv sz ks sw) (hc : inR c) (hd : inR d) : PM 7 yX5_bestSill cX5_bestSill 3 (some .int) h [r_ 0, i_ c, i_ d] (fun r0 h2 => r0 = some (i_ (bestR v c d)) ∧ SYS h2 v hv sz ks sw) :=
  PM.imp (c_X5_bestSill h 0 v hv sz ks sw zF 0 (-5) (-5) c d hS.1 hS.2.1 hc hd) (fun r h' q => ⟨q.1, q.2.2, hS.2⟩)
theorem s_restsIn {c d : Int} (hS : SYS h v hv sz ks sw) (hc : inR c) (hd : inR d) : PM 7 yX5_restsIn cX5_restsIn 4 (some .int) h [r_ 0, i_ c, i_ d] (fun r0 h2 => r0 = some (i_ (restR v c d)) ∧ SYS h2 v hv sz ks sw) :=
  PM.imp (c_X5_restsIn h 0 v hv sz ks sw zF 0 (-5) (-5) c d hS.1 hS.2.1 hc hd) (fun r h' q => ⟨q.1, q.2.2, hS.2⟩)
theorem s_keep (hS : SYS h v hv sz ks sw) : PM 7 yX5_keep cX5_keep 1 (some .int) h [r_ 0] (fun r0 h2 => r0 = some (i_ (v 11 2)) ∧ SYS h2 v hv sz 1 v) :=
  PM.imp (c_X5_keep h 0 v hv sz ks sw zF 0 (-5) (-5) hS.1 hS.2.1) (fun r h' q => ⟨q.1, q.2.2, ⟨hS.2.1.1, hS.2.1.2.1, hS.2.1.2.2.1, Or.inr ⟨rfl, hS.2.1.1⟩, hS.2.1.2.2.2.2⟩, hS.2.2⟩)
/-! acts -/
theorem SYS.act {h2 : List PO} {V : SV} {R : Int} (hS : SYS h v hv sz ks sw) (a : clA h2 0 V (hvA hv sz v R) (szA sz R) ks sw zF 0 (-5) (-5)) (b : OKt V) (c : XI V) : SYS h2 V (hvA hv sz v R) (szA sz R) ks sw := ⟨a, hS.2.1.act R b, c⟩
theorem s_dig {c d : Int} (hS : SYS h v hv sz ks sw) (hc : inR c) (hd : inR d) : PM 7 yX5_dig cX5_dig 3 (some .int) h [r_ 0, i_ c, i_ d] (fun r0 h2 => r0 = some (i_ (digR v c d)) ∧ SYS h2 (digV v c d) (hvA hv sz v (digR v c d)) (szA sz (digR v c d)) ks sw) :=
  PM.imp (c_X5_dig h 0 v hv sz ks sw zF 0 (-5) (-5) c d hS.1 hS.2.1 hc hd) (fun r h' q => ⟨q.1, hS.act q.2.2 hS.okt.dig hS.xi.dig⟩)
theorem s_build {c d : Int} (hS : SYS h v hv sz ks sw) (hc : inR c) (hd : inR d) : PM 7 yX5_build cX5_build 3 (some .int) h [r_ 0, i_ c, i_ d] (fun r0 h2 => r0 = some (i_ (buildR v c d)) ∧ SYS h2 (buildV v c d) (hvA hv sz v (buildR v c d)) (szA sz (buildR v c d)) ks sw) :=
  PM.imp (c_X5_build h 0 v hv sz ks sw zF 0 (-5) (-5) c d hS.1 hS.2.1 hc hd) (fun r h' q => ⟨q.1, hS.act q.2.2 hS.okt.build hS.xi.build⟩)
theorem s_flow {c : Int} (hS : SYS h v hv sz ks sw) (hc : inR c) : PM 7 yX5_flow cX5_flow 2 (some .int) h [r_ 0, i_ c] (fun r0 h2 => r0 = some (i_ (flowR v c)) ∧ SYS h2 (flowV v c) (hvA hv sz v (flowR v c)) (szA sz (flowR v c)) ks sw) :=
  PM.imp (c_X5_flow h 0 v hv sz ks sw zF 0 (-5) (-5) c hS.1 hS.2.1 hc) (fun r h' q => ⟨q.1, hS.act q.2.2 hS.okt.flow hS.xi.flow⟩)
theorem s_set {c d : Int} (hS : SYS h v hv sz ks sw) (hc : inR c) (hd : inR d) : PM 7 yX5_set cX5_set 3 (some .int) h [r_ 0, i_ c, i_ d] (fun r0 h2 => r0 = some (i_ (setR v c d)) ∧ SYS h2 (setV v c d) (hvA hv sz v (setR v c d)) (szA sz (setR v c d)) ks sw) :=
  PM.imp (c_X5_set h 0 v hv sz ks sw zF 0 (-5) (-5) c d hS.1 hS.2.1 hc hd) (fun r h' q => ⟨q.1, hS.act q.2.2 hS.okt.set hS.xi.set⟩)
theorem s_sink {c d : Int} (hS : SYS h v hv sz ks sw) (hc : inR c) (hd : inR d) : PM 7 yX5_sink cX5_sink 3 (some .int) h [r_ 0, i_ c, i_ d] (fun r0 h2 => r0 = some (i_ (sinkR (v 4) (v 11 0) c d)) ∧ SYS h2 (sinkV v c d) (hvA hv sz v (sinkR (v 4) (v 11 0) c d)) (szA sz (sinkR (v 4) (v 11 0) c d)) ks sw) :=
  PM.imp (c_X5_sink h 0 v hv sz ks sw zF 0 (-5) (-5) c d hS.1 hS.2.1 hc hd) (fun r h' q => ⟨q.1, hS.act q.2.2 hS.okt.sink (hS.xi.sink hS.okt.2.1)⟩)
theorem s_fillIn {c : Int} (hS : SYS h v hv sz ks sw) (hc : inR c) : PM 7 yX5_fillIn cX5_fillIn 2 (some .int) h [r_ 0, i_ c] (fun r0 h2 => r0 = some (i_ (fillR (v 6) (v 11 0) c)) ∧ SYS h2 (fillV v c) (hvA hv sz v (fillR (v 6) (v 11 0) c)) (szA sz (fillR (v 6) (v 11 0) c)) ks sw) :=
  PM.imp (c_X5_fillIn h 0 v hv sz ks sw zF 0 (-5) (-5) c hS.1 hS.2.1 hc) (fun r h' q => ⟨q.1, hS.act q.2.2 hS.okt.fill hS.xi.fill⟩)
theorem s_setRate {c d : Int} (hS : SYS h v hv sz ks sw) (hc : inR c) (hd : inR d) : PM 7 yX5_setRate cX5_setRate 3 (some .int) h [r_ 0, i_ c, i_ d] (fun r0 h2 => r0 = some (i_ (rateR (v 5) (v 11 0) c d)) ∧ SYS h2 (rateV v c d) (hvA hv sz v (rateR (v 5) (v 11 0) c d)) (szA sz (rateR (v 5) (v 11 0) c d)) ks sw) :=
  PM.imp (c_X5_setRate h 0 v hv sz ks sw zF 0 (-5) (-5) c d hS.1 hS.2.1 hc hd) (fun r h' q => ⟨q.1, hS.act q.2.2 hS.okt.rate hS.xi.rate⟩)
theorem s_tide {c d : Int} (hS : SYS h v hv sz ks sw) (hc : inR c) (hd : inR d) : PM 7 yX5_tide cX5_tide 3 (some .int) h [r_ 0, i_ c, i_ d] (fun r0 h2 => r0 = some (i_ (tidesR v c d)) ∧ SYS h2 (tidesV v c d) (hvA hv sz v (tidesR v c d)) (szA sz (tidesR v c d)) ks sw) :=
  PM.imp (c_X5_tide h 0 v hv sz ks sw zF 0 (-5) (-5) c d hS.1 hS.2.1 hc hd) (fun r h' q => ⟨q.1, hS.act q.2.2 hS.okt.tides (hS.xi.tides hS.ok hS.okt.2.1)⟩)
/-- undo, where the latest state is known -/
theorem s_undo {V : SV} {hvV : Int → SV} {szV : Int} (hS : SYS h V hvV szV ks sw) (e : undV V hvV szV = v) (hx : XI v) : PM 7 yX5_undo cX5_undo 1 (some .int) h [r_ 0] (fun r0 h2 => r0 = some (i_ (undR szV)) ∧ SYS h2 v hvV (undZ szV) ks sw) :=
  PM.imp (c_X5_undo h 0 V hvV szV ks sw zF 0 (-5) (-5) hS.1 hS.2.1) (fun r h' q => by
    obtain ⟨h1, h2, h3, h4, h5, h6⟩ := hS.2.1
    rw [e] at q
    refine ⟨q.1, q.2.2, ⟨?_, ?_, ?_, h4, h5, h6⟩, hx⟩
    · unfold undV at e
      by_cases z : szV = 0
      · rw [if_pos z] at e; rw [← e]; exact h1
      · rw [if_neg z] at e; rw [← e]; exact h3 _ (by omega) (by omega)
    · unfold undZ
      split <;> omega
    · intro i i0 i1
      refine h3 i i0 ?_
      unfold undZ at i1
      by_cases z : szV = 0
      · rw [if_pos z] at i1; exact i1
      · rw [if_neg z] at i1; omega)
theorem s_restore {V : SV} {hvV : Int → SV} {szV : Int} (hS : SYS h V hvV szV 1 v) (ht : 0 ≤ v 11 2) (hx : XI v) : PM 7 yX5_restore cX5_restore 1 (some .int) h [r_ 0] (fun r0 h2 => r0 = some (i_ (v 11 2)) ∧ ∃ hv2 sz2, SYS h2 v hv2 sz2 1 v) :=
  PM.imp (c_X5_restore h 0 V hvV szV 1 v zF 0 (-5) (-5) hS.1 hS.2.1) (fun r h' q => by
    have e1 : rstR 1 v = v 11 2 := if_pos rfl
    have e2 : rstV V 1 v = v := if_pos rfl
    rw [e1, e2] at q
    have ho : OKt v := by
      rcases hS.2.1.2.2.2.1 with z | z
      · exact absurd z (by decide)
      · exact z.2
    exact ⟨q.1, _, _, hS.act q.2.2 ho hx⟩)
end SY
/-! what the readers answer -/
section RD
variable {v : SV} {c w sz : Int}
theorem cell_0 (a : 0 ≤ c) (b : c < 40) : cellR v c 0 = v 0 c := by unfold cellR; rw [if_neg (fun q => q ⟨a, b⟩)]; rfl
theorem cell_1 (a : 0 ≤ c) (b : c < 40) : cellR v c 1 = v 1 c := by unfold cellR; rw [if_neg (fun q => q ⟨a, b⟩)]; rfl
theorem cell_2 (a : 0 ≤ c) (b : c < 40) : cellR v c 2 = v 2 c := by unfold cellR; rw [if_neg (fun q => q ⟨a, b⟩)]; rfl
theorem cell_3 (a : 0 ≤ c) (b : c < 40) : cellR v c 3 = besN (v 4) c (v 11 0).toNat := by unfold cellR; rw [if_neg (fun q => q ⟨a, b⟩)]; rfl
theorem cell_4 (a : 0 ≤ c) (b : c < 40) : cellR v c 4 = v 3 c := by unfold cellR; rw [if_neg (fun q => q ⟨a, b⟩)]; rfl
theorem well_0 (a : 0 ≤ w) (b : w < v 11 0) : wellR v w 0 = v 4 w := by unfold wellR tellR; rw [if_neg (fun q => q ⟨a, b⟩)]; rfl
theorem well_1 (a : 0 ≤ w) (b : w < v 11 0) : wellR v w 1 = v 5 w := by unfold wellR tellR; rw [if_neg (fun q => q ⟨a, b⟩)]; rfl
theorem well_2 (a : 0 ≤ w) (b : w < v 11 0) : wellR v w 2 = v 6 w := by unfold wellR tellR; rw [if_neg (fun q => q ⟨a, b⟩)]; rfl
theorem well_3 (a : 0 ≤ w) (b : w < v 11 0) : wellR v w 3 = v 7 w := by unfold wellR tellR; rw [if_neg (fun q => q ⟨a, b⟩)]; rfl
theorem well_4 (a : 0 ≤ w) (b : w < v 11 0) : wellR v w 4 = conI (v 4) (v 5) (v 7) (v 11 0) w := by unfold wellR tellR; rw [if_neg (fun q => q ⟨a, b⟩)]; rfl
theorem well_5 (a : 0 ≤ w) (b : w < v 11 0) : wellR v w 5 = v 8 w := by unfold wellR tellR; rw [if_neg (fun q => q ⟨a, b⟩)]; rfl
theorem well_6 (a : 0 ≤ w) (b : w < v 11 0) : wellR v w 6 = v 9 w := by unfold wellR tellR; rw [if_neg (fun q => q ⟨a, b⟩)]; rfl
end RD
theorem sumN_rng {lo hi : Int} {q : Int → Int} : ∀ n : Nat, (∀ j : Int, 0 ≤ j → j < n → lo ≤ q j ∧ q j ≤ hi) → lo * (n : Int) ≤ sumN q n ∧ sumN q n ≤ hi * (n : Int) := by
  intro n
  induction n with
  | zero => intro _; show lo * 0 ≤ 0 ∧ 0 ≤ hi * 0; omega
  | succ n ih =>
    intro hj
    have a := ih (fun j x y => hj j x (by omega))
    have b := hj n (by omega) (by omega)
    have e1 : lo * ((n + 1 : Nat) : Int) = lo * (n : Int) + lo := by rw [Int.natCast_add, Int.mul_add]; simp
    have e2 : hi * ((n + 1 : Nat) : Int) = hi * (n : Int) + hi := by rw [Int.natCast_add, Int.mul_add]; simp
    show lo * ((n + 1 : Nat) : Int) ≤ sumN q n + q n ∧ sumN q n + q n ≤ hi * ((n + 1 : Nat) : Int)
    omega
/-! forks: paths that meet again with a number on the stack -/
section FK
variable {Ω : GP → State → Array Value → Method → Prop} {R : Room} {F : Nat} {Z : GP → State → Array Value → List Frame → State → Prop} {cc : ByteArray} {nL : Nat} {h : List PO} {pc : Nat} {lv : List (Option PW)} {st : List PW}
theorem lwh_none {g : GP} {ls : Array Slot} {nL : Nat} {lv : List (Option PW)} (i : Nat) (h : lwh g ls nL lv) : lwh g ls nL (lv.set i none) := by
  refine ⟨h.1, h.2.1, fun q hq => ?_⟩
  obtain ⟨j, w, a, rfl⟩ := lwl_mem.mp hq
  rw [Nat.zero_add]
  by_cases e : i = j
  · subst e
    rw [List.getElem?_set] at a
    simp at a
  · rw [List.getElem?_set_ne e] at a
    exact lwh_at h a
theorem L_forget (i : Nat) {lv2 : List (Option PW)} (e : lv.set i none = lv2) (k : GL Ω R F Z cc nL h pc lv2 st) : GL Ω R F Z cc nL h pc lv st := by
  subst e
  exact L_w (fun g p l e s m args below meth c H locs ls hO hR M E hK hP hD hS hl kk => kk H locs ls hP hD hS (lwh_none i hl)) k
theorem L_fork1 (pj : Nat) (E : Int) (P : List PO → Prop) {u1 : PW} {st1 : List PW} (e : st = u1 :: st1) (b : ∀ h2, P h2 → GL Ω R F Z cc nL h2 pj lv (w_ E :: st1)) (a : (∀ h2 z, P h2 → z = E → GL Ω R F Z cc nL h2 pj lv (w_ z :: st1)) → GL Ω R F Z cc nL h pc lv st) : GL Ω R F Z cc nL h pc lv st := a (fun h2 z q e => e ▸ b h2 q)
theorem L_fork2 (pj : Nat) (E : Int) (P : List PO → Prop) {u1 u2 : PW} {st1 : List PW} (e : st = u1 :: u2 :: st1) (b : ∀ h2, P h2 → GL Ω R F Z cc nL h2 pj lv (w_ E :: st1)) (a : (∀ h2 z, P h2 → z = E → GL Ω R F Z cc nL h2 pj lv (w_ z :: st1)) → GL Ω R F Z cc nL h pc lv st) : GL Ω R F Z cc nL h pc lv st := a (fun h2 z q e => e ▸ b h2 q)
end FK
