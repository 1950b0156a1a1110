/-! the reference: a state is a row of 203 numbers at b -/
def rwF (s : Int → Int) (b : Int) (d si he we c r sa z dr t : Int → Int) (n : Int) (se : Int → Int) (x y f : Int) : Prop := (∀ j : Int, 0 ≤ j → j < 40 → s (b + 7 + j) = d j ∧ s (b + 47 + j) = si j ∧ s (b + 87 + j) = he j ∧ s (b + 127 + j) = we j) ∧ (s b = se 0 ∧ s (b + 1) = se 1 ∧ s (b + 2) = se 2 ∧ s (b + 3) = x ∧ s (b + 4) = y ∧ s (b + 5) = f ∧ s (b + 6) = n) ∧ ∀ w : Int, 0 ≤ w → w < n → s (b + 167 + 6 * w) = c w ∧ s (b + 167 + 6 * w + 1) = r w ∧ s (b + 167 + 6 * w + 2) = sa w ∧ s (b + 167 + 6 * w + 3) = z w ∧ s (b + 167 + 6 * w + 4) = dr w ∧ s (b + 167 + 6 * w + 5) = t w
def rwR (s : Int → Int) (b : Int) (v : SV) : Prop := rwF s b (v 0) (v 1) (v 2) (v 3) (v 4) (v 5) (v 6) (v 7) (v 8) (v 9) (v 11 0) (v 10) (v 11 1) (v 11 2) (v 11 3)
def frR (s s2 : Int → Int) (b : Int) : Prop := ∀ j : Int, j < b ∨ b + 203 ≤ j → s2 j = s j
theorem frR.rf {s : Int → Int} {b : Int} : frR s s b := fun _ _ => rfl
theorem frR.tr {s s1 s2 : Int → Int} {b : Int} (h : frR s s1 b) (k : frR s1 s2 b) : frR s s2 b := fun j q => (k j q).trans (h j q)
theorem frR.put {s s1 : Int → Int} {b x q : Int} (h : frR s s1 b) (h0 : b ≤ x) (h1 : x < b + 203) : frR s (fup s1 x q) b := fun j z => by
  rw [fup_ne (by omega)]
  exact h j z
theorem rwF.fr {s s2 : Int → Int} {b b2 : Int} {d si he we c r sa z dr t : Int → Int} {n : Int} {se : Int → Int} {x y f : Int} (h : rwF s b d si he we c r sa z dr t n se x y f) (k : frR s s2 b2) (q : b + 203 ≤ b2 ∨ b2 + 203 ≤ b) (hn : n ≤ 6) : rwF s2 b d si he we c r sa z dr t n se x y f := by
  obtain ⟨a, e, g⟩ := h
  refine ⟨fun j j0 j1 => ?_, ?_, fun w w0 w1 => ?_⟩
  · obtain ⟨a0, a1, a2, a3⟩ := a j j0 j1
    exact ⟨(k _ (by omega)).trans a0, (k _ (by omega)).trans a1, (k _ (by omega)).trans a2, (k _ (by omega)).trans a3⟩
  · obtain ⟨e0, e1, e2, e3, e4, e5, e6⟩ := e
    exact ⟨(k _ (by omega)).trans e0, (k _ (by omega)).trans e1, (k _ (by omega)).trans e2, (k _ (by omega)).trans e3, (k _ (by omega)).trans e4, (k _ (by omega)).trans e5, (k _ (by omega)).trans e6⟩
  · obtain ⟨g0, g1, g2, g3, g4, g5⟩ := g w w0 w1
    exact ⟨(k _ (by omega)).trans g0, (k _ (by omega)).trans g1, (k _ (by omega)).trans g2, (k _ (by omega)).trans g3, (k _ (by omega)).trans g4, (k _ (by omega)).trans g5⟩
theorem rwF.ext {s : Int → Int} {b : Int} {d si he we c r sa z dr t : Int → Int} {n : Int} {se : Int → Int} {x y f : Int} {d' si' he' we' c' r' sa' z' dr' t' : Int → Int} {n' : Int} {se' : Int → Int} {x' y' f' : Int} (h : rwF s b d si he we c r sa z dr t n se x y f)
    (hj : ∀ j : Int, 0 ≤ j → j < 40 → d j = d' j ∧ si j = si' j ∧ he j = he' j ∧ we j = we' j) (hs : se 0 = se' 0 ∧ se 1 = se' 1 ∧ se 2 = se' 2 ∧ x = x' ∧ y = y' ∧ f = f' ∧ n = n')
    (hw : ∀ w : Int, 0 ≤ w → w < n → c w = c' w ∧ r w = r' w ∧ sa w = sa' w ∧ z w = z' w ∧ dr w = dr' w ∧ t w = t' w) : rwF s b d' si' he' we' c' r' sa' z' dr' t' n' se' x' y' f' := by
  obtain ⟨a, e, g⟩ := h
  refine ⟨fun j j0 j1 => ?_, ?_, fun w w0 w1 => ?_⟩
  · obtain ⟨a0, a1, a2, a3⟩ := a j j0 j1
    obtain ⟨b0, b1, b2, b3⟩ := hj j j0 j1
    exact ⟨a0.trans b0, a1.trans b1, a2.trans b2, a3.trans b3⟩
  · obtain ⟨e0, e1, e2, e3, e4, e5, e6⟩ := e
    obtain ⟨b0, b1, b2, b3, b4, b5, b6⟩ := hs
    exact ⟨e0.trans b0, e1.trans b1, e2.trans b2, e3.trans b3, e4.trans b4, e5.trans b5, e6.trans b6⟩
  · have w1' : w < n := by have := hs.2.2.2.2.2.2; omega
    obtain ⟨g0, g1, g2, g3, g4, g5⟩ := g w w0 w1'
    obtain ⟨b0, b1, b2, b3, b4, b5⟩ := hw w w0 w1'
    exact ⟨g0.trans b0, g1.trans b1, g2.trans b2, g3.trans b3, g4.trans b4, g5.trans b5⟩
theorem rwF.dep {s : Int → Int} {b : Int} {d si he we c r sa z dr t : Int → Int} {n : Int} {se : Int → Int} {x y f : Int} (h : rwF s b d si he we c r sa z dr t n se x y f) (hn : n ≤ 6) {i : Int} (q : Int) (i0 : 0 ≤ i) (i1 : i < 40) : rwF (fup s (b + 7 + i) q) b (fup d i q) si he we c r sa z dr t n se x y f := by
  obtain ⟨a, e, g⟩ := h
  refine ⟨fun j j0 j1 => ?_, ?_, fun w w0 w1 => ?_⟩
  · obtain ⟨a0, a1, a2, a3⟩ := a j j0 j1
    have key : fup s (b + 7 + i) q (b + 7 + j) = fup d i q j := by
      by_cases p : j = i
      · rw [p, fup_eq, fup_eq]
      · rw [fup_ne (by omega), fup_ne p]; exact a0
    exact ⟨key, (fup_ne (by omega)).trans a1, (fup_ne (by omega)).trans a2, (fup_ne (by omega)).trans a3⟩
  · obtain ⟨e0, e1, e2, e3, e4, e5, e6⟩ := e
    exact ⟨(fup_ne (by omega)).trans e0, (fup_ne (by omega)).trans e1, (fup_ne (by omega)).trans e2, (fup_ne (by omega)).trans e3, (fup_ne (by omega)).trans e4, (fup_ne (by omega)).trans e5, (fup_ne (by omega)).trans e6⟩
  · obtain ⟨g0, g1, g2, g3, g4, g5⟩ := g w w0 w1
    exact ⟨(fup_ne (by omega)).trans g0, (fup_ne (by omega)).trans g1, (fup_ne (by omega)).trans g2, (fup_ne (by omega)).trans g3, (fup_ne (by omega)).trans g4, (fup_ne (by omega)).trans g5⟩
theorem rwF.sil {s : Int → Int} {b : Int} {d si he we c r sa z dr t : Int → Int} {n : Int} {se : Int → Int} {x y f : Int} (h : rwF s b d si he we c r sa z dr t n se x y f) (hn : n ≤ 6) {i : Int} (q : Int) (i0 : 0 ≤ i) (i1 : i < 40) : rwF (fup s (b + 47 + i) q) b d (fup si i q) he we c r sa z dr t n se x y f := by
  obtain ⟨a, e, g⟩ := h
  refine ⟨fun j j0 j1 => ?_, ?_, fun w w0 w1 => ?_⟩
  · obtain ⟨a0, a1, a2, a3⟩ := a j j0 j1
    have key : fup s (b + 47 + i) q (b + 47 + j) = fup si i q j := by
      by_cases p : j = i
      · rw [p, fup_eq, fup_eq]
      · rw [fup_ne (by omega), fup_ne p]; exact a1
    exact ⟨(fup_ne (by omega)).trans a0, key, (fup_ne (by omega)).trans a2, (fup_ne (by omega)).trans a3⟩
  · obtain ⟨e0, e1, e2, e3, e4, e5, e6⟩ := e
    exact ⟨(fup_ne (by omega)).trans e0, (fup_ne (by omega)).trans e1, (fup_ne (by omega)).trans e2, (fup_ne (by omega)).trans e3, (fup_ne (by omega)).trans e4, (fup_ne (by omega)).trans e5, (fup_ne (by omega)).trans e6⟩
  · obtain ⟨g0, g1, g2, g3, g4, g5⟩ := g w w0 w1
    exact ⟨(fup_ne (by omega)).trans g0, (fup_ne (by omega)).trans g1, (fup_ne (by omega)).trans g2, (fup_ne (by omega)).trans g3, (fup_ne (by omega)).trans g4, (fup_ne (by omega)).trans g5⟩
theorem rwF.hei {s : Int → Int} {b : Int} {d si he we c r sa z dr t : Int → Int} {n : Int} {se : Int → Int} {x y f : Int} (h : rwF s b d si he we c r sa z dr t n se x y f) (hn : n ≤ 6) {i : Int} (q : Int) (i0 : 0 ≤ i) (i1 : i < 40) : rwF (fup s (b + 87 + i) q) b d si (fup he i q) we c r sa z dr t n se x y f := by
  obtain ⟨a, e, g⟩ := h
  refine ⟨fun j j0 j1 => ?_, ?_, fun w w0 w1 => ?_⟩
  · obtain ⟨a0, a1, a2, a3⟩ := a j j0 j1
    have key : fup s (b + 87 + i) q (b + 87 + j) = fup he i q j := by
      by_cases p : j = i
      · rw [p, fup_eq, fup_eq]
      · rw [fup_ne (by omega), fup_ne p]; exact a2
    exact ⟨(fup_ne (by omega)).trans a0, (fup_ne (by omega)).trans a1, key, (fup_ne (by omega)).trans a3⟩
  · obtain ⟨e0, e1, e2, e3, e4, e5, e6⟩ := e
    exact ⟨(fup_ne (by omega)).trans e0, (fup_ne (by omega)).trans e1, (fup_ne (by omega)).trans e2, (fup_ne (by omega)).trans e3, (fup_ne (by omega)).trans e4, (fup_ne (by omega)).trans e5, (fup_ne (by omega)).trans e6⟩
  · obtain ⟨g0, g1, g2, g3, g4, g5⟩ := g w w0 w1
    exact ⟨(fup_ne (by omega)).trans g0, (fup_ne (by omega)).trans g1, (fup_ne (by omega)).trans g2, (fup_ne (by omega)).trans g3, (fup_ne (by omega)).trans g4, (fup_ne (by omega)).trans g5⟩
theorem rwF.wet {s : Int → Int} {b : Int} {d si he we c r sa z dr t : Int → Int} {n : Int} {se : Int → Int} {x y f : Int} (h : rwF s b d si he we c r sa z dr t n se x y f) (hn : n ≤ 6) {i : Int} (q : Int) (i0 : 0 ≤ i) (i1 : i < 40) : rwF (fup s (b + 127 + i) q) b d si he (fup we i q) c r sa z dr t n se x y f := by
  obtain ⟨a, e, g⟩ := h
  refine ⟨fun j j0 j1 => ?_, ?_, fun w w0 w1 => ?_⟩
  · obtain ⟨a0, a1, a2, a3⟩ := a j j0 j1
    have key : fup s (b + 127 + i) q (b + 127 + j) = fup we i q j := by
      by_cases p : j = i
      · rw [p, fup_eq, fup_eq]
      · rw [fup_ne (by omega), fup_ne p]; exact a3
    exact ⟨(fup_ne (by omega)).trans a0, (fup_ne (by omega)).trans a1, (fup_ne (by omega)).trans a2, key⟩
  · obtain ⟨e0, e1, e2, e3, e4, e5, e6⟩ := e
    exact ⟨(fup_ne (by omega)).trans e0, (fup_ne (by omega)).trans e1, (fup_ne (by omega)).trans e2, (fup_ne (by omega)).trans e3, (fup_ne (by omega)).trans e4, (fup_ne (by omega)).trans e5, (fup_ne (by omega)).trans e6⟩
  · obtain ⟨g0, g1, g2, g3, g4, g5⟩ := g w w0 w1
    exact ⟨(fup_ne (by omega)).trans g0, (fup_ne (by omega)).trans g1, (fup_ne (by omega)).trans g2, (fup_ne (by omega)).trans g3, (fup_ne (by omega)).trans g4, (fup_ne (by omega)).trans g5⟩
theorem rwF.flow {s : Int → Int} {b : Int} {d si he we c r sa z dr t : Int → Int} {n : Int} {se : Int → Int} {x y f : Int} (h : rwF s b d si he we c r sa z dr t n se x y f) (hn : n ≤ 6) (q : Int) : rwF (fup s (b + 3) q) b d si he we c r sa z dr t n se q y f := by
  obtain ⟨a, e, g⟩ := h
  refine ⟨fun j j0 j1 => ?_, ?_, fun w w0 w1 => ?_⟩
  · obtain ⟨a0, a1, a2, a3⟩ := a j j0 j1
    exact ⟨(fup_ne (by omega)).trans a0, (fup_ne (by omega)).trans a1, (fup_ne (by omega)).trans a2, (fup_ne (by omega)).trans a3⟩
  · obtain ⟨e0, e1, e2, e3, e4, e5, e6⟩ := e
    exact ⟨(fup_ne (by omega)).trans e0, (fup_ne (by omega)).trans e1, (fup_ne (by omega)).trans e2, fup_eq, (fup_ne (by omega)).trans e4, (fup_ne (by omega)).trans e5, (fup_ne (by omega)).trans e6⟩
  · obtain ⟨g0, g1, g2, g3, g4, g5⟩ := g w w0 w1
    exact ⟨(fup_ne (by omega)).trans g0, (fup_ne (by omega)).trans g1, (fup_ne (by omega)).trans g2, (fup_ne (by omega)).trans g3, (fup_ne (by omega)).trans g4, (fup_ne (by omega)).trans g5⟩
theorem rwF.tid {s : Int → Int} {b : Int} {d si he we c r sa z dr t : Int → Int} {n : Int} {se : Int → Int} {x y f : Int} (h : rwF s b d si he we c r sa z dr t n se x y f) (hn : n ≤ 6) (q : Int) : rwF (fup s (b + 4) q) b d si he we c r sa z dr t n se x q f := by
  obtain ⟨a, e, g⟩ := h
  refine ⟨fun j j0 j1 => ?_, ?_, fun w w0 w1 => ?_⟩
  · obtain ⟨a0, a1, a2, a3⟩ := a j j0 j1
    exact ⟨(fup_ne (by omega)).trans a0, (fup_ne (by omega)).trans a1, (fup_ne (by omega)).trans a2, (fup_ne (by omega)).trans a3⟩
  · obtain ⟨e0, e1, e2, e3, e4, e5, e6⟩ := e
    exact ⟨(fup_ne (by omega)).trans e0, (fup_ne (by omega)).trans e1, (fup_ne (by omega)).trans e2, (fup_ne (by omega)).trans e3, fup_eq, (fup_ne (by omega)).trans e5, (fup_ne (by omega)).trans e6⟩
  · obtain ⟨g0, g1, g2, g3, g4, g5⟩ := g w w0 w1
    exact ⟨(fup_ne (by omega)).trans g0, (fup_ne (by omega)).trans g1, (fup_ne (by omega)).trans g2, (fup_ne (by omega)).trans g3, (fup_ne (by omega)).trans g4, (fup_ne (by omega)).trans g5⟩
theorem rwF.far {s : Int → Int} {b : Int} {d si he we c r sa z dr t : Int → Int} {n : Int} {se : Int → Int} {x y f : Int} (h : rwF s b d si he we c r sa z dr t n se x y f) (hn : n ≤ 6) (q : Int) : rwF (fup s (b + 5) q) b d si he we c r sa z dr t n se x y q := by
  obtain ⟨a, e, g⟩ := h
  refine ⟨fun j j0 j1 => ?_, ?_, fun w w0 w1 => ?_⟩
  · obtain ⟨a0, a1, a2, a3⟩ := a j j0 j1
    exact ⟨(fup_ne (by omega)).trans a0, (fup_ne (by omega)).trans a1, (fup_ne (by omega)).trans a2, (fup_ne (by omega)).trans a3⟩
  · obtain ⟨e0, e1, e2, e3, e4, e5, e6⟩ := e
    exact ⟨(fup_ne (by omega)).trans e0, (fup_ne (by omega)).trans e1, (fup_ne (by omega)).trans e2, (fup_ne (by omega)).trans e3, (fup_ne (by omega)).trans e4, fup_eq, (fup_ne (by omega)).trans e6⟩
  · obtain ⟨g0, g1, g2, g3, g4, g5⟩ := g w w0 w1
    exact ⟨(fup_ne (by omega)).trans g0, (fup_ne (by omega)).trans g1, (fup_ne (by omega)).trans g2, (fup_ne (by omega)).trans g3, (fup_ne (by omega)).trans g4, (fup_ne (by omega)).trans g5⟩
theorem rwF.sett {s : Int → Int} {b : Int} {d si he we c r sa z dr t : Int → Int} {n : Int} {se : Int → Int} {x y f : Int} (h : rwF s b d si he we c r sa z dr t n se x y f) (hn : n ≤ 6) {i : Int} (q : Int) (i0 : 0 ≤ i) (i1 : i < 3) : rwF (fup s (b + i) q) b d si he we c r sa z dr t n (fup se i q) x y f := by
  obtain ⟨a, e, g⟩ := h
  refine ⟨fun j j0 j1 => ?_, ?_, fun w w0 w1 => ?_⟩
  · obtain ⟨a0, a1, a2, a3⟩ := a j j0 j1
    exact ⟨(fup_ne (by omega)).trans a0, (fup_ne (by omega)).trans a1, (fup_ne (by omega)).trans a2, (fup_ne (by omega)).trans a3⟩
  · obtain ⟨e0, e1, e2, e3, e4, e5, e6⟩ := e
    rcases (show i = 0 ∨ i = 1 ∨ i = 2 from by omega) with p | p | p
    · subst p
      exact ⟨by rw [Int.add_zero, fup_eq, fup_eq], by rw [fup_ne (by omega), fup_ne (by omega)]; exact e1, by rw [fup_ne (by omega), fup_ne (by omega)]; exact e2, (fup_ne (by omega)).trans e3, (fup_ne (by omega)).trans e4, (fup_ne (by omega)).trans e5, (fup_ne (by omega)).trans e6⟩
    · subst p
      exact ⟨by rw [fup_ne (by omega), fup_ne (by omega)]; exact e0, by rw [fup_eq, fup_eq], by rw [fup_ne (by omega), fup_ne (by omega)]; exact e2, (fup_ne (by omega)).trans e3, (fup_ne (by omega)).trans e4, (fup_ne (by omega)).trans e5, (fup_ne (by omega)).trans e6⟩
    · subst p
      exact ⟨by rw [fup_ne (by omega), fup_ne (by omega)]; exact e0, by rw [fup_ne (by omega), fup_ne (by omega)]; exact e1, by rw [fup_eq, fup_eq], (fup_ne (by omega)).trans e3, (fup_ne (by omega)).trans e4, (fup_ne (by omega)).trans e5, (fup_ne (by omega)).trans e6⟩
  · obtain ⟨g0, g1, g2, g3, g4, g5⟩ := g w w0 w1
    exact ⟨(fup_ne (by omega)).trans g0, (fup_ne (by omega)).trans g1, (fup_ne (by omega)).trans g2, (fup_ne (by omega)).trans g3, (fup_ne (by omega)).trans g4, (fup_ne (by omega)).trans g5⟩
theorem rwF.wce {s : Int → Int} {b : Int} {d si he we c r sa z dr t : Int → Int} {n : Int} {se : Int → Int} {x y f : Int} (h : rwF s b d si he we c r sa z dr t n se x y f) {i : Int} (q : Int) (i0 : 0 ≤ i) : rwF (fup s (b + 167 + 6 * i) q) b d si he we (fup c i q) r sa z dr t n se x y f := by
  obtain ⟨a, e, g⟩ := h
  refine ⟨fun j j0 j1 => ?_, ?_, fun w w0 w1 => ?_⟩
  · obtain ⟨a0, a1, a2, a3⟩ := a j j0 j1
    exact ⟨(fup_ne (by omega)).trans a0, (fup_ne (by omega)).trans a1, (fup_ne (by omega)).trans a2, (fup_ne (by omega)).trans a3⟩
  · obtain ⟨e0, e1, e2, e3, e4, e5, e6⟩ := e
    exact ⟨(fup_ne (by omega)).trans e0, (fup_ne (by omega)).trans e1, (fup_ne (by omega)).trans e2, (fup_ne (by omega)).trans e3, (fup_ne (by omega)).trans e4, (fup_ne (by omega)).trans e5, (fup_ne (by omega)).trans e6⟩
  · obtain ⟨g0, g1, g2, g3, g4, g5⟩ := g w w0 w1
    have key : fup s (b + 167 + 6 * i) q (b + 167 + 6 * w) = fup c i q w := by
      by_cases p : w = i
      · rw [p, fup_eq, fup_eq]
      · rw [fup_ne (by omega), fup_ne p]; exact g0
    exact ⟨key, (fup_ne (by omega)).trans g1, (fup_ne (by omega)).trans g2, (fup_ne (by omega)).trans g3, (fup_ne (by omega)).trans g4, (fup_ne (by omega)).trans g5⟩
theorem rwF.wra {s : Int → Int} {b : Int} {d si he we c r sa z dr t : Int → Int} {n : Int} {se : Int → Int} {x y f : Int} (h : rwF s b d si he we c r sa z dr t n se x y f) {i : Int} (q : Int) (i0 : 0 ≤ i) : rwF (fup s (b + 167 + 6 * i + 1) q) b d si he we c (fup r i q) sa z dr t n se x y f := by
  obtain ⟨a, e, g⟩ := h
  refine ⟨fun j j0 j1 => ?_, ?_, fun w w0 w1 => ?_⟩
  · obtain ⟨a0, a1, a2, a3⟩ := a j j0 j1
    exact ⟨(fup_ne (by omega)).trans a0, (fup_ne (by omega)).trans a1, (fup_ne (by omega)).trans a2, (fup_ne (by omega)).trans a3⟩
  · obtain ⟨e0, e1, e2, e3, e4, e5, e6⟩ := e
    exact ⟨(fup_ne (by omega)).trans e0, (fup_ne (by omega)).trans e1, (fup_ne (by omega)).trans e2, (fup_ne (by omega)).trans e3, (fup_ne (by omega)).trans e4, (fup_ne (by omega)).trans e5, (fup_ne (by omega)).trans e6⟩
  · obtain ⟨g0, g1, g2, g3, g4, g5⟩ := g w w0 w1
    have key : fup s (b + 167 + 6 * i + 1) q (b + 167 + 6 * w + 1) = fup r i q w := by
      by_cases p : w = i
      · rw [p, fup_eq, fup_eq]
      · rw [fup_ne (by omega), fup_ne p]; exact g1
    exact ⟨(fup_ne (by omega)).trans g0, key, (fup_ne (by omega)).trans g2, (fup_ne (by omega)).trans g3, (fup_ne (by omega)).trans g4, (fup_ne (by omega)).trans g5⟩
theorem rwF.wsa {s : Int → Int} {b : Int} {d si he we c r sa z dr t : Int → Int} {n : Int} {se : Int → Int} {x y f : Int} (h : rwF s b d si he we c r sa z dr t n se x y f) {i : Int} (q : Int) (i0 : 0 ≤ i) : rwF (fup s (b + 167 + 6 * i + 2) q) b d si he we c r (fup sa i q) z dr t n se x y f := by
  obtain ⟨a, e, g⟩ := h
  refine ⟨fun j j0 j1 => ?_, ?_, fun w w0 w1 => ?_⟩
  · obtain ⟨a0, a1, a2, a3⟩ := a j j0 j1
    exact ⟨(fup_ne (by omega)).trans a0, (fup_ne (by omega)).trans a1, (fup_ne (by omega)).trans a2, (fup_ne (by omega)).trans a3⟩
  · obtain ⟨e0, e1, e2, e3, e4, e5, e6⟩ := e
    exact ⟨(fup_ne (by omega)).trans e0, (fup_ne (by omega)).trans e1, (fup_ne (by omega)).trans e2, (fup_ne (by omega)).trans e3, (fup_ne (by omega)).trans e4, (fup_ne (by omega)).trans e5, (fup_ne (by omega)).trans e6⟩
  · obtain ⟨g0, g1, g2, g3, g4, g5⟩ := g w w0 w1
    have key : fup s (b + 167 + 6 * i + 2) q (b + 167 + 6 * w + 2) = fup sa i q w := by
      by_cases p : w = i
      · rw [p, fup_eq, fup_eq]
      · rw [fup_ne (by omega), fup_ne p]; exact g2
    exact ⟨(fup_ne (by omega)).trans g0, (fup_ne (by omega)).trans g1, key, (fup_ne (by omega)).trans g3, (fup_ne (by omega)).trans g4, (fup_ne (by omega)).trans g5⟩
theorem rwF.wre {s : Int → Int} {b : Int} {d si he we c r sa z dr t : Int → Int} {n : Int} {se : Int → Int} {x y f : Int} (h : rwF s b d si he we c r sa z dr t n se x y f) {i : Int} (q : Int) (i0 : 0 ≤ i) : rwF (fup s (b + 167 + 6 * i + 3) q) b d si he we c r sa (fup z i q) dr t n se x y f := by
  obtain ⟨a, e, g⟩ := h
  refine ⟨fun j j0 j1 => ?_, ?_, fun w w0 w1 => ?_⟩
  · obtain ⟨a0, a1, a2, a3⟩ := a j j0 j1
    exact ⟨(fup_ne (by omega)).trans a0, (fup_ne (by omega)).trans a1, (fup_ne (by omega)).trans a2, (fup_ne (by omega)).trans a3⟩
  · obtain ⟨e0, e1, e2, e3, e4, e5, e6⟩ := e
    exact ⟨(fup_ne (by omega)).trans e0, (fup_ne (by omega)).trans e1, (fup_ne (by omega)).trans e2, (fup_ne (by omega)).trans e3, (fup_ne (by omega)).trans e4, (fup_ne (by omega)).trans e5, (fup_ne (by omega)).trans e6⟩
  · obtain ⟨g0, g1, g2, g3, g4, g5⟩ := g w w0 w1
    have key : fup s (b + 167 + 6 * i + 3) q (b + 167 + 6 * w + 3) = fup z i q w := by
      by_cases p : w = i
      · rw [p, fup_eq, fup_eq]
      · rw [fup_ne (by omega), fup_ne p]; exact g3
    exact ⟨(fup_ne (by omega)).trans g0, (fup_ne (by omega)).trans g1, (fup_ne (by omega)).trans g2, key, (fup_ne (by omega)).trans g4, (fup_ne (by omega)).trans g5⟩
theorem rwF.wdr {s : Int → Int} {b : Int} {d si he we c r sa z dr t : Int → Int} {n : Int} {se : Int → Int} {x y f : Int} (h : rwF s b d si he we c r sa z dr t n se x y f) {i : Int} (q : Int) (i0 : 0 ≤ i) : rwF (fup s (b + 167 + 6 * i + 4) q) b d si he we c r sa z (fup dr i q) t n se x y f := by
  obtain ⟨a, e, g⟩ := h
  refine ⟨fun j j0 j1 => ?_, ?_, fun w w0 w1 => ?_⟩
  · obtain ⟨a0, a1, a2, a3⟩ := a j j0 j1
    exact ⟨(fup_ne (by omega)).trans a0, (fup_ne (by omega)).trans a1, (fup_ne (by omega)).trans a2, (fup_ne (by omega)).trans a3⟩
  · obtain ⟨e0, e1, e2, e3, e4, e5, e6⟩ := e
    exact ⟨(fup_ne (by omega)).trans e0, (fup_ne (by omega)).trans e1, (fup_ne (by omega)).trans e2, (fup_ne (by omega)).trans e3, (fup_ne (by omega)).trans e4, (fup_ne (by omega)).trans e5, (fup_ne (by omega)).trans e6⟩
  · obtain ⟨g0, g1, g2, g3, g4, g5⟩ := g w w0 w1
    have key : fup s (b + 167 + 6 * i + 4) q (b + 167 + 6 * w + 4) = fup dr i q w := by
      by_cases p : w = i
      · rw [p, fup_eq, fup_eq]
      · rw [fup_ne (by omega), fup_ne p]; exact g4
    exact ⟨(fup_ne (by omega)).trans g0, (fup_ne (by omega)).trans g1, (fup_ne (by omega)).trans g2, (fup_ne (by omega)).trans g3, key, (fup_ne (by omega)).trans g5⟩
theorem rwF.wtu {s : Int → Int} {b : Int} {d si he we c r sa z dr t : Int → Int} {n : Int} {se : Int → Int} {x y f : Int} (h : rwF s b d si he we c r sa z dr t n se x y f) {i : Int} (q : Int) (i0 : 0 ≤ i) : rwF (fup s (b + 167 + 6 * i + 5) q) b d si he we c r sa z dr (fup t i q) n se x y f := by
  obtain ⟨a, e, g⟩ := h
  refine ⟨fun j j0 j1 => ?_, ?_, fun w w0 w1 => ?_⟩
  · obtain ⟨a0, a1, a2, a3⟩ := a j j0 j1
    exact ⟨(fup_ne (by omega)).trans a0, (fup_ne (by omega)).trans a1, (fup_ne (by omega)).trans a2, (fup_ne (by omega)).trans a3⟩
  · obtain ⟨e0, e1, e2, e3, e4, e5, e6⟩ := e
    exact ⟨(fup_ne (by omega)).trans e0, (fup_ne (by omega)).trans e1, (fup_ne (by omega)).trans e2, (fup_ne (by omega)).trans e3, (fup_ne (by omega)).trans e4, (fup_ne (by omega)).trans e5, (fup_ne (by omega)).trans e6⟩
  · obtain ⟨g0, g1, g2, g3, g4, g5⟩ := g w w0 w1
    have key : fup s (b + 167 + 6 * i + 5) q (b + 167 + 6 * w + 5) = fup t i q w := by
      by_cases p : w = i
      · rw [p, fup_eq, fup_eq]
      · rw [fup_ne (by omega), fup_ne p]; exact g5
    exact ⟨(fup_ne (by omega)).trans g0, (fup_ne (by omega)).trans g1, (fup_ne (by omega)).trans g2, (fup_ne (by omega)).trans g3, (fup_ne (by omega)).trans g4, key⟩
/-- rows are copied -/
def cpN (s : Int → Int) (a b i : Int) : Int → Int := fun j => if 203 * b ≤ j ∧ j < 203 * b + i then s (j - 203 * b + 203 * a) else s j
def cpR (s : Int → Int) (a b : Int) : Int → Int := cpN s a b 203
theorem cpN_0 (s : Int → Int) (a b : Int) : cpN s a b 0 = s := by
  funext j
  unfold cpN
  rw [if_neg (by omega)]
theorem cpN_s {s : Int → Int} {a b i : Int} (h0 : 0 ≤ i) (h1 : i < 203) (hab : a ≠ b) : fup (cpN s a b i) (203 * b + i) (cpN s a b i (203 * a + i)) = cpN s a b (i + 1) := by
  funext j
  unfold fup cpN
  by_cases e : j = 203 * b + i
  · rw [if_pos e, if_neg (by omega), if_pos (by omega), e]
    congr 1; omega
  · rw [if_neg e]
    by_cases z : 203 * b ≤ j ∧ j < 203 * b + i
    · rw [if_pos z, if_pos (by omega)]
    · rw [if_neg z, if_neg (by omega)]
theorem cpR_fr {s : Int → Int} {a b : Int} : frR s (cpR s a b) (203 * b) := fun j q => by
  unfold cpR cpN
  rw [if_neg (by omega)]
theorem cpR_in {s : Int → Int} {a b k : Int} (h0 : 0 ≤ k) (h1 : k < 203) : cpR s a b (203 * b + k) = s (203 * a + k) := by
  unfold cpR cpN
  rw [if_pos (by omega)]
  congr 1; omega
theorem cpR_rw {s : Int → Int} {a b : Int} {d si he we c r sa z dr t : Int → Int} {n : Int} {se : Int → Int} {x y f : Int} (h : rwF s (203 * a) d si he we c r sa z dr t n se x y f) (hn : n ≤ 6) : rwF (cpR s a b) (203 * b) d si he we c r sa z dr t n se x y f := by
  have key : ∀ k : Int, 0 ≤ k → k < 203 → cpR s a b (203 * b + k) = s (203 * a + k) := fun k k0 k1 => cpR_in k0 k1
  obtain ⟨p, e, g⟩ := h
  refine ⟨fun j j0 j1 => ?_, ?_, fun w w0 w1 => ?_⟩
  · obtain ⟨a0, a1, a2, a3⟩ := p j j0 j1
    refine ⟨?_, ?_, ?_, ?_⟩
    · rw [Int.add_assoc, key _ (by omega) (by omega), ← Int.add_assoc]; exact a0
    · rw [Int.add_assoc, key _ (by omega) (by omega), ← Int.add_assoc]; exact a1
    · rw [Int.add_assoc, key _ (by omega) (by omega), ← Int.add_assoc]; exact a2
    · rw [Int.add_assoc, key _ (by omega) (by omega), ← Int.add_assoc]; exact a3
  · obtain ⟨e0, e1, e2, e3, e4, e5, e6⟩ := e
    refine ⟨?_, (key 1 (by omega) (by omega)).trans e1, (key 2 (by omega) (by omega)).trans e2, (key 3 (by omega) (by omega)).trans e3, (key 4 (by omega) (by omega)).trans e4, (key 5 (by omega) (by omega)).trans e5, (key 6 (by omega) (by omega)).trans e6⟩
    have k0 := key 0 (by omega) (by omega)
    rw [Int.add_zero, Int.add_zero] at k0
    exact k0.trans e0
  · obtain ⟨g0, g1, g2, g3, g4, g5⟩ := g w w0 w1
    have ky : ∀ k : Int, 0 ≤ k → k < 6 → cpR s a b (203 * b + 167 + 6 * w + k) = s (203 * a + 167 + 6 * w + k) := fun k k0 k1 => by
      have q := key (167 + 6 * w + k) (by omega) (by omega)
      rw [show 203 * b + 167 + 6 * w + k = 203 * b + (167 + 6 * w + k) from by omega, show 203 * a + 167 + 6 * w + k = 203 * a + (167 + 6 * w + k) from by omega]
      exact q
    have k0 := ky 0 (by omega) (by omega)
    rw [Int.add_zero, Int.add_zero] at k0
    exact ⟨k0.trans g0, (ky 1 (by omega) (by omega)).trans g1, (ky 2 (by omega) (by omega)).trans g2, (ky 3 (by omega) (by omega)).trans g3, (ky 4 (by omega) (by omega)).trans g4, (ky 5 (by omega) (by omega)).trans g5⟩
theorem rwF.zero {s : Int → Int} {d si he we c r sa z dr t : Int → Int} {n : Int} {se : Int → Int} {x y f : Int} (h : rwF s 0 d si he we c r sa z dr t n se x y f) : (∀ j : Int, 0 ≤ j → j < 40 → s (7 + j) = d j ∧ s (47 + j) = si j ∧ s (87 + j) = he j ∧ s (127 + j) = we j) ∧ (s 0 = se 0 ∧ s 1 = se 1 ∧ s 2 = se 2 ∧ s 3 = x ∧ s 4 = y ∧ s 5 = f ∧ s 6 = n) ∧ ∀ w : Int, 0 ≤ w → w < n → s (0 + 167 + 6 * w) = c w ∧ s (0 + 167 + 6 * w + 1) = r w ∧ s (0 + 167 + 6 * w + 2) = sa w ∧ s (0 + 167 + 6 * w + 3) = z w ∧ s (0 + 167 + 6 * w + 4) = dr w ∧ s (0 + 167 + 6 * w + 5) = t w := by
  obtain ⟨a, e, g⟩ := h
  refine ⟨fun j j0 j1 => ?_, e, g⟩
  have k := a j j0 j1
  rw [show (0 : Int) + 7 = 7 from rfl, show (0 : Int) + 47 = 47 from rfl, show (0 : Int) + 87 = 87 from rfl, show (0 : Int) + 127 = 127 from rfl] at k
  exact k
def parN (F g : Int → Int) (i : Int) : Int → Int := fun j => if 0 ≤ j ∧ j < i then F j else g j
theorem parN_0 (F g : Int → Int) : parN F g 0 = g := by
  funext j
  unfold parN
  rw [if_neg (by omega)]
theorem parN_s {F g : Int → Int} {i : Int} (h : 0 ≤ i) : fup (parN F g i) i (F i) = parN F g (i + 1) := by
  funext j
  unfold fup parN
  by_cases e : j = i
  · rw [if_pos e, if_pos (by omega), e]
  · rw [if_neg e]
    by_cases q : 0 ≤ j ∧ j < i
    · rw [if_pos q, if_pos (by omega)]
    · rw [if_neg q, if_neg (by omega)]
theorem parN_lt {F g : Int → Int} {i j : Int} (h0 : 0 ≤ j) (h1 : j < i) : parN F g i j = F j := if_pos ⟨h0, h1⟩
theorem parN_ge {F g : Int → Int} {i j : Int} (h : i ≤ j) : parN F g i j = g j := if_neg (by omega)
/-! the reference's object -/
abbrev oMod (m : Nat) (st kp ty sn se fi ca sp le on tw : Int) : PO := oO 6 [r_ (m + 1), i_ st, i_ kp, r_ (m + 2), i_ ty, i_ sn, i_ se, r_ (m + 3), i_ fi, i_ ca, r_ (m + 4), i_ sp, i_ le, i_ on, i_ tw]
def moAt (h : List PO) (m : Nat) (s tx mk co : Int → Int) (st kp ty sn se fi ca sp le on tw : Int) : Prop := h[m]? = some (oMod m st kp ty sn se fi ca sp le on tw) ∧ h[m + 1]? = some (oI 1624 s) ∧ h[m + 2]? = some (oI 60 tx) ∧ h[m + 3]? = some (oI 40 mk) ∧ h[m + 4]? = some (oI 6 co)
section MO
variable {h : List PO} {m : Nat} {s tx mk co : Int → Int} {st kp ty sn se fi ca sp le on tw : Int}
theorem moAt.fr {h2 : List PO} {lo hi : Nat} (a : moAt h m s tx mk co st kp ty sn se fi ca sp le on tw) (f : Fr h h2 lo hi) (q : m + 5 ≤ lo ∨ hi ≤ m) : moAt h2 m s tx mk co st kp ty sn se fi ca sp le on tw := by
  obtain ⟨a0, a1, a2, a3, a4⟩ := a
  exact ⟨f.at' a0 (by omega), f.at' a1 (by omega), f.at' a2 (by omega), f.at' a3 (by omega), f.at' a4 (by omega)⟩
theorem moAt.obj (a : moAt h m s tx mk co st kp ty sn se fi ca sp le on tw) (st' kp' ty' sn' se' fi' ca' sp' le' on' tw' : Int) : moAt (h.set m (oMod m st' kp' ty' sn' se' fi' ca' sp' le' on' tw')) m s tx mk co st' kp' ty' sn' se' fi' ca' sp' le' on' tw' := by
  obtain ⟨a0, a1, a2, a3, a4⟩ := a
  exact ⟨set_at a0, set_off a1 (by omega), set_off a2 (by omega), set_off a3 (by omega), set_off a4 (by omega)⟩
theorem moAt.set1 (a : moAt h m s tx mk co st kp ty sn se fi ca sp le on tw) (q : Int → Int) : moAt (h.set (m + 1) (oI 1624 q)) m q tx mk co st kp ty sn se fi ca sp le on tw := by
  obtain ⟨a0, a1, a2, a3, a4⟩ := a
  exact ⟨set_off a0 (by omega), set_at a1, set_off a2 (by omega), set_off a3 (by omega), set_off a4 (by omega)⟩
theorem moAt.set2 (a : moAt h m s tx mk co st kp ty sn se fi ca sp le on tw) (q : Int → Int) : moAt (h.set (m + 2) (oI 60 q)) m s q mk co st kp ty sn se fi ca sp le on tw := by
  obtain ⟨a0, a1, a2, a3, a4⟩ := a
  exact ⟨set_off a0 (by omega), set_off a1 (by omega), set_at a2, set_off a3 (by omega), set_off a4 (by omega)⟩
theorem moAt.set3 (a : moAt h m s tx mk co st kp ty sn se fi ca sp le on tw) (q : Int → Int) : moAt (h.set (m + 3) (oI 40 q)) m s tx q co st kp ty sn se fi ca sp le on tw := by
  obtain ⟨a0, a1, a2, a3, a4⟩ := a
  exact ⟨set_off a0 (by omega), set_off a1 (by omega), set_off a2 (by omega), set_at a3, set_off a4 (by omega)⟩
theorem moAt.set4 (a : moAt h m s tx mk co st kp ty sn se fi ca sp le on tw) (q : Int → Int) : moAt (h.set (m + 4) (oI 6 q)) m s tx mk q st kp ty sn se fi ca sp le on tw := by
  obtain ⟨a0, a1, a2, a3, a4⟩ := a
  exact ⟨set_off a0 (by omega), set_off a1 (by omega), set_off a2 (by omega), set_off a3 (by omega), set_at a4⟩
end MO
