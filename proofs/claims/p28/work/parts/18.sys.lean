/-! the acts, and what every state keeps -/
def OKt (v : SV) : Prop := OK v ∧ 0 ≤ v 11 2 ∧ v 11 2 ≤ 99999
def digV (v : SV) (c d : Int) : SV := if 0 ≤ digR v c d then vset v 0 (fup (v 0) c d) else v
def buildV (v : SV) (c d : Int) : SV := if 0 ≤ buildR v c d then vset v 1 (fup (v 1) c d) else v
def sinkW (v : SV) (k q : Int) : SV := fun i => match i with
  | 4 => fup (v 4) (v 11 0) k
  | 5 => fup (v 5) (v 11 0) q
  | 6 => fup (v 6) (v 11 0) 0
  | 7 => fup (v 7) (v 11 0) 0
  | 8 => fup (v 8) (v 11 0) 0
  | 9 => fup (v 9) (v 11 0) 0
  | 11 => fup (v 11) 0 (v 11 0 + 1)
  | j => v j
def sinkV (v : SV) (k q : Int) : SV := if 0 ≤ sinkR (v 4) (v 11 0) k q then sinkW v k q else v
def fillW (v : SV) (w : Int) : SV := fun i => match i with
  | 4 => gapF (v 4) w
  | 5 => gapF (v 5) w
  | 6 => gapF (v 6) w
  | 7 => gapF (v 7) w
  | 8 => gapF (v 8) w
  | 9 => gapF (v 9) w
  | 11 => fup (v 11) 0 (v 11 0 - 1)
  | j => v j
def fillV (v : SV) (w : Int) : SV := if 0 ≤ w ∧ w < v 11 0 then fillW v w else v
def rateV (v : SV) (w q : Int) : SV := if 0 ≤ rateR (v 5) (v 11 0) w q then vset v 5 (fup (v 5) w q) else v
theorem rg_fup {lo hi n : Int} {q : Int → Int} {x y : Int} (h : RG lo hi n q) (a : lo ≤ y) (b : y ≤ hi) : RG lo hi n (fup q x y) := RG.fup h a b
theorem rg_push {lo hi n : Int} {q : Int → Int} {x : Int} (h : RG lo hi n q) (a : lo ≤ x) (b : x ≤ hi) : RG lo hi (n + 1) (fup q n x) := by
  intro j h0 h1
  by_cases e : j = n
  · rw [e, fup_eq]; exact ⟨a, b⟩
  · rw [fup_ne e]; exact h j h0 (by omega)
def giI (w j : Int) : Int := if w ≤ j ∧ j < 5 then j + 1 else j
theorem gapF_gi (q : Int → Int) (w j : Int) : gapF q w j = q (giI w j) := by
  unfold gapF gapN giI
  by_cases e : w ≤ j ∧ j < 5
  · rw [if_pos e, if_pos e]
  · rw [if_neg e, if_neg e]
theorem giI_rng {w j n : Int} (h0 : 0 ≤ w) (j0 : 0 ≤ j) (j1 : j < n - 1) : 0 ≤ giI w j ∧ giI w j < n := by
  unfold giI
  by_cases e : w ≤ j ∧ j < 5
  · rw [if_pos e]; omega
  · rw [if_neg e]; omega
theorem giI_inj {w a b n : Int} (hn : n ≤ 6) (a1 : a < n - 1) (b1 : b < n - 1) (e : giI w a = giI w b) : a = b := by
  unfold giI at e
  by_cases p : w ≤ a ∧ a < 5
  · rw [if_pos p] at e
    by_cases q : w ≤ b ∧ b < 5
    · rw [if_pos q] at e; omega
    · rw [if_neg q] at e; omega
  · rw [if_neg p] at e
    by_cases q : w ≤ b ∧ b < 5
    · rw [if_pos q] at e; omega
    · rw [if_neg q] at e; omega
theorem rg_gap {lo hi n w : Int} {q : Int → Int} (h : RG lo hi n q) (h0 : 0 ≤ w) : RG lo hi (n - 1) (gapF q w) := by
  intro j j0 j1
  rw [gapF_gi]
  have a := giI_rng h0 j0 j1
  exact h _ a.1 a.2
theorem besN_no {q : Int → Int} {c : Int} : ∀ n : Nat, besN q c n = -5 → ∀ j : Int, 0 ≤ j → j < n → q j ≠ c := by
  intro n
  induction n with
  | zero => intro _ j a b; exfalso; omega
  | succ n ih =>
    intro h j a b
    have e : besN q c (n + 1) = if q n = c then (n : Int) else besN q c n := rfl
    rw [e] at h
    by_cases z : q n = c
    · rw [if_pos z] at h; omega
    · rw [if_neg z] at h
      by_cases y : j = n
      · rw [y]; exact z
      · exact ih h j a (by omega)
theorem digR_rng {v : SV} {c d : Int} (h : OK v) : -5 ≤ digR v c d ∧ digR v c d ≤ 60 := by
  unfold digR
  by_cases a : ¬ (0 ≤ c ∧ c < 40)
  · rw [if_pos a]; omega
  · rw [if_neg a]
    have r := h.1.1 c (by omega) (by omega)
    split
    · omega
    · split
      · omega
      · split <;> omega
theorem buildR_rng {v : SV} {c d : Int} (h : OK v) : -5 ≤ buildR v c d ∧ buildR v c d ≤ 60 := by
  unfold buildR
  by_cases a : ¬ (0 ≤ c ∧ c < 40)
  · rw [if_pos a]; omega
  · rw [if_neg a]
    have r := h.1.2.1 c (by omega) (by omega)
    split
    · omega
    · split
      · omega
      · split <;> omega
theorem flowR_rng {v : SV} {q : Int} (h : OK v) : -5 ≤ flowR v q ∧ flowR v q ≤ 99 := by
  have r := h.2.2.1.2.1
  unfold flowR
  split
  · omega
  · split <;> omega
theorem set_rng {v : SV} (h : OK v) {w : Int} (a : 0 ≤ w) (b : w < 3) : 0 ≤ v 10 w ∧ v 10 w ≤ 60 := by
  have r := h.2.1
  rcases (show w = 0 ∨ w = 1 ∨ w = 2 from by omega) with e | e | e <;> rw [e] <;> omega
theorem setR_rng {v : SV} {w q : Int} (h : OK v) : -5 ≤ setR v w q ∧ setR v w q ≤ 60 := by
  unfold setR
  by_cases a : ¬ (0 ≤ w ∧ w < 3)
  · rw [if_pos a]; omega
  · rw [if_neg a]
    have r := set_rng h (w := w) (by omega) (by omega)
    split
    · omega
    · split <;> omega
theorem sinkR_rng {v : SV} {k q : Int} (h : OK v) : -5 ≤ sinkR (v 4) (v 11 0) k q ∧ sinkR (v 4) (v 11 0) k q ≤ 6 := by
  have r := h.2.2.1.1
  unfold sinkR
  split
  · omega
  · split
    · omega
    · split
      · omega
      · split <;> omega
theorem fillR_rng {v : SV} {w : Int} (h : OK v) : -5 ≤ fillR (v 6) (v 11 0) w ∧ fillR (v 6) (v 11 0) w ≤ 300 := by
  unfold fillR
  by_cases a : 0 ≤ w ∧ w < v 11 0
  · rw [if_pos a]
    have r := h.2.2.2.1.2.2.1 w a.1 a.2
    omega
  · rw [if_neg a]; omega
theorem rateR_rng {v : SV} {w q : Int} (h : OK v) : -5 ≤ rateR (v 5) (v 11 0) w q ∧ rateR (v 5) (v 11 0) w q ≤ 30 := by
  unfold rateR
  by_cases a : ¬ (0 ≤ w ∧ w < v 11 0)
  · rw [if_pos a]; omega
  · rw [if_neg a]
    have r := h.2.2.2.1.2.1 w (by omega) (by omega)
    split
    · omega
    · split <;> omega
theorem tidesR_rng {v : SV} {a b : Int} : -5 ≤ tidesR v a b ∧ tidesR v a b ≤ 40 := by
  have r := wet_rng (q := itV a v b.toNat 2) 40
  unfold tidesR
  split
  · omega
  · split <;> omega
theorem OKt.dig {v : SV} {c d : Int} (h : OKt v) : OKt (digV v c d) := by
  unfold digV
  by_cases q : 0 ≤ digR v c d
  · rw [if_pos q]
    have hd : 1 ≤ d ∧ d ≤ 60 := by
      unfold digR at q
      by_cases a : ¬ (0 ≤ c ∧ c < 40)
      · rw [if_pos a] at q; omega
      · rw [if_neg a] at q
        by_cases b : ¬ (1 ≤ d ∧ d ≤ 60)
        · rw [if_pos b] at q; omega
        · omega
    obtain ⟨⟨⟨hrd, hrs, hrh⟩, hset, hn, hw, h49, hdi⟩, hT⟩ := h
    exact ⟨⟨⟨rg_fup hrd hd.1 hd.2, hrs, hrh⟩, hset, hn, hw, h49, hdi⟩, hT⟩
  · rw [if_neg q]; exact h
theorem OKt.build {v : SV} {c d : Int} (h : OKt v) : OKt (buildV v c d) := by
  unfold buildV
  by_cases q : 0 ≤ buildR v c d
  · rw [if_pos q]
    have hd : 0 ≤ d ∧ d ≤ 60 := by
      unfold buildR at q
      by_cases a : ¬ (0 ≤ c ∧ c < 40)
      · rw [if_pos a] at q; omega
      · rw [if_neg a] at q
        by_cases b : ¬ (0 ≤ d ∧ d ≤ 60)
        · rw [if_pos b] at q; omega
        · omega
    obtain ⟨⟨⟨hrd, hrs, hrh⟩, hset, hn, hw, h49, hdi⟩, hT⟩ := h
    exact ⟨⟨⟨hrd, rg_fup hrs hd.1 hd.2, hrh⟩, hset, hn, hw, h49, hdi⟩, hT⟩
  · rw [if_neg q]; exact h
theorem OKt.flow {v : SV} {q : Int} (h : OKt v) : OKt (flowV v q) := by
  unfold flowV
  by_cases z : 0 ≤ flowR v q
  · rw [if_pos z]
    have hd : 0 ≤ q ∧ q ≤ 99 := by
      unfold flowR at z
      by_cases a : ¬ (0 ≤ q ∧ q ≤ 99)
      · rw [if_pos a] at z; omega
      · omega
    obtain ⟨⟨hb, hset, ⟨hn, hf, hfa⟩, hw, h49, hdi⟩, hT⟩ := h
    exact ⟨⟨hb, hset, ⟨hn, hd, hfa⟩, hw, h49, hdi⟩, hT⟩
  · rw [if_neg z]; exact h
theorem OKt.set {v : SV} {w q : Int} (h : OKt v) : OKt (setV v w q) := by
  unfold setV
  by_cases z : 0 ≤ setR v w q
  · rw [if_pos z]
    have hd : (w = 0 ∨ w = 1 ∨ w = 2) ∧ leastF w ≤ q ∧ q ≤ mostF w := by
      unfold setR at z
      by_cases a : ¬ (0 ≤ w ∧ w < 3)
      · rw [if_pos a] at z; omega
      · rw [if_neg a] at z
        by_cases b : q < leastF w ∨ mostF w < q
        · rw [if_pos b] at z; omega
        · omega
    obtain ⟨⟨hb, hset, hn, hw, h49, hdi⟩, hT⟩ := h
    obtain ⟨hd, hl, hm⟩ := hd
    have l0 : leastF 0 = 0 := rfl
    have l1 : leastF 1 = 0 := rfl
    have l2 : leastF 2 = 1 := rfl
    have m0 : mostF 0 = 60 := rfl
    have m1 : mostF 1 = 9 := rfl
    have m2 : mostF 2 = 60 := rfl
    refine ⟨⟨hb, ?_, hn, hw, h49, hdi⟩, hT⟩
    rcases hd with e | e | e
    · subst e
      exact ⟨⟨by show 0 ≤ q; omega, by show q ≤ 60; omega⟩, hset.2⟩
    · subst e
      exact ⟨hset.1, ⟨by show 0 ≤ q; omega, by show q ≤ 9; omega⟩, hset.2.2⟩
    · subst e
      exact ⟨hset.1, hset.2.1, ⟨by show 1 ≤ q; omega, by show q ≤ 60; omega⟩⟩
  · rw [if_neg z]; exact h
theorem OKt.rate {v : SV} {w q : Int} (h : OKt v) : OKt (rateV v w q) := by
  unfold rateV
  by_cases z : 0 ≤ rateR (v 5) (v 11 0) w q
  · rw [if_pos z]
    have hd : 1 ≤ q ∧ q ≤ 30 := by
      unfold rateR at z
      by_cases a : ¬ (0 ≤ w ∧ w < v 11 0)
      · rw [if_pos a] at z; omega
      · rw [if_neg a] at z
        by_cases b : ¬ (1 ≤ q ∧ q ≤ 30)
        · rw [if_pos b] at z; omega
        · omega
    obtain ⟨⟨hb, hset, hn, ⟨hc, hr, hs, hz⟩, h49, hdi⟩, hT⟩ := h
    exact ⟨⟨hb, hset, hn, ⟨hc, rg_fup hr hd.1 hd.2, hs, hz⟩, h49, hdi⟩, hT⟩
  · rw [if_neg z]; exact h
theorem sink_ok {v : SV} {k q : Int} (h : 0 ≤ sinkR (v 4) (v 11 0) k q) (hn : 0 ≤ v 11 0) : (0 ≤ k ∧ k < 40) ∧ (1 ≤ q ∧ q ≤ 30) ∧ v 11 0 < 6 ∧ ∀ j : Int, 0 ≤ j → j < v 11 0 → v 4 j ≠ k := by
  unfold sinkR at h
  by_cases a : ¬ (0 ≤ k ∧ k < 40)
  · rw [if_pos a] at h; omega
  · rw [if_neg a] at h
    by_cases b : ¬ (1 ≤ q ∧ q ≤ 30)
    · rw [if_pos b] at h; omega
    · rw [if_neg b] at h
      by_cases c : besN (v 4) k (v 11 0).toNat ≠ -5
      · rw [if_pos c] at h; omega
      · rw [if_neg c] at h
        by_cases d : 6 ≤ v 11 0
        · rw [if_pos d] at h; omega
        · refine ⟨by omega, by omega, by omega, fun j j0 j1 => ?_⟩
          exact besN_no (v 11 0).toNat (Decidable.not_not.mp c) j j0 (by omega)
theorem OKt.sink {v : SV} {k q : Int} (h : OKt v) : OKt (sinkV v k q) := by
  unfold sinkV
  by_cases z : 0 ≤ sinkR (v 4) (v 11 0) k q
  · rw [if_pos z]
    obtain ⟨⟨hb, hset, ⟨hn, hf, hfa⟩, ⟨hc, hr, hs, hz⟩, h49, hdi⟩, hT⟩ := h
    obtain ⟨a1, a2, a3, a4⟩ := sink_ok z hn.1
    refine ⟨⟨hb, hset, ⟨?_, hf, hfa⟩, ⟨rg_push hc (by omega) (by omega), rg_push hr a2.1 a2.2, rg_push hs (by omega) (by omega), rg_push hz (by omega) (by omega)⟩, ?_, ?_⟩, hT⟩
    · show 0 ≤ v 11 0 + 1 ∧ v 11 0 + 1 ≤ 6
      omega
    · intro w w0 w1 e
      have w1' : w < v 11 0 + 1 := w1
      show fup (v 6) (v 11 0) 0 w ≤ 49
      have e' : fup (v 7) (v 11 0) 0 w = 0 := e
      by_cases y : w = v 11 0
      · rw [y, fup_eq]; omega
      · rw [fup_ne y] at e' ⊢
        exact h49 w w0 (by omega) e'
    · intro w u w0 w1 u0 u1 e
      have w1' : w < v 11 0 + 1 := w1
      have u1' : u < v 11 0 + 1 := u1
      have e' : fup (v 4) (v 11 0) k w = fup (v 4) (v 11 0) k u := e
      by_cases y : w = v 11 0
      · by_cases y2 : u = v 11 0
        · omega
        · rw [y, fup_eq, fup_ne y2] at e'
          exact absurd e'.symm (a4 u u0 (by omega))
      · by_cases y2 : u = v 11 0
        · rw [y2, fup_eq, fup_ne y] at e'
          exact absurd e' (a4 w w0 (by omega))
        · rw [fup_ne y, fup_ne y2] at e'
          exact hdi w u w0 (by omega) u0 (by omega) e'
  · rw [if_neg z]; exact h
theorem OKt.fill {v : SV} {k : Int} (h : OKt v) : OKt (fillV v k) := by
  unfold fillV
  by_cases z : 0 ≤ k ∧ k < v 11 0
  · rw [if_pos z]
    obtain ⟨⟨hb, hset, ⟨hn, hf, hfa⟩, ⟨hc, hr, hs, hz⟩, h49, hdi⟩, hT⟩ := h
    refine ⟨⟨hb, hset, ⟨?_, hf, hfa⟩, ⟨rg_gap hc z.1, rg_gap hr z.1, rg_gap hs z.1, rg_gap hz z.1⟩, ?_, ?_⟩, hT⟩
    · show 0 ≤ v 11 0 - 1 ∧ v 11 0 - 1 ≤ 6
      omega
    · intro w w0 w1 e
      have w1' : w < v 11 0 - 1 := w1
      have e' : gapF (v 7) k w = 0 := e
      show gapF (v 6) k w ≤ 49
      rw [gapF_gi] at e' ⊢
      have r := giI_rng (w := k) (n := v 11 0) z.1 w0 w1'
      exact h49 _ r.1 r.2 e'
    · intro w u w0 w1 u0 u1 e
      have w1' : w < v 11 0 - 1 := w1
      have u1' : u < v 11 0 - 1 := u1
      have e' : gapF (v 4) k w = gapF (v 4) k u := e
      rw [gapF_gi, gapF_gi] at e'
      have r := giI_rng (w := k) (n := v 11 0) z.1 w0 w1'
      have r2 := giI_rng (w := k) (n := v 11 0) z.1 u0 u1'
      exact giI_inj hn.2 w1' u1' (hdi _ _ r.1 r.2 r2.1 r2.2 e')
  · rw [if_neg z]; exact h
theorem OKt.tides {v : SV} {a b : Int} (h : OKt v) : OKt (tidesV v a b) := by
  unfold tidesV
  by_cases z : 0 ≤ tidesR v a b
  · rw [if_pos z]
    refine ⟨h.1.it _, ?_⟩
    have e := itV_tides (v := v) (rise := a) b.toNat
    have hT := h.2
    unfold tidesR at z
    by_cases p : ¬ ((-30 ≤ a ∧ a ≤ 30) ∧ (1 ≤ b ∧ b ≤ 99))
    · rw [if_pos p] at z; omega
    · rw [if_neg p] at z
      by_cases q : 99999 < v 11 2 + b
      · rw [if_pos q] at z; omega
      · omega
  · rw [if_neg z]; exact h
/-! what a run keeps: the state, the history, the snapshot, the text -/
def INV (v : SV) (hv : Int → SV) (sz ks : Int) (w : SV) (tx : Int → Int) (len : Int) : Prop := OKt v ∧ (0 ≤ sz ∧ sz ≤ 4) ∧ (∀ i : Int, 0 ≤ i → i < sz → OKt (hv i)) ∧ (ks = 0 ∨ ks = 1 ∧ OKt w) ∧ RG 0 65535 60 tx ∧ (0 ≤ len ∧ len ≤ 60)
def hvA (hv : Int → SV) (sz : Int) (v : SV) (R : Int) : Int → SV := if 0 ≤ R then addH hv sz v else hv
def szA (sz R : Int) : Int := if 0 ≤ R then addZ sz else sz
theorem INV.act {v v2 : SV} {hv : Int → SV} {sz ks : Int} {w : SV} {tx : Int → Int} {len : Int} (R : Int) (h : INV v hv sz ks w tx len) (h2 : OKt v2) : INV v2 (hvA hv sz v R) (szA sz R) ks w tx len := by
  obtain ⟨h1, hs, hh, hr⟩ := h
  unfold hvA szA
  by_cases q : 0 ≤ R
  · rw [if_pos q, if_pos q]
    unfold addH addZ
    by_cases z : sz < 4
    · rw [if_pos z, if_pos z]
      refine ⟨h2, by omega, fun i i0 i1 => ?_, hr⟩
      unfold fupG
      by_cases e : i = sz
      · rw [if_pos e]; exact h1
      · rw [if_neg e]; exact hh i i0 (by omega)
    · rw [if_neg z, if_neg z]
      refine ⟨h2, by omega, fun i i0 i1 => ?_, hr⟩
      unfold fupG
      by_cases e : i = 3
      · rw [if_pos e]; exact h1
      · rw [if_neg e, rotG_l i0 (by omega)]
        exact hh _ (by omega) (by omega)
  · rw [if_neg q, if_neg q]
    exact ⟨h2, hs, hh, hr⟩
/-! the class's object and all behind it -/
abbrev oCls (x : Nat) (ks hst n e : Int) : PO := oO 5 [r_ (x + 1), r_ (x + 15), r_ (x + 29), i_ ks, r_ (x + 43), r_ (x + 101), i_ hst, i_ n, i_ e]
def clF (h : List PO) (x : Nat) (v u w : SV) (ks : Int) (ρ : Int → Nat) (hv : Int → SV) (sz : Int) (tx : Int → Int) (len : Int) (ki fi s2 : Int → Int) (th p hst n e : Int) : Prop := h[x]? = some (oCls x ks hst n e) ∧ stAt h (x + 1) v ∧ stAt h (x + 15) u ∧ stAt h (x + 29) w ∧ hiAt h (x + 43) ρ hv sz ∧ scAt h (x + 101) tx len ki fi s2 th p
def clA (h : List PO) (x : Nat) (v : SV) (hv : Int → SV) (sz ks : Int) (w : SV) (tx : Int → Int) (len sn se : Int) : Prop := ∃ (u : SV) (ρ : Int → Nat) (ki fi s2 : Int → Int) (th p hst n e : Int), clF h x v u w ks ρ hv sz tx len ki fi s2 th p hst n e ∧ (hst = 0 ∧ sn = -5 ∧ se = -5 ∨ hst = 1 ∧ n = sn ∧ e = se)
section CL
variable {h h2 : List PO} {x : Nat} {v u w : SV} {ks : Int} {ρ : Int → Nat} {hv : Int → SV} {sz : Int} {tx : Int → Int} {len : Int} {ki fi s2 : Int → Int} {th p hst n e : Int}
theorem clF.now {v2 : SV} (a : clF h x v u w ks ρ hv sz tx len ki fi s2 th p hst n e) (f : Fr h h2 (x + 1) (x + 1 + 14)) (b : stAt h2 (x + 1) v2) : clF h2 x v2 u w ks ρ hv sz tx len ki fi s2 th p hst n e := by
  obtain ⟨a0, a1, a2, a3, a4, a5⟩ := a
  exact ⟨f.at' a0 (by omega), b, a2.fr f (by omega), a3.fr f (by omega), a4.fr f (by omega), a5.fr f (by omega)⟩
theorem clF.spare {v2 : SV} (a : clF h x v u w ks ρ hv sz tx len ki fi s2 th p hst n e) (f : Fr h h2 (x + 15) (x + 15 + 14)) (b : stAt h2 (x + 15) v2) : clF h2 x v v2 w ks ρ hv sz tx len ki fi s2 th p hst n e := by
  obtain ⟨a0, a1, a2, a3, a4, a5⟩ := a
  exact ⟨f.at' a0 (by omega), a1.fr f (by omega), b, a3.fr f (by omega), a4.fr f (by omega), a5.fr f (by omega)⟩
theorem clF.snap {v2 : SV} (a : clF h x v u w ks ρ hv sz tx len ki fi s2 th p hst n e) (f : Fr h h2 (x + 29) (x + 29 + 14)) (b : stAt h2 (x + 29) v2) : clF h2 x v u v2 ks ρ hv sz tx len ki fi s2 th p hst n e := by
  obtain ⟨a0, a1, a2, a3, a4, a5⟩ := a
  exact ⟨f.at' a0 (by omega), a1.fr f (by omega), a2.fr f (by omega), b, a4.fr f (by omega), a5.fr f (by omega)⟩
theorem clF.hist {ρ2 : Int → Nat} {hv2 : Int → SV} {sz2 : Int} (a : clF h x v u w ks ρ hv sz tx len ki fi s2 th p hst n e) (f : Fr h h2 (x + 43) (x + 43 + 58)) (b : hiAt h2 (x + 43) ρ2 hv2 sz2) : clF h2 x v u w ks ρ2 hv2 sz2 tx len ki fi s2 th p hst n e := by
  obtain ⟨a0, a1, a2, a3, a4, a5⟩ := a
  exact ⟨f.at' a0 (by omega), a1.fr f (by omega), a2.fr f (by omega), a3.fr f (by omega), b, a5.fr f (by omega)⟩
theorem clF.scr {tx2 : Int → Int} {len2 : Int} {ki2 fi2 se2 : Int → Int} {th2 p2 : Int} (a : clF h x v u w ks ρ hv sz tx len ki fi s2 th p hst n e) (f : Fr h h2 (x + 101) (x + 101 + 5)) (b : scAt h2 (x + 101) tx2 len2 ki2 fi2 se2 th2 p2) : clF h2 x v u w ks ρ hv sz tx2 len2 ki2 fi2 se2 th2 p2 hst n e := by
  obtain ⟨a0, a1, a2, a3, a4, a5⟩ := a
  exact ⟨f.at' a0 (by omega), a1.fr f (by omega), a2.fr f (by omega), a3.fr f (by omega), a4.fr f (by omega), b⟩
theorem clF.obj (a : clF h x v u w ks ρ hv sz tx len ki fi s2 th p hst n e) (ks2 hst2 n2 e2 : Int) : clF (h.set x (oCls x ks2 hst2 n2 e2)) x v u w ks2 ρ hv sz tx len ki fi s2 th p hst2 n2 e2 := by
  obtain ⟨a0, a1, a2, a3, a4, a5⟩ := a
  have f : Fr h (h.set x (oCls x ks2 hst2 n2 e2)) x (x + 1) := Fr.set (by omega) (by omega)
  exact ⟨set_at a0, a1.fr f (by omega), a2.fr f (by omega), a3.fr f (by omega), a4.fr f (by omega), a5.fr f (by omega)⟩
end CL
theorem st_dig {h : List PO} {k : Nat} {v : SV} {c d : Int} (hA : stAt h k v) : Fr h (if 0 ≤ digR v c d then h.set (k + 1 + 1) (oI 40 (fup (v 0) c d)) else h) k (k + 14) ∧ stAt (if 0 ≤ digR v c d then h.set (k + 1 + 1) (oI 40 (fup (v 0) c d)) else h) k (digV v c d) := by
  unfold digV
  by_cases q : 0 ≤ digR v c d
  · rw [if_pos q, if_pos q]
    have k2 : staF (h.set (k + 1 + 1) (oI 40 (fup (v 0) c d))) k (fup (v 0) c d) (v 1) (v 2) (v 3) (v 4) (v 5) (v 6) (v 7) (v 8) (v 9) (v 11 0) (v 10) (v 11 1) (v 11 2) (v 11 3) := staF.bed hA (Fr.set (by omega) (by omega)) (hA.2.1.set1 _)
    exact ⟨Fr.set (by omega) (by omega), k2⟩
  · rw [if_neg q, if_neg q]; exact ⟨Fr.rf, hA⟩
theorem st_build {h : List PO} {k : Nat} {v : SV} {c d : Int} (hA : stAt h k v) : Fr h (if 0 ≤ buildR v c d then h.set (k + 1 + 2) (oI 40 (fup (v 1) c d)) else h) k (k + 14) ∧ stAt (if 0 ≤ buildR v c d then h.set (k + 1 + 2) (oI 40 (fup (v 1) c d)) else h) k (buildV v c d) := by
  unfold buildV
  by_cases q : 0 ≤ buildR v c d
  · rw [if_pos q, if_pos q]
    have k2 : staF (h.set (k + 1 + 2) (oI 40 (fup (v 1) c d))) k (v 0) (fup (v 1) c d) (v 2) (v 3) (v 4) (v 5) (v 6) (v 7) (v 8) (v 9) (v 11 0) (v 10) (v 11 1) (v 11 2) (v 11 3) := staF.bed hA (Fr.set (by omega) (by omega)) (hA.2.1.set2 _)
    exact ⟨Fr.set (by omega) (by omega), k2⟩
  · rw [if_neg q, if_neg q]; exact ⟨Fr.rf, hA⟩
theorem st_rate {h : List PO} {k : Nat} {v : SV} {c d : Int} (hA : stAt h k v) : Fr h (if 0 ≤ rateR (v 5) (v 11 0) c d then h.set (k + 6 + 2) (oI 6 (fup (v 5) c d)) else h) k (k + 14) ∧ stAt (if 0 ≤ rateR (v 5) (v 11 0) c d then h.set (k + 6 + 2) (oI 6 (fup (v 5) c d)) else h) k (rateV v c d) := by
  unfold rateV
  by_cases q : 0 ≤ rateR (v 5) (v 11 0) c d
  · rw [if_pos q, if_pos q]
    have k2 : staF (h.set (k + 6 + 2) (oI 6 (fup (v 5) c d))) k (v 0) (v 1) (v 2) (v 3) (v 4) (fup (v 5) c d) (v 6) (v 7) (v 8) (v 9) (v 11 0) (v 10) (v 11 1) (v 11 2) (v 11 3) := staF.wel hA (Fr.set (by omega) (by omega)) (hA.2.2.1.set2 _)
    exact ⟨Fr.set (by omega) (by omega), k2⟩
  · rw [if_neg q, if_neg q]; exact ⟨Fr.rf, hA⟩
theorem st_sink {h h2 : List PO} {k : Nat} {v : SV} {c q : Int} (hA : stAt h k v) (f : Fr h h2 (k + 6) (k + 6 + 7)) (b : if 0 ≤ sinkR (v 4) (v 11 0) c q then welF h2 (k + 6) (fup (v 4) (v 11 0) c) (fup (v 5) (v 11 0) q) (fup (v 6) (v 11 0) 0) (fup (v 7) (v 11 0) 0) (fup (v 8) (v 11 0) 0) (fup (v 9) (v 11 0) 0) (v 11 0 + 1) else h = h2) : stAt h2 k (sinkV v c q) := by
  unfold sinkV
  by_cases z : 0 ≤ sinkR (v 4) (v 11 0) c q
  · rw [if_pos z] at b ⊢
    have k2 := staF.wel (x := v 11 1) (y := v 11 2) (f := v 11 3) hA f b
    exact k2
  · rw [if_neg z] at b ⊢
    rw [← b]; exact hA
theorem st_fill {h h2 : List PO} {k : Nat} {v : SV} {w : Int} (hA : stAt h k v) (f : Fr h h2 (k + 6) (k + 6 + 7)) (b : if 0 ≤ w ∧ w < v 11 0 then welF h2 (k + 6) (gapF (v 4) w) (gapF (v 5) w) (gapF (v 6) w) (gapF (v 7) w) (gapF (v 8) w) (gapF (v 9) w) (v 11 0 - 1) else h = h2) : stAt h2 k (fillV v w) := by
  unfold fillV
  by_cases z : 0 ≤ w ∧ w < v 11 0
  · rw [if_pos z] at b ⊢
    have k2 := staF.wel (x := v 11 1) (y := v 11 2) (f := v 11 3) hA f b
    exact k2
  · rw [if_neg z] at b ⊢
    rw [← b]; exact hA
/-! what perform does -/
/-! what the other calls tell -/
def cellR (v : SV) (c k : Int) : Int := if ¬ (0 ≤ c ∧ c < 40) then -1 else if k = 0 then v 0 c else if k = 1 then v 1 c else if k = 2 then v 2 c else if k = 3 then besN (v 4) c (v 11 0).toNat else if k = 4 then v 3 c else -2
def wellR (v : SV) (w k : Int) : Int := tellR (v 4) (v 5) (v 6) (v 7) (v 8) (v 9) (v 11 0) w k
def markR (v : SV) (c r : Int) : Int := if ¬ (0 ≤ c ∧ c < 40) then -1 else if ¬ (-30 ≤ r ∧ r ≤ 30) then -2 else mkI (pushI v r) (v 10 1) (v 1) (v 0) c
def stopR (v : SV) (r : Int) : Int := if ¬ (-30 ≤ r ∧ r ≤ 30) then -2 else if stI (pushI v r) (v 10 1) (v 1) (v 0) < 40 then stI (pushI v r) (v 10 1) (v 1) (v 0) else -5
def whyR (v : SV) (c r : Int) : Int := if ¬ (0 ≤ c ∧ c < 40) then -1 else if ¬ (-30 ≤ r ∧ r ≤ 30) then -2 else reasonR (pushI v r) (v 10 1) (v 1) (v 0) c
/-- the tides from the n-th on, fu of them: the first behind which the well rests -/
def riN (v : SV) (w r : Int) : Nat → Int
  | 0 => -5
  | fu + 1 => if itV r v (300 - fu) 7 w = 1 then 300 - fu else riN v w r fu
def restR (v : SV) (w r : Int) : Int := if ¬ (0 ≤ w ∧ w < v 11 0) then -1 else if ¬ (-30 ≤ r ∧ r ≤ 30) then -2 else if v 7 w = 1 then -4 else riN v w r 300
def leastR (v : SV) (c r : Int) : Int := if ¬ (0 ≤ c ∧ c < 40) then -1 else if ¬ (-30 ≤ r ∧ r ≤ 30) then -2 else lfN v c r 100
def bestR (v : SV) (k r : Int) : Int := if ¬ (1 ≤ k ∧ k ≤ 60) ∨ ¬ (-30 ≤ r ∧ r ≤ 30) then -2 else bsN (pushI v r) (v 10 1) (v 1) (v 0) k 40
def countR (v : SV) (sz len k : Int) : Int := if k = 0 then v 11 2 else if k = 1 then v 11 1 else if k = 2 then sumN (wetI (v 2)) 40 else if k = 3 then sumN (v 2) 40 else if k = 4 then v 11 0 else if k = 5 then sumN (v 7) (v 11 0).toNat else if k = 6 then sumN (v 6) (v 11 0).toNat else if k = 7 then sumN (v 8) (v 11 0).toNat else if k = 8 then v 11 3 else if k = 9 then v 10 0 else if k = 10 then v 10 1 else if k = 11 then v 10 2 else if k = 12 then sz else if k = 13 then len else -2
def stpR (sn se k : Int) : Int := if k < 0 ∨ 1 < k then -2 else if k = 0 then sn else se
theorem riN_s {v : SV} {w r : Int} {i : Nat} (h1 : i ≤ 300) (h0 : 1 ≤ i) : riN v w r (301 - i) = if itV r v i 7 w = 1 then (i : Int) else riN v w r (300 - i) := by
  have e : 301 - i = (300 - i) + 1 := by omega
  have e2 : 300 - (300 - i) = i := by omega
  rw [e]
  show (if itV r v (300 - (300 - i)) 7 w = 1 then ((300 : Int) - ((300 - i : Nat) : Int)) else _) = _
  rw [e2]
  have e3 : (300 : Int) - ((300 - i : Nat) : Int) = i := by omega
  rw [e3]
