/-! what every state keeps beside OKt: the bed bears the wedge, the accounts of the wells, the farthest cell -/
def XI (v : SV) : Prop := (∀ c : Int, 0 ≤ c → c < 40 → v 1 c ≤ v 0 c ∧ v 2 c ≤ v 0 c ∧ 0 ≤ v 3 c ∧ v 3 c ≤ v 11 2 ∧ (0 < v 2 c → c ≤ v 11 3)) ∧
  (∀ w : Int, 0 ≤ w → w < v 11 0 → (v 7 w = 1 → 1 ≤ v 6 w ∧ 1 ≤ v 9 w) ∧ 0 ≤ v 8 w ∧ v 8 w ≤ 30 * v 11 2 ∧ 0 ≤ v 9 w ∧ v 9 w ≤ v 11 2)
theorem XI.dig {v : SV} {c d : Int} (h : XI v) : XI (digV v c d) := by
  unfold digV
  by_cases q : 0 ≤ digR v c d
  · rw [if_pos q]
    unfold digR at q
    by_cases a : ¬ (0 ≤ c ∧ c < 40)
    · rw [if_pos a] at q; omega
    rw [if_neg a] at q
    by_cases b : ¬ (1 ≤ d ∧ d ≤ 60)
    · rw [if_pos b] at q; omega
    rw [if_neg b] at q
    by_cases e : d < v 2 c ∨ d < v 1 c
    · rw [if_pos e] at q; omega
    refine ⟨fun j j0 j1 => ?_, h.2⟩
    have hj := h.1 j j0 j1
    show v 1 j ≤ fup (v 0) c d j ∧ v 2 j ≤ fup (v 0) c d j ∧ 0 ≤ v 3 j ∧ v 3 j ≤ v 11 2 ∧ (0 < v 2 j → j ≤ v 11 3)
    by_cases z : j = c
    · rw [z] at hj ⊢
      rw [fup_eq]
      exact ⟨by omega, by omega, hj.2.2⟩
    · rw [fup_ne z]; exact hj
  · rw [if_neg q]; exact h
theorem XI.build {v : SV} {c d : Int} (h : XI v) : XI (buildV v c d) := by
  unfold buildV
  by_cases q : 0 ≤ buildR v c d
  · rw [if_pos q]
    unfold buildR at q
    by_cases a : ¬ (0 ≤ c ∧ c < 40)
    · rw [if_pos a] at q; omega
    rw [if_neg a] at q
    by_cases b : ¬ (0 ≤ d ∧ d ≤ 60)
    · rw [if_pos b] at q; omega
    rw [if_neg b] at q
    by_cases e : v 0 c < d
    · rw [if_pos e] at q; omega
    refine ⟨fun j j0 j1 => ?_, h.2⟩
    have hj := h.1 j j0 j1
    show fup (v 1) c d j ≤ v 0 j ∧ v 2 j ≤ v 0 j ∧ 0 ≤ v 3 j ∧ v 3 j ≤ v 11 2 ∧ (0 < v 2 j → j ≤ v 11 3)
    by_cases z : j = c
    · rw [z] at hj ⊢
      rw [fup_eq]
      exact ⟨by omega, hj.2⟩
    · rw [fup_ne z]; exact hj
  · rw [if_neg q]; exact h
theorem XI.flow {v : SV} {q : Int} (h : XI v) : XI (flowV v q) := by
  unfold flowV
  by_cases z : 0 ≤ flowR v q
  · rw [if_pos z]; exact ⟨h.1, h.2⟩
  · rw [if_neg z]; exact h
theorem XI.set {v : SV} {w q : Int} (h : XI v) : XI (setV v w q) := by
  unfold setV
  by_cases z : 0 ≤ setR v w q
  · rw [if_pos z]; exact ⟨h.1, h.2⟩
  · rw [if_neg z]; exact h
theorem XI.rate {v : SV} {w q : Int} (h : XI v) : XI (rateV v w q) := by
  unfold rateV
  by_cases z : 0 ≤ rateR (v 5) (v 11 0) w q
  · rw [if_pos z]; exact ⟨h.1, h.2⟩
  · rw [if_neg z]; exact h
theorem XI.sink {v : SV} {k q : Int} (h : XI v) (ht : 0 ≤ v 11 2) : XI (sinkV v k q) := by
  unfold sinkV
  by_cases z : 0 ≤ sinkR (v 4) (v 11 0) k q
  · rw [if_pos z]
    refine ⟨h.1, fun w w0 w1 => ?_⟩
    have w1' : w < v 11 0 + 1 := w1
    show (fup (v 7) (v 11 0) 0 w = 1 → 1 ≤ fup (v 6) (v 11 0) 0 w ∧ 1 ≤ fup (v 9) (v 11 0) 0 w) ∧ 0 ≤ fup (v 8) (v 11 0) 0 w ∧ fup (v 8) (v 11 0) 0 w ≤ 30 * v 11 2 ∧ 0 ≤ fup (v 9) (v 11 0) 0 w ∧ fup (v 9) (v 11 0) 0 w ≤ v 11 2
    by_cases e : w = v 11 0
    · rw [e, fup_eq, fup_eq, fup_eq, fup_eq]
      exact ⟨fun x => absurd x (by decide), by omega, by omega, by omega, by omega⟩
    · rw [fup_ne e, fup_ne e, fup_ne e, fup_ne e]
      exact h.2 w w0 (by omega)
  · rw [if_neg z]; exact h
theorem XI.fill {v : SV} {k : Int} (h : XI v) : XI (fillV v k) := by
  unfold fillV
  by_cases z : 0 ≤ k ∧ k < v 11 0
  · rw [if_pos z]
    refine ⟨h.1, fun w w0 w1 => ?_⟩
    have w1' : w < v 11 0 - 1 := w1
    show (gapF (v 7) k w = 1 → 1 ≤ gapF (v 6) k w ∧ 1 ≤ gapF (v 9) k w) ∧ 0 ≤ gapF (v 8) k w ∧ gapF (v 8) k w ≤ 30 * v 11 2 ∧ 0 ≤ gapF (v 9) k w ∧ gapF (v 9) k w ≤ v 11 2
    have r := giI_rng (w := k) (n := v 11 0) z.1 w0 w1'
    rw [gapF_gi, gapF_gi, gapF_gi, gapF_gi]
    exact h.2 _ r.1 r.2
  · rw [if_neg z]; exact h
theorem reachN_ge {q : Int → Int} {c : Int} (c0 : 0 ≤ c) (h : 0 < q c) : ∀ n : Nat, c < n → c ≤ reachN q n := by
  intro n
  induction n with
  | zero => intro x; omega
  | succ n ih =>
    intro x
    show c ≤ (if 0 < q n then (n : Int) else reachN q n)
    by_cases e : 0 < q n
    · rw [if_pos e]; omega
    · rw [if_neg e]
      have ne : ¬ c = n := fun z => e (z ▸ h)
      exact ih (by omega)
theorem moveI_le {q m b d : Int} (hb : 0 ≤ b) (hq : q ≤ d) (hm : m ≤ d) : moveI q m b ≤ d := by
  unfold moveI
  by_cases e : q < m
  · rw [if_pos e]; omega
  · rw [if_neg e]; omega
theorem XI.tide {v : SV} {r : Int} (h : XI v) (ho : OK v) (ht : 0 ≤ v 11 2) : XI (tideV r v) := by
  have ho2 := ho.tide (rise := r)
  obtain ⟨⟨hrd, hrs, hrh⟩, hset, ⟨hn, hf, hfa⟩, ⟨hc, hr, hs, hz⟩, h49, hdi⟩ := ho
  have hs2 : RG 0 300 (v 11 0) (tideS r v) := ho2.2.2.2.1.2.2.1
  have hH2 : RG 0 60 40 (tideH r v) := ho2.1.2.2
  refine ⟨fun c c0 c1 => ?_, fun w w0 w1 => ?_⟩
  · have hc9 := h.1 c c0 c1
    have d9 := hrd c c0 c1
    have s9 := hrs c c0 c1
    have hh9 := hH2 c c0 c1
    show v 1 c ≤ v 0 c ∧ tideH r v c ≤ v 0 c ∧ 0 ≤ v 3 c + wetI (tideH r v) c ∧ v 3 c + wetI (tideH r v) c ≤ v 11 2 + 1 ∧ (0 < tideH r v c → c ≤ max (v 11 3) (reachN (tideH r v) 40))
    have m9 := mkf_rng (o := offI (pushI v r) (v 10 1) (v 1) (v 0) c) s9.1 d9.1
    have e1 : tideH r v c ≤ v 0 c := moveI_le (by have := hset.2.2.1; omega) (by omega) m9.2
    have e2 : 0 ≤ wetI (tideH r v) c ∧ wetI (tideH r v) c ≤ 1 := by
      unfold wetI
      by_cases e : 0 < tideH r v c
      · rw [if_pos e]; omega
      · rw [if_neg e]; omega
    refine ⟨by omega, e1, by omega, by omega, fun q => ?_⟩
    have := reachN_ge c0 q 40 (by omega)
    omega
  · have w1' : w < v 11 0 := w1
    have hw := h.2 w w0 w1'
    have sw := hs2 w w0 w1'
    have rw_ := hr w w0 w1'
    have zw := hz w w0 w1'
    show (resF (tideS r v) (v 11 0) (v 7) w = 1 → 1 ≤ tideS r v w ∧ 1 ≤ turF (tideS r v) (v 7) (v 11 0) (v 9) w) ∧ 0 ≤ draF (v 5) (v 7) (v 11 0) (v 8) w ∧ draF (v 5) (v 7) (v 11 0) (v 8) w ≤ 30 * (v 11 2 + 1) ∧ 0 ≤ turF (tideS r v) (v 7) (v 11 0) (v 9) w ∧ turF (tideS r v) (v 7) (v 11 0) (v 9) w ≤ v 11 2 + 1
    unfold resF turF draF
    rw [if_pos ⟨w0, w1'⟩]
    by_cases a : v 7 w = 0 ∧ 50 ≤ tideS r v w
    · rw [if_pos a, if_pos ⟨⟨w0, w1'⟩, a⟩, if_pos ⟨⟨w0, w1'⟩, a.1⟩]
      omega
    · have a2 : ¬ ((0 ≤ w ∧ w < v 11 0) ∧ v 7 w = 0 ∧ 50 ≤ tideS r v w) := fun q => a q.2
      rw [if_neg a, if_neg a2]
      have d1 : 0 ≤ (if (0 ≤ w ∧ w < v 11 0) ∧ v 7 w = 0 then v 8 w + v 5 w else v 8 w) ∧ (if (0 ≤ w ∧ w < v 11 0) ∧ v 7 w = 0 then v 8 w + v 5 w else v 8 w) ≤ 30 * (v 11 2 + 1) := by
        by_cases b : (0 ≤ w ∧ w < v 11 0) ∧ v 7 w = 0
        · rw [if_pos b]; omega
        · rw [if_neg b]; omega
      refine ⟨fun q => ?_, d1.1, d1.2, by omega, by omega⟩
      by_cases b : tideS r v w = 0
      · rw [if_pos b] at q; omega
      · rw [if_neg b] at q
        have := hw.1 q
        omega
theorem XI.it {v : SV} {r : Int} (h : XI v) (ho : OK v) (ht : 0 ≤ v 11 2) : ∀ n : Nat, XI (itV r v n) := by
  intro n
  induction n with
  | zero => exact h
  | succ n ih => exact ih.tide (ho.it n) (by rw [itV_tides]; omega)
theorem XI.tides {v : SV} {a b : Int} (h : XI v) (ho : OK v) (ht : 0 ≤ v 11 2) : XI (tidesV v a b) := by
  unfold tidesV
  by_cases z : 0 ≤ tidesR v a b
  · rw [if_pos z]; exact h.it ho ht _
  · rw [if_neg z]; exact h
/-! an act: its kind and its two numbers -/
abbrev OP : Type := Int × Int × Int
def opR (v : SV) (t : OP) : Int := if t.1 = 0 then digR v t.2.1 t.2.2 else if t.1 = 1 then buildR v t.2.1 t.2.2 else if t.1 = 2 then flowR v t.2.1 else if t.1 = 3 then setR v t.2.1 t.2.2 else if t.1 = 4 then sinkR (v 4) (v 11 0) t.2.1 t.2.2 else if t.1 = 5 then fillR (v 6) (v 11 0) t.2.1 else if t.1 = 6 then rateR (v 5) (v 11 0) t.2.1 t.2.2 else tidesR v t.2.1 t.2.2
def opV (v : SV) (t : OP) : SV := if t.1 = 0 then digV v t.2.1 t.2.2 else if t.1 = 1 then buildV v t.2.1 t.2.2 else if t.1 = 2 then flowV v t.2.1 else if t.1 = 3 then setV v t.2.1 t.2.2 else if t.1 = 4 then sinkV v t.2.1 t.2.2 else if t.1 = 5 then fillV v t.2.1 else if t.1 = 6 then rateV v t.2.1 t.2.2 else tidesV v t.2.1 t.2.2
theorem op_cases (v : SV) (t : OP) : (opR v t = digR v t.2.1 t.2.2 ∧ opV v t = digV v t.2.1 t.2.2) ∨ (opR v t = buildR v t.2.1 t.2.2 ∧ opV v t = buildV v t.2.1 t.2.2) ∨ (opR v t = flowR v t.2.1 ∧ opV v t = flowV v t.2.1) ∨ (opR v t = setR v t.2.1 t.2.2 ∧ opV v t = setV v t.2.1 t.2.2) ∨ (opR v t = sinkR (v 4) (v 11 0) t.2.1 t.2.2 ∧ opV v t = sinkV v t.2.1 t.2.2) ∨ (opR v t = fillR (v 6) (v 11 0) t.2.1 ∧ opV v t = fillV v t.2.1) ∨ (opR v t = rateR (v 5) (v 11 0) t.2.1 t.2.2 ∧ opV v t = rateV v t.2.1 t.2.2) ∨ (opR v t = tidesR v t.2.1 t.2.2 ∧ opV v t = tidesV v t.2.1 t.2.2) := by
  unfold opR opV
  by_cases a : t.1 = 0
  · rw [if_pos a, if_pos a]; exact Or.inl ⟨rfl, rfl⟩
  rw [if_neg a, if_neg a]
  by_cases b : t.1 = 1
  · rw [if_pos b, if_pos b]; exact Or.inr (Or.inl ⟨rfl, rfl⟩)
  rw [if_neg b, if_neg b]
  by_cases c : t.1 = 2
  · rw [if_pos c, if_pos c]; exact Or.inr (Or.inr (Or.inl ⟨rfl, rfl⟩))
  rw [if_neg c, if_neg c]
  by_cases d : t.1 = 3
  · rw [if_pos d, if_pos d]; exact Or.inr (Or.inr (Or.inr (Or.inl ⟨rfl, rfl⟩)))
  rw [if_neg d, if_neg d]
  by_cases e : t.1 = 4
  · rw [if_pos e, if_pos e]; exact Or.inr (Or.inr (Or.inr (Or.inr (Or.inl ⟨rfl, rfl⟩))))
  rw [if_neg e, if_neg e]
  by_cases f : t.1 = 5
  · rw [if_pos f, if_pos f]; exact Or.inr (Or.inr (Or.inr (Or.inr (Or.inr (Or.inl ⟨rfl, rfl⟩)))))
  rw [if_neg f, if_neg f]
  by_cases g : t.1 = 6
  · rw [if_pos g, if_pos g]; exact Or.inr (Or.inr (Or.inr (Or.inr (Or.inr (Or.inr (Or.inl ⟨rfl, rfl⟩))))))
  rw [if_neg g, if_neg g]
  exact Or.inr (Or.inr (Or.inr (Or.inr (Or.inr (Or.inr (Or.inr ⟨rfl, rfl⟩))))))
theorem OKt.op {v : SV} (t : OP) (h : OKt v) : OKt (opV v t) := by
  rcases op_cases v t with ⟨-, e⟩ | ⟨-, e⟩ | ⟨-, e⟩ | ⟨-, e⟩ | ⟨-, e⟩ | ⟨-, e⟩ | ⟨-, e⟩ | ⟨-, e⟩ <;> rw [e]
  · exact h.dig
  · exact h.build
  · exact h.flow
  · exact h.set
  · exact h.sink
  · exact h.fill
  · exact h.rate
  · exact h.tides
theorem XI.op {v : SV} (t : OP) (h : XI v) (ho : OKt v) : XI (opV v t) := by
  rcases op_cases v t with ⟨-, e⟩ | ⟨-, e⟩ | ⟨-, e⟩ | ⟨-, e⟩ | ⟨-, e⟩ | ⟨-, e⟩ | ⟨-, e⟩ | ⟨-, e⟩ <;> rw [e]
  · exact h.dig
  · exact h.build
  · exact h.flow
  · exact h.set
  · exact h.sink ho.2.1
  · exact h.fill
  · exact h.rate
  · exact h.tides ho.1 ho.2.1
theorem op_rng {v : SV} (t : OP) (h : OK v) : -5 ≤ opR v t ∧ opR v t ≤ 300 := by
  rcases op_cases v t with ⟨e, -⟩ | ⟨e, -⟩ | ⟨e, -⟩ | ⟨e, -⟩ | ⟨e, -⟩ | ⟨e, -⟩ | ⟨e, -⟩ | ⟨e, -⟩ <;> rw [e]
  · have := digR_rng (c := t.2.1) (d := t.2.2) h; omega
  · have := buildR_rng (c := t.2.1) (d := t.2.2) h; omega
  · have := flowR_rng (q := t.2.1) h; omega
  · have := setR_rng (w := t.2.1) (q := t.2.2) h; omega
  · have := sinkR_rng (k := t.2.1) (q := t.2.2) h; omega
  · exact fillR_rng h
  · have := rateR_rng (w := t.2.1) (q := t.2.2) h; omega
  · have := tidesR_rng (v := v) (a := t.2.1) (b := t.2.2); omega
/-- an error, or NONE, changes nothing -/
theorem op_neg {v : SV} (t : OP) (ho : OK v) (h : opR v t < 0) : opV v t = v := by
  rcases op_cases v t with ⟨e, f⟩ | ⟨e, f⟩ | ⟨e, f⟩ | ⟨e, f⟩ | ⟨e, f⟩ | ⟨e, f⟩ | ⟨e, f⟩ | ⟨e, f⟩ <;> rw [f] <;> rw [e] at h
  · exact if_neg (by omega)
  · exact if_neg (by omega)
  · exact if_neg (by omega)
  · exact if_neg (by omega)
  · exact if_neg (by omega)
  · refine if_neg (fun q => ?_)
    unfold fillR at h
    rw [if_pos q] at h
    have := ho.2.2.2.1.2.2.1 _ q.1 q.2
    omega
  · exact if_neg (by omega)
  · exact if_neg (by omega)
theorem op_tides {v : SV} (t : OP) {N : Int} (hN : 0 ≤ N) (h : t.2.2 ≤ N) : opV v t 11 2 ≤ v 11 2 + N := by
  rcases op_cases v t with ⟨-, e⟩ | ⟨-, e⟩ | ⟨-, e⟩ | ⟨-, e⟩ | ⟨-, e⟩ | ⟨-, e⟩ | ⟨-, e⟩ | ⟨-, e⟩ <;> rw [e]
  · unfold digV; split <;> (show v 11 2 ≤ _; omega)
  · unfold buildV; split <;> (show v 11 2 ≤ _; omega)
  · unfold flowV; split <;> (show v 11 2 ≤ _; omega)
  · unfold setV; split <;> (show v 11 2 ≤ _; omega)
  · unfold sinkV; split <;> (show v 11 2 ≤ _; omega)
  · unfold fillV; split <;> (show v 11 2 ≤ _; omega)
  · unfold rateV; split <;> (show v 11 2 ≤ _; omega)
  · unfold tidesV
    split
    · rw [itV_tides]; omega
    · omega
/-! the history: undo takes an act back -/
theorem und_act {v V : SV} {hv : Int → SV} {sz R : Int} (hR : 0 ≤ R) (h0 : 0 ≤ sz) (h4 : sz ≤ 4) : undV V (hvA hv sz v R) (szA sz R) = v ∧ undR (szA sz R) = (if sz < 4 then sz else 3) ∧ undZ (szA sz R) = (if sz < 4 then sz else 3) ∧ szA sz R = (if sz < 4 then sz + 1 else 4) := by
  unfold undV undR undZ hvA szA
  rw [if_pos hR, if_pos hR]
  unfold addH addZ
  by_cases q : sz < 4
  · simp only [if_pos q]
    have e1 : ¬ sz + 1 = 0 := by omega
    have e2 : sz + 1 - 1 = sz := by omega
    simp only [if_neg e1, e2]
    exact ⟨if_pos rfl, trivial, trivial, trivial⟩
  · simp only [if_neg q]
    exact ⟨rfl, rfl, rfl, trivial⟩
/-! wells beside cells -/
theorem besN_is {q : Int → Int} {c : Int} : ∀ n : Nat, besN q c n = -5 ∨ 0 ≤ besN q c n ∧ besN q c n < n ∧ q (besN q c n) = c := by
  intro n
  induction n with
  | zero => exact Or.inl rfl
  | succ n ih =>
    have e : besN q c (n + 1) = if q n = c then (n : Int) else besN q c n := rfl
    by_cases z : q n = c
    · rw [e, if_pos z]; exact Or.inr ⟨by omega, by omega, z⟩
    · rw [e, if_neg z]
      rcases ih with a | ⟨a, b, d⟩
      · exact Or.inl a
      · exact Or.inr ⟨a, by omega, d⟩
theorem besN_at {q : Int → Int} {n : Nat} (hd : ∀ w u : Int, 0 ≤ w → w < n → 0 ≤ u → u < n → q w = q u → w = u) {k : Int} (k0 : 0 ≤ k) (k1 : k < n) : besN q (q k) n = k := by
  rcases besN_is (q := q) (c := q k) n with a | ⟨a, b, d⟩
  · exact absurd rfl (besN_no n a k k0 k1)
  · exact hd _ _ a b k0 k1 d
def cntB (q : Int → Int) (n : Nat) : Nat → Int
  | 0 => 0
  | m + 1 => cntB q n m + (if 0 ≤ besN q m n then 1 else 0)
theorem cntB_0 {q : Int → Int} : ∀ m : Nat, cntB q 0 m = 0 := by
  intro m
  induction m with
  | zero => rfl
  | succ m ih =>
    show cntB q 0 m + (if (0 : Int) ≤ -5 then 1 else 0) = 0
    rw [ih]; rfl
theorem cntB_s {q : Int → Int} {n : Nat} (hd : ∀ w : Int, 0 ≤ w → w < n → q w ≠ q n) : ∀ m : Nat, cntB q (n + 1) m = cntB q n m + (if 0 ≤ q n ∧ q n < m then 1 else 0) := by
  intro m
  induction m with
  | zero =>
    show (0 : Int) = 0 + (if 0 ≤ q n ∧ q n < ((0 : Nat) : Int) then 1 else 0)
    rw [if_neg (by omega)]; omega
  | succ m ih =>
    have e : besN q m (n + 1) = if q n = m then (n : Int) else besN q m n := rfl
    show cntB q (n + 1) m + (if 0 ≤ besN q m (n + 1) then 1 else 0) = cntB q n m + (if 0 ≤ besN q m n then 1 else 0) + (if 0 ≤ q n ∧ q n < ((m + 1 : Nat) : Int) then 1 else 0)
    rw [ih, e]
    by_cases z : q n = m
    · have z1 : ¬ (0 ≤ q n ∧ q n < (m : Int)) := by omega
      have z2 : 0 ≤ q n ∧ q n < ((m + 1 : Nat) : Int) := by omega
      have z3 : (0 : Int) ≤ (n : Int) := by omega
      rw [if_pos z, if_neg z1, if_pos z2, if_pos z3]
      have hb : ¬ 0 ≤ besN q m n := by
        rcases besN_is (q := q) (c := m) n with a | ⟨a, b, d⟩
        · rw [a]; omega
        · exact absurd (d.trans z.symm) (hd _ a b)
      rw [if_neg hb]
    · rw [if_neg z]
      by_cases y : 0 ≤ q n ∧ q n < (m : Int)
      · rw [if_pos y, if_pos (c := 0 ≤ q n ∧ q n < ((m + 1 : Nat) : Int)) (by omega)]; omega
      · rw [if_neg y, if_neg (c := 0 ≤ q n ∧ q n < ((m + 1 : Nat) : Int)) (by omega)]; omega
/-- as many cells have a well beside them as there are wells -/
theorem cntB_is {q : Int → Int} : ∀ n : Nat, (∀ w : Int, 0 ≤ w → w < n → 0 ≤ q w ∧ q w ≤ 39) → (∀ w u : Int, 0 ≤ w → w < n → 0 ≤ u → u < n → q w = q u → w = u) → cntB q n 40 = n := by
  intro n
  induction n with
  | zero => intro _ _; exact cntB_0 40
  | succ n ih =>
    intro hr hd
    have e := cntB_s (q := q) (n := n) (fun w w0 w1 z => by have := hd w n w0 (by omega) (by omega) (by omega) z; omega) 40
    have r := hr n (by omega) (by omega)
    rw [e, ih (fun w a b => hr w a (by omega)) (fun w u a b c d => hd w u a (by omega) c (by omega)), if_pos (by omega)]
    omega
/-! tides -/
theorem itV_add {v : SV} {r : Int} (a : Nat) : ∀ b : Nat, itV r (itV r v a) b = itV r v (a + b) := by
  intro b
  induction b with
  | zero => rfl
  | succ b ih =>
    show tideV r (itV r (itV r v a) b) = tideV r (itV r v (a + b))
    rw [ih]
theorem tides_do {v : SV} {r t : Int} (hr : -30 ≤ r ∧ r ≤ 30) (ht : 1 ≤ t ∧ t ≤ 99) (hT : v 11 2 + t ≤ 99999) : tidesR v r t = sumN (wetI (itV r v t.toNat 2)) 40 ∧ tidesV v r t = itV r v t.toNat ∧ 0 ≤ tidesR v r t := by
  have e : tidesR v r t = sumN (wetI (itV r v t.toNat 2)) 40 := by
    unfold tidesR
    rw [if_neg (fun q => q ⟨hr, ht⟩), if_neg (by omega)]
  have w := wet_rng (q := itV r v t.toNat 2) 40
  refine ⟨e, ?_, by rw [e]; omega⟩
  unfold tidesV
  rw [if_pos (by rw [e]; omega)]
/-- the first tide behind which the well rests -/
theorem riN_is {v : SV} {w r : Int} : ∀ fu : Nat, fu ≤ 300 → (riN v w r fu = -5 ∧ ∀ j : Nat, 300 - fu < j → j ≤ 300 → itV r v j 7 w ≠ 1) ∨ ∃ i : Nat, 300 - fu < i ∧ i ≤ 300 ∧ riN v w r fu = i ∧ itV r v i 7 w = 1 ∧ ∀ j : Nat, 300 - fu < j → j < i → itV r v j 7 w ≠ 1 := by
  intro fu
  induction fu with
  | zero => intro _; exact Or.inl ⟨rfl, fun j a b => by omega⟩
  | succ fu ih =>
    intro hf
    have e : riN v w r (fu + 1) = if itV r v (300 - fu) 7 w = 1 then 300 - (fu : Int) else riN v w r fu := rfl
    by_cases q : itV r v (300 - fu) 7 w = 1
    · rw [if_pos q] at e
      exact Or.inr ⟨300 - fu, by omega, by omega, by rw [e]; omega, q, fun j a b => by omega⟩
    · rw [if_neg q] at e
      rcases ih (by omega) with ⟨a, b⟩ | ⟨i, a, b, c, d, f⟩
      · refine Or.inl ⟨e.trans a, fun j x y => ?_⟩
        by_cases z : j = 300 - fu
        · rw [z]; exact q
        · exact b j (by omega) y
      · refine Or.inr ⟨i, by omega, b, e.trans c, d, fun j x y => ?_⟩
        by_cases z : j = 300 - fu
        · rw [z]; exact q
        · exact f j (by omega) y
theorem itV_n {v : SV} {r : Int} : ∀ n : Nat, itV r v n 11 0 = v 11 0 := itV_wells
/-- a well that does not begin to rest did not turn salt -/
theorem itV_turn {v : SV} {w r : Int} (ho : OK v) (w0 : 0 ≤ w) (w1 : w < v 11 0) : ∀ n : Nat, (∀ j : Nat, j ≤ n → itV r v j 7 w ≠ 1) → itV r v n 9 w = v 9 w := by
  intro n
  induction n with
  | zero => intro _; rfl
  | succ n ih =>
    intro h
    have h1 := ih (fun j hj => h j (by omega))
    have h2 := h (n + 1) (by omega)
    have hn : itV r v n 11 0 = v 11 0 := itV_n n
    show turF (tideS r (itV r v n)) (itV r v n 7) (itV r v n 11 0) (itV r v n 9) w = v 9 w
    have h3 : ¬ resF (tideS r (itV r v n)) (itV r v n 11 0) (itV r v n 7) w = 1 := h2
    rw [hn] at h3 ⊢
    unfold resF at h3
    rw [if_pos ⟨w0, w1⟩] at h3
    unfold turF
    by_cases a : itV r v n 7 w = 0 ∧ 50 ≤ tideS r (itV r v n) w
    · rw [if_pos a] at h3; exact absurd rfl h3
    · rw [if_neg (fun q => a q.2)]; exact h1
/-- the tide in which a well begins to rest -/
theorem tide_turn {v : SV} {w r : Int} (w0 : 0 ≤ w) (w1 : w < v 11 0) (h0 : v 7 w = 0) (h : tideV r v 7 w = 1) : tideV r v 9 w = v 9 w + 1 := by
  have h3 : resF (tideS r v) (v 11 0) (v 7) w = 1 := h
  show turF (tideS r v) (v 7) (v 11 0) (v 9) w = v 9 w + 1
  unfold resF at h3
  rw [if_pos ⟨w0, w1⟩] at h3
  unfold turF
  by_cases a : v 7 w = 0 ∧ 50 ≤ tideS r v w
  · rw [if_pos ⟨⟨w0, w1⟩, a⟩]
  · rw [if_neg a] at h3
    by_cases b : tideS r v w = 0
    · rw [if_pos b] at h3; omega
    · rw [if_neg b] at h3; omega
theorem rests_1 {v : SV} {w r : Int} (hw : 0 ≤ w ∧ w < v 11 0) (hr : -30 ≤ r ∧ r ≤ 30) (h0 : v 7 w = 0) (h : tideV r v 7 w = 1) : restR v w r = 1 := by
  unfold restR
  rw [if_neg (fun q => q hw), if_neg (fun q => q hr), if_neg (by omega)]
  have e : riN v w r 300 = if itV r v (300 - 299) 7 w = 1 then 300 - ((299 : Nat) : Int) else riN v w r 299 := rfl
  have e2 : itV r v (300 - 299) 7 w = 1 := h
  rw [e, if_pos e2]
  rfl
/-! the least flow -/
theorem lfN_is {v : SV} {c r : Int} : ∀ n : Nat, n ≤ 100 → (lfN v c r n = -5 ∧ ∀ i : Int, 100 - (n : Int) ≤ i → i ≤ 99 → mkI (v 10 0 + r - i) (v 10 1) (v 1) (v 0) c ≠ 0) ∨ (100 - (n : Int) ≤ lfN v c r n ∧ lfN v c r n ≤ 99 ∧ mkI (v 10 0 + r - lfN v c r n) (v 10 1) (v 1) (v 0) c = 0 ∧ ∀ i : Int, 100 - (n : Int) ≤ i → i < lfN v c r n → mkI (v 10 0 + r - i) (v 10 1) (v 1) (v 0) c ≠ 0) := by
  intro n
  induction n with
  | zero => intro _; exact Or.inl ⟨rfl, fun i a b => by omega⟩
  | succ n ih =>
    intro hn
    have e : lfN v c r (n + 1) = if mkI (v 10 0 + r - (99 - n)) (v 10 1) (v 1) (v 0) c = 0 then 99 - (n : Int) else lfN v c r n := rfl
    by_cases q : mkI (v 10 0 + r - (99 - n)) (v 10 1) (v 1) (v 0) c = 0
    · rw [if_pos q] at e
      rw [e]
      exact Or.inr ⟨by omega, by omega, q, fun i a b => by omega⟩
    · rw [if_neg q] at e
      rw [e]
      rcases ih (by omega) with ⟨a, b⟩ | ⟨a, b, d, f⟩
      · refine Or.inl ⟨a, fun i x y => ?_⟩
        by_cases z : i = 99 - n
        · rw [z]; exact q
        · exact b i (by omega) y
      · refine Or.inr ⟨by omega, b, d, fun i x y => ?_⟩
        by_cases z : i = 99 - n
        · rw [z]; exact q
        · exact f i (by omega) y
theorem mk_low {push slope : Int} {sil dep : Int → Int} (hl : 0 ≤ slope) (hs : RG 0 60 40 sil) (hp : push ≤ 0) {c : Int} (c0 : 0 ≤ c) (c1 : c < 40) : mkI push slope sil dep c = 0 :=
  mk_dead (t := 0) hl hs (by omega) (by rw [offI_0]; have := hs 0 (by omega) (by omega); omega) c0 c1
theorem least_is {v : SV} {c r : Int} (ho : OK v) (hc : 0 ≤ c ∧ c < 40) (hr : -30 ≤ r ∧ r ≤ 30) : 0 ≤ leastR v c r ∧ leastR v c r ≤ 99 ∧ mkI (v 10 0 + r - leastR v c r) (v 10 1) (v 1) (v 0) c = 0 ∧ ∀ i : Int, 0 ≤ i → i < leastR v c r → mkI (v 10 0 + r - i) (v 10 1) (v 1) (v 0) c ≠ 0 := by
  have e : leastR v c r = lfN v c r 100 := by
    unfold leastR
    rw [if_neg (fun q => q hc), if_neg (fun q => q hr)]
  rw [e]
  rcases lfN_is (v := v) (c := c) (r := r) 100 (by omega) with ⟨-, b⟩ | ⟨a, b, d, f⟩
  · have h1 := ho.2.1
    exact absurd (mk_low (by omega) ho.1.2.1 (by omega) hc.1 hc.2) (b 99 (by omega) (by omega))
  · exact ⟨by omega, b, d, fun i x y => f i (by omega) y⟩
theorem flow_do {v : SV} {q : Int} (ho : OK v) (hq : 0 ≤ q ∧ q ≤ 99) : (flowR v q = -5 ∧ v 11 1 = q ∧ flowV v q = v) ∨ (flowR v q = v 11 1 ∧ ¬ v 11 1 = q ∧ flowV v q = vset v 11 (fup (v 11) 1 q)) := by
  have f := ho.2.2.1.2.1
  unfold flowV flowR
  rw [if_neg (fun z => z hq)]
  by_cases e : v 11 1 = q
  · rw [if_pos e]; exact Or.inl ⟨rfl, e, if_neg (by omega)⟩
  · rw [if_neg e]; exact Or.inr ⟨rfl, e, if_pos (by omega)⟩
theorem flow_mark {v : SV} {q c r : Int} (ho : OK v) (hq : 0 ≤ q ∧ q ≤ 99) (hc : 0 ≤ c ∧ c < 40) (hr : -30 ≤ r ∧ r ≤ 30) : markR (flowV v q) c r = mkI (v 10 0 + r - q) (v 10 1) (v 1) (v 0) c := by
  unfold markR
  rw [if_neg (fun z => z hc), if_neg (fun z => z hr)]
  rcases flow_do ho hq with ⟨-, a, b⟩ | ⟨-, a, b⟩
  · rw [b]; unfold pushI; rw [a]
  · rw [b]; rfl
/-! the best sill -/
theorem bsN_is {push slope : Int} {sil dep : Int → Int} {k : Int} : ∀ n : Nat, n ≤ 40 → bsN push slope sil dep k n = -5 ∨ (40 - (n : Int) ≤ bsN push slope sil dep k n ∧ bsN push slope sil dep k n < 40 ∧ (∀ c : Int, 40 - (n : Int) ≤ c → c ≤ bsN push slope sil dep k n → sil c < offI push slope sil dep c) ∧ offI push slope sil dep (bsN push slope sil dep k n) ≤ k ∧ sil (bsN push slope sil dep k n) < k ∧ k ≤ dep (bsN push slope sil dep k n)) := by
  intro n
  induction n with
  | zero => intro _; exact Or.inl rfl
  | succ n ih =>
    intro hn
    have e : bsN push slope sil dep k (n + 1) = if offI push slope sil dep (39 - n) ≤ sil (39 - n) then -5 else if offI push slope sil dep (39 - n) ≤ k ∧ sil (39 - n) < k ∧ k ≤ dep (39 - n) then 39 - (n : Int) else bsN push slope sil dep k n := rfl
    by_cases q : offI push slope sil dep (39 - n) ≤ sil (39 - n)
    · rw [if_pos q] at e; exact Or.inl e
    rw [if_neg q] at e
    by_cases z : offI push slope sil dep (39 - n) ≤ k ∧ sil (39 - n) < k ∧ k ≤ dep (39 - n)
    · rw [if_pos z] at e
      rw [e]
      refine Or.inr ⟨by omega, by omega, fun c a b => ?_, z⟩
      have : c = 39 - n := by omega
      rw [this]; omega
    · rw [if_neg z] at e
      rw [e]
      rcases ih (by omega) with a | ⟨a, b, d, f⟩
      · exact Or.inl a
      · refine Or.inr ⟨by omega, b, fun c x y => ?_, f⟩
        by_cases u : c = 39 - n
        · rw [u]; omega
        · exact d c (by omega) y
theorem off_same {push slope : Int} {sil sil2 dep : Int → Int} {R : Int} (h : ∀ c : Int, 0 ≤ c → c < R → sil2 c = sil c) : ∀ n : Nat, (n : Int) ≤ R → off push slope sil2 dep n = off push slope sil dep n := by
  intro n
  induction n with
  | zero => intro _; rfl
  | succ n ih =>
    intro hn
    show mkf (off push slope sil2 dep n) (sil2 n) (dep n) - slope = mkf (off push slope sil dep n) (sil n) (dep n) - slope
    rw [ih (by omega), h n (by omega) (by omega)]
theorem best_is {v : SV} {k r : Int} (ho : OK v) (hk : 1 ≤ k ∧ k ≤ 60) (hr : -30 ≤ r ∧ r ≤ 30) (h : 0 ≤ bestR v k r) : (bestR v k r < 40 ∧ buildR v (bestR v k r) k = v 1 (bestR v k r) ∧ 0 ≤ v 1 (bestR v k r) ∧ v 1 (bestR v k r) < k) ∧ stopR (buildV v (bestR v k r) k) r = bestR v k r ∧ (stopR v r = -5 ∨ bestR v k r < stopR v r) := by
  have e : bestR v k r = bsN (pushI v r) (v 10 1) (v 1) (v 0) k 40 := by
    unfold bestR
    rw [if_neg (fun q => q.elim (fun q => q hk) (fun q => q hr))]
  rcases bsN_is (push := pushI v r) (slope := v 10 1) (sil := v 1) (dep := v 0) (k := k) 40 (by omega) with a | ⟨a, b, d, f1, f2, f3⟩
  · rw [e, a] at h; omega
  rw [← e] at a b d f1 f2 f3
  generalize bestR v k r = c at *
  have sc := ho.1.2.1 c h b
  have e1 : buildR v c k = v 1 c := by
    unfold buildR
    rw [if_neg (fun q => q ⟨h, b⟩), if_neg (fun q => q ⟨by omega, hk.2⟩), if_neg (by omega), if_neg (by omega)]
  have e2 : buildV v c k = vset v 1 (fup (v 1) c k) := by
    unfold buildV
    rw [if_pos (by rw [e1]; omega)]
  have st := stI_is (pushI v r) (v 10 1) (v 1) (v 0)
  have hlt : c < stI (pushI v r) (v 10 1) (v 1) (v 0) := by
    rcases Int.lt_or_le c (stI (pushI v r) (v 10 1) (v 1) (v 0)) with z | z
    · exact z
    · have q1 := st.2.2.2 (by omega)
      have q2 := d (stI (pushI v r) (v 10 1) (v 1) (v 0)) (by have := st.1; omega) z
      omega
  refine ⟨⟨b, e1, sc.1, f2⟩, ?_, ?_⟩
  · rw [e2]
    have off2 : ∀ j : Int, 0 ≤ j → j ≤ c → offI (pushI v r) (v 10 1) (fup (v 1) c k) (v 0) j = offI (pushI v r) (v 10 1) (v 1) (v 0) j := fun j j0 j1 => off_same (R := c) (fun i i0 i1 => fup_ne (by omega)) j.toNat (by omega)
    have hs : IsStop (pushI v r) (v 10 1) (fup (v 1) c k) (v 0) c := by
      refine ⟨h, by omega, fun j j0 j1 => ?_, fun _ => ?_⟩
      · rw [fup_ne (by omega), off2 j j0 (by omega)]
        exact d j (by omega) (by omega)
      · rw [fup_eq, off2 c h (by omega)]; exact f1
    have e3 : stI (pushI v r) (v 10 1) (fup (v 1) c k) (v 0) = c := (stI_is _ _ _ _).uniq hs
    show (if ¬ (-30 ≤ r ∧ r ≤ 30) then (-2 : Int) else if stI (pushI v r) (v 10 1) (fup (v 1) c k) (v 0) < 40 then stI (pushI v r) (v 10 1) (fup (v 1) c k) (v 0) else -5) = c
    rw [if_neg (fun q => q hr), e3, if_pos b]
  · unfold stopR
    rw [if_neg (fun q => q hr)]
    by_cases z : stI (pushI v r) (v 10 1) (v 1) (v 0) < 40
    · rw [if_pos z]; exact Or.inr hlt
    · rw [if_neg z]; exact Or.inl rfl
