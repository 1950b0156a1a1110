/-! what a state is, and what is told of it, in Int -/
def RG (lo hi : Int) (n : Int) (q : Int → Int) : Prop := ∀ j : Int, 0 ≤ j → j < n → lo ≤ q j ∧ q j ≤ hi
theorem G_ialdR {f : Nat} {cc : ByteArray} {own : String} {nL : Nat} {rt : Option FieldType} {h : List PO} {pc : Nat} {lv : List (Option PV)} {st : List PV} {post : Option PV → List PO → Prop} {a n : Nat} {q : Int → Int} {x lo hi : Int} (hd : decode cc pc = .ok (.iaload, 1)) (ha : h[a]? = some (oI n q)) (hr : RG lo hi n q) (h0 : 0 ≤ x) (h1 : x < n) (hn : n ≤ 2147483647) (kk : lo ≤ q x → q x ≤ hi → G f cc own nL rt h (pc + 1) lv (i_ (q x) :: st) post) : G f cc own nL rt h pc lv (i_ x :: r_ a :: st) post :=
  G_iald hd ha h0 h1 hn (kk (hr x h0 h1).1 (hr x h0 h1).2)
abbrev oBed (b : Nat) : PO := oO 0 [r_ (b + 1), r_ (b + 2), r_ (b + 3), r_ (b + 4)]
def bedAt (h : List PO) (b : Nat) (dep sil hei wet : Int → Int) : Prop := h[b]? = some (oBed b) ∧ h[b + 1]? = some (oI 40 dep) ∧ h[b + 2]? = some (oI 40 sil) ∧ h[b + 3]? = some (oI 40 hei) ∧ h[b + 4]? = some (oI 40 wet)
/-- nothing but the cells from lo on, before hi, may differ -/
def Fr (h h2 : List PO) (lo hi : Nat) : Prop := h2.length = h.length ∧ ∀ j : Nat, j < lo ∨ hi ≤ j → h2[j]? = h[j]?
theorem Fr.rf {h : List PO} {lo hi : Nat} : Fr h h lo hi := ⟨rfl, fun _ _ => rfl⟩
theorem Fr.tr {h h1 h2 : List PO} {lo hi : Nat} (a : Fr h h1 lo hi) (b : Fr h1 h2 lo hi) : Fr h h2 lo hi := ⟨b.1.trans a.1, fun j q => (b.2 j q).trans (a.2 j q)⟩
theorem Fr.wide {h h2 : List PO} {lo hi lo2 hi2 : Nat} (a : Fr h h2 lo hi) (q1 : lo2 ≤ lo) (q2 : hi ≤ hi2) : Fr h h2 lo2 hi2 := ⟨a.1, fun j q => a.2 j (by omega)⟩
theorem Fr.set {h : List PO} {lo hi i : Nat} {o : PO} (a : lo ≤ i) (b : i < hi) : Fr h (h.set i o) lo hi := ⟨by simp, fun j q => List.getElem?_set_ne (by omega)⟩
theorem Fr.at' {h h2 : List PO} {lo hi j : Nat} {o : PO} (a : Fr h h2 lo hi) (e : h[j]? = some o) (q : j < lo ∨ hi ≤ j) : h2[j]? = some o := (a.2 j q).trans e
theorem set_at {h : List PO} {i : Nat} {o o2 : PO} (e : h[i]? = some o2) : (h.set i o)[i]? = some o := by
  rw [List.getElem?_set_self (List.getElem?_eq_some_iff.mp e).1]
theorem set_off {h : List PO} {i j : Nat} {o o2 : PO} (e : h[j]? = some o2) (q : i ≠ j) : (h.set i o)[j]? = some o2 := by
  rw [List.getElem?_set_ne q]; exact e
/-- marks: what is offered to a cell, and its mark -/
def mkf (o s d : Int) : Int := if o ≤ s then 0 else min o d
def off (push slope : Int) (sil dep : Int → Int) : Nat → Int
  | 0 => push
  | n + 1 => mkf (off push slope sil dep n) (sil n) (dep n) - slope
def offI (push slope : Int) (sil dep : Int → Int) (c : Int) : Int := off push slope sil dep c.toNat
def mkI (push slope : Int) (sil dep : Int → Int) (c : Int) : Int := mkf (offI push slope sil dep c) (sil c) (dep c)
theorem offI_0 (push slope : Int) (sil dep : Int → Int) : offI push slope sil dep 0 = push := rfl
theorem offI_s (push slope : Int) (sil dep : Int → Int) {c : Int} (h : 0 ≤ c) : offI push slope sil dep (c + 1) = mkI push slope sil dep c - slope := by
  have e : (c + 1).toNat = c.toNat + 1 := by omega
  have e2 : ((c.toNat : Nat) : Int) = c := by omega
  unfold offI mkI offI
  rw [e]
  show mkf _ (sil ((c.toNat : Nat) : Int)) (dep ((c.toNat : Nat) : Int)) - slope = _
  rw [e2]
theorem mkf_le {o s d : Int} (hs : o ≤ s) : mkf o s d = 0 := if_pos hs
theorem mkf_gt {o s d : Int} (hs : s < o) : mkf o s d = min o d := if_neg (by omega)
theorem mkf_rng {o s d : Int} (hs : 0 ≤ s) (hd : 1 ≤ d) : 0 ≤ mkf o s d ∧ mkf o s d ≤ d := by
  unfold mkf
  by_cases q : o ≤ s
  · rw [if_pos q]; omega
  · rw [if_neg q]; omega
theorem mkf_0 {o s d : Int} (hs : 0 ≤ s) (hd : 1 ≤ d) : mkf o s d = 0 ↔ o ≤ s := by
  unfold mkf
  by_cases q : o ≤ s
  · rw [if_pos q]; omega
  · rw [if_neg q]; omega
theorem offI_rng {push slope : Int} {sil dep : Int → Int} (hp : -200 ≤ push ∧ push ≤ 200) (hl : 0 ≤ slope ∧ slope ≤ 9) (hs : RG 0 60 40 sil) (hd : RG 1 60 40 dep) (c : Int) (h0 : 0 ≤ c) (h1 : c ≤ 40) : -200 ≤ offI push slope sil dep c ∧ offI push slope sil dep c ≤ 200 := by
  rcases Int.le_iff_lt_or_eq.mp h0 with q | q
  · have e : c = (c - 1) + 1 := by omega
    rw [e, offI_s _ _ _ _ (by omega)]
    have a := hs (c - 1) (by omega) (by omega)
    have b := hd (c - 1) (by omega) (by omega)
    have m := mkf_rng (o := offI push slope sil dep (c - 1)) a.1 b.1
    unfold mkI
    omega
  · subst q
    rw [offI_0]; omega
/-- the stop: the lowest cell whose offer is not above its sill; 40 without one -/
def IsStop (push slope : Int) (sil dep : Int → Int) (t : Int) : Prop := 0 ≤ t ∧ t ≤ 40 ∧ (∀ c, 0 ≤ c → c < t → sil c < offI push slope sil dep c) ∧ (t < 40 → offI push slope sil dep t ≤ sil t)
theorem IsStop.uniq {push slope : Int} {sil dep : Int → Int} {t u : Int} (a : IsStop push slope sil dep t) (b : IsStop push slope sil dep u) : t = u := by
  rcases Int.lt_trichotomy t u with q | q | q
  · have x := a.2.2.2 (by have := b.2.1; omega)
    have y := b.2.2.1 t a.1 q
    omega
  · exact q
  · have x := b.2.2.2 (by have := a.2.1; omega)
    have y := a.2.2.1 u b.1 q
    omega
/-- behind the stop nothing is offered above 0 -/
theorem off_dead {push slope : Int} {sil dep : Int → Int} (hl : 0 ≤ slope) (hs : RG 0 60 40 sil) {t : Int} (h0 : 0 ≤ t) (h : offI push slope sil dep t ≤ sil t) : ∀ n : Nat, t + n < 40 → offI push slope sil dep (t + n) ≤ sil (t + n) := by
  intro n
  induction n with
  | zero => intro _; simpa using h
  | succ n ih =>
    intro q
    have a := ih (by omega)
    have e : t + ((n + 1 : Nat) : Int) = (t + n) + 1 := by omega
    rw [e, offI_s _ _ _ _ (by omega)]
    unfold mkI
    rw [mkf_le a]
    have b := hs (t + n + 1) (by omega) (by omega)
    omega
theorem mk_dead {push slope : Int} {sil dep : Int → Int} (hl : 0 ≤ slope) (hs : RG 0 60 40 sil) {t c : Int} (h0 : 0 ≤ t) (h : offI push slope sil dep t ≤ sil t) (hc : t ≤ c) (h40 : c < 40) : mkI push slope sil dep c = 0 := by
  have e : c = t + ((c - t).toNat : Nat) := by omega
  have a := off_dead hl hs h0 h (c - t).toNat (by omega)
  rw [← e] at a
  exact mkf_le a
theorem mk_live {push slope : Int} {sil dep : Int → Int} (hs : RG 0 60 40 sil) (hd : RG 1 60 40 dep) {t c : Int} (h : IsStop push slope sil dep t) (h0 : 0 ≤ c) (hc : c < t) : 1 ≤ mkI push slope sil dep c := by
  have a := h.2.2.1 c h0 hc
  have b := hs c h0 (by have := h.2.1; omega)
  have d := hd c h0 (by have := h.2.1; omega)
  unfold mkI
  rw [mkf_gt a]; omega
theorem mk_iff {push slope : Int} {sil dep : Int → Int} (hl : 0 ≤ slope) (hs : RG 0 60 40 sil) (hd : RG 1 60 40 dep) {t c : Int} (h : IsStop push slope sil dep t) (h0 : 0 ≤ c) (h40 : c < 40) : mkI push slope sil dep c = 0 ↔ t ≤ c := by
  constructor
  · intro q
    rcases Int.lt_or_le c t with z | z
    · have := mk_live hs hd h h0 z
      omega
    · exact z
  · intro q
    exact mk_dead hl hs h.1 (h.2.2.2 (by omega)) q h40
