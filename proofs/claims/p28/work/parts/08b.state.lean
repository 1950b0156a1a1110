/-! a state: v 0 depths, 1 sills, 2 heights, 3 tides with salt water; of the wells 4 cells, 5 rates, 6 salts, 7 rests, 8 drawn, 9 turned; 10 settings; 11: 0 how many wells, 1 flow, 2 tides, 3 farthest -/
abbrev SV : Type := Nat → Int → Int
def vset (v : SV) (i : Nat) (q : Int → Int) : SV := fun j => if j = i then q else v j
theorem fup_eq {q : Int → Int} {x v : Int} : fup q x v x = v := if_pos rfl
theorem fup_ne {q : Int → Int} {x v j : Int} (h : ¬ j = x) : fup q x v j = q j := if_neg h
theorem fup_same {q : Int → Int} {x v : Int} (h : q x = v) : fup q x v = q := by
  funext j
  unfold fup
  by_cases e : j = x
  · rw [if_pos e, e, h]
  · rw [if_neg e]
theorem RG.fup {lo hi n : Int} {q : Int → Int} {x v : Int} (h : RG lo hi n q) (a : lo ≤ v) (b : v ≤ hi) : RG lo hi n (fup q x v) := by
  intro j h0 h1
  unfold _root_.Jvm.Pilot.CSaltWedgeLaw_law_r1546_e26649.fup
  by_cases e : j = x
  · rw [if_pos e]; exact ⟨a, b⟩
  · rw [if_neg e]; exact h j h0 h1
def moveI (q m by' : Int) : Int := if q < m then min m (q + by') else max m (q - by')
def reachN (q : Int → Int) : Nat → Int
  | 0 => -5
  | n + 1 => if 0 < q n then n else reachN q n
def sumN (q : Int → Int) : Nat → Int
  | 0 => 0
  | n + 1 => sumN q n + q n
def wetI (q : Int → Int) (j : Int) : Int := if 0 < q j then 1 else 0
def besN (q : Int → Int) (c : Int) : Nat → Int
  | 0 => -5
  | n + 1 => if q n = c then n else besN q c n
def stN (push slope : Int) (sil dep : Int → Int) : Nat → Int
  | 0 => 40
  | n + 1 => if offI push slope sil dep (39 - n) ≤ sil (39 - n) then 39 - n else stN push slope sil dep n
def bsN (push slope : Int) (sil dep : Int → Int) (k : Int) : Nat → Int
  | 0 => -5
  | n + 1 => if offI push slope sil dep (39 - n) ≤ sil (39 - n) then -5 else if offI push slope sil dep (39 - n) ≤ k ∧ sil (39 - n) < k ∧ k ≤ dep (39 - n) then 39 - n else bsN push slope sil dep k n
theorem stN_is {push slope : Int} {sil dep : Int → Int} : ∀ n : Nat, n ≤ 40 → (40 - (n : Int)) ≤ stN push slope sil dep n ∧ stN push slope sil dep n ≤ 40 ∧ (∀ c : Int, 40 - (n : Int) ≤ c → c < stN push slope sil dep n → sil c < offI push slope sil dep c) ∧ (stN push slope sil dep n < 40 → offI push slope sil dep (stN push slope sil dep n) ≤ sil (stN push slope sil dep n)) := by
  intro n
  induction n with
  | zero => intro _; refine ⟨by simp [stN], by simp [stN], fun c a b => ?_, fun a => ?_⟩ <;> simp [stN] at * <;> omega
  | succ n ih =>
    intro hn
    obtain ⟨a1, a2, a3, a4⟩ := ih (by omega)
    by_cases q : offI push slope sil dep (39 - n) ≤ sil (39 - n)
    · have e : stN push slope sil dep (n + 1) = 39 - n := if_pos q
      rw [e]
      exact ⟨by omega, by omega, fun c x y => by omega, fun _ => q⟩
    · have e : stN push slope sil dep (n + 1) = stN push slope sil dep n := if_neg q
      rw [e]
      refine ⟨by omega, a2, fun c x y => ?_, a4⟩
      by_cases z : c = 39 - n
      · rw [z]; omega
      · exact a3 c (by omega) y
def stI (push slope : Int) (sil dep : Int → Int) : Int := stN push slope sil dep 40
theorem stI_is (push slope : Int) (sil dep : Int → Int) : IsStop push slope sil dep (stI push slope sil dep) := by
  obtain ⟨a, b, c, d⟩ := stN_is (push := push) (slope := slope) (sil := sil) (dep := dep) 40 (by omega)
  exact ⟨by unfold stI; omega, b, fun x y z => c x (by omega) z, d⟩
/-- how a call of a bed answers -/
def digR (v : SV) (c d : Int) : Int := if ¬ (0 ≤ c ∧ c < 40) then -1 else if ¬ (1 ≤ d ∧ d ≤ 60) then -2 else if d < v 2 c ∨ d < v 1 c then -4 else if v 0 c = d then -5 else v 0 c
def buildR (v : SV) (c d : Int) : Int := if ¬ (0 ≤ c ∧ c < 40) then -1 else if ¬ (0 ≤ d ∧ d ≤ 60) then -2 else if v 0 c < d then -4 else if v 1 c = d then -5 else v 1 c
def reasonR (push slope : Int) (sil dep : Int → Int) (c : Int) : Int := if c < stI push slope sil dep then 0 else if push ≤ 0 then 1 else if 0 < offI push slope sil dep (stI push slope sil dep) then 2 else 3
abbrev oWel (b : Nat) (n : Int) : PO := oO 4 [r_ (b + 1), r_ (b + 2), r_ (b + 3), r_ (b + 4), r_ (b + 5), r_ (b + 6), i_ n]
def welF (h : List PO) (b : Nat) (c r s z d t : Int → Int) (n : Int) : Prop := h[b]? = some (oWel b n) ∧ h[b + 1]? = some (oI 6 c) ∧ h[b + 2]? = some (oI 6 r) ∧ h[b + 3]? = some (oI 6 s) ∧ h[b + 4]? = some (oI 6 z) ∧ h[b + 5]? = some (oI 6 d) ∧ h[b + 6]? = some (oI 6 t)
abbrev oSta (k : Nat) (v : SV) : PO := oO 3 [r_ (k + 1), r_ (k + 6), r_ (k + 13), i_ (v 11 1), i_ (v 11 2), i_ (v 11 3)]
def stAt (h : List PO) (k : Nat) (v : SV) : Prop := h[k]? = some (oSta k v) ∧ bedAt h (k + 1) (v 0) (v 1) (v 2) (v 3) ∧ welF h (k + 6) (v 4) (v 5) (v 6) (v 7) (v 8) (v 9) (v 11 0) ∧ h[k + 13]? = some (oI 3 (v 10))
theorem bedAt.fr {h h2 : List PO} {b lo hi : Nat} {d s e w : Int → Int} (a : bedAt h b d s e w) (f : Fr h h2 lo hi) (q : b + 5 ≤ lo ∨ hi ≤ b) : bedAt h2 b d s e w := by
  obtain ⟨a0, a1, a2, a3, a4⟩ := a
  exact ⟨f.at' a0 (by omega), f.at' a1 (by omega), f.at' a2 (by omega), f.at' a3 (by omega), f.at' a4 (by omega)⟩
theorem welF.fr {h h2 : List PO} {b lo hi : Nat} {c r s z d t : Int → Int} {n : Int} (a : welF h b c r s z d t n) (f : Fr h h2 lo hi) (q : b + 7 ≤ lo ∨ hi ≤ b) : welF h2 b c r s z d t n := by
  obtain ⟨a0, a1, a2, a3, a4, a5, a6⟩ := a
  exact ⟨f.at' a0 (by omega), f.at' a1 (by omega), f.at' a2 (by omega), f.at' a3 (by omega), f.at' a4 (by omega), f.at' a5 (by omega), f.at' a6 (by omega)⟩
theorem stAt.fr {h h2 : List PO} {k lo hi : Nat} {v : SV} (a : stAt h k v) (f : Fr h h2 lo hi) (q : k + 14 ≤ lo ∨ hi ≤ k) : stAt h2 k v := by
  obtain ⟨a0, a1, a2, a3⟩ := a
  exact ⟨f.at' a0 (by omega), a1.fr f (by omega), a2.fr f (by omega), f.at' a3 (by omega)⟩
/-- what holds of every state -/
def OK (v : SV) : Prop := (RG 1 60 40 (v 0) ∧ RG 0 60 40 (v 1) ∧ RG 0 60 40 (v 2)) ∧ ((0 ≤ v 10 0 ∧ v 10 0 ≤ 60) ∧ (0 ≤ v 10 1 ∧ v 10 1 ≤ 9) ∧ (1 ≤ v 10 2 ∧ v 10 2 ≤ 60)) ∧ ((0 ≤ v 11 0 ∧ v 11 0 ≤ 6) ∧ (0 ≤ v 11 1 ∧ v 11 1 ≤ 99) ∧ (-5 ≤ v 11 3 ∧ v 11 3 ≤ 39)) ∧
  (RG 0 39 (v 11 0) (v 4) ∧ RG 1 30 (v 11 0) (v 5) ∧ RG 0 300 (v 11 0) (v 6) ∧ RG 0 1 (v 11 0) (v 7)) ∧ (∀ w : Int, 0 ≤ w → w < v 11 0 → v 7 w = 0 → v 6 w ≤ 49) ∧ (∀ w u : Int, 0 ≤ w → w < v 11 0 → 0 ≤ u → u < v 11 0 → v 4 w = v 4 u → w = u)
theorem G_norm {f : Nat} {cc : ByteArray} {own : String} {nL : Nat} {rt : Option FieldType} {h : List PO} {pc : Nat} {lv : List (Option PV)} {st : List PV} {post : Option PV → List PO → Prop} {a n : Nat} {q1 : Int → Int} (q2 : Int → Int) (ha : h[a]? = some (oI n q1)) (hq : ∀ j : Int, 0 ≤ j → j < n → q1 j = q2 j) (k : G f cc own nL rt (h.set a (oI n q2)) pc lv st post) : G f cc own nL rt h pc lv st post := by
  have e : h = h.set a (oI n q1) := by
    apply List.ext_getElem?
    intro j
    by_cases z : a = j
    · subst z
      rw [set_at ha, ha]
    · rw [List.getElem?_set_ne z]
  rw [e]
  have k2 : G f cc own nL rt (h.set a (oI n q2)) pc lv st post := k
  exact G_ext hq k2
theorem bedAt.set1 {h : List PO} {b : Nat} {d s e w : Int → Int} (a : bedAt h b d s e w) (q : Int → Int) : bedAt (h.set (b + 1) (oI 40 q)) b q s e w := by
  obtain ⟨a0, a1, a2, a3, a4⟩ := a
  exact ⟨set_off a0 (by omega), set_at a1, set_off a2 (by omega), set_off a3 (by omega), set_off a4 (by omega)⟩
theorem bedAt.set2 {h : List PO} {b : Nat} {d s e w : Int → Int} (a : bedAt h b d s e w) (q : Int → Int) : bedAt (h.set (b + 2) (oI 40 q)) b d q e w := by
  obtain ⟨a0, a1, a2, a3, a4⟩ := a
  exact ⟨set_off a0 (by omega), set_off a1 (by omega), set_at a2, set_off a3 (by omega), set_off a4 (by omega)⟩
theorem bedAt.set3 {h : List PO} {b : Nat} {d s e w : Int → Int} (a : bedAt h b d s e w) (q : Int → Int) : bedAt (h.set (b + 3) (oI 40 q)) b d s q w := by
  obtain ⟨a0, a1, a2, a3, a4⟩ := a
  exact ⟨set_off a0 (by omega), set_off a1 (by omega), set_off a2 (by omega), set_at a3, set_off a4 (by omega)⟩
theorem bedAt.set4 {h : List PO} {b : Nat} {d s e w : Int → Int} (a : bedAt h b d s e w) (q : Int → Int) : bedAt (h.set (b + 4) (oI 40 q)) b d s e q := by
  obtain ⟨a0, a1, a2, a3, a4⟩ := a
  exact ⟨set_off a0 (by omega), set_off a1 (by omega), set_off a2 (by omega), set_off a3 (by omega), set_at a4⟩
theorem welF.set0 {h : List PO} {b : Nat} {c r s z d t : Int → Int} {n : Int} (a : welF h b c r s z d t n) (q : Int) : welF (h.set b (oWel b q)) b c r s z d t q := by
  obtain ⟨a0, a1, a2, a3, a4, a5, a6⟩ := a
  exact ⟨set_at a0, set_off a1 (by omega), set_off a2 (by omega), set_off a3 (by omega), set_off a4 (by omega), set_off a5 (by omega), set_off a6 (by omega)⟩
theorem welF.set1 {h : List PO} {b : Nat} {c r s z d t : Int → Int} {n : Int} (a : welF h b c r s z d t n) (q : Int → Int) : welF (h.set (b + 1) (oI 6 q)) b q r s z d t n := by
  obtain ⟨a0, a1, a2, a3, a4, a5, a6⟩ := a
  exact ⟨set_off a0 (by omega), set_at a1, set_off a2 (by omega), set_off a3 (by omega), set_off a4 (by omega), set_off a5 (by omega), set_off a6 (by omega)⟩
theorem welF.set2 {h : List PO} {b : Nat} {c r s z d t : Int → Int} {n : Int} (a : welF h b c r s z d t n) (q : Int → Int) : welF (h.set (b + 2) (oI 6 q)) b c q s z d t n := by
  obtain ⟨a0, a1, a2, a3, a4, a5, a6⟩ := a
  exact ⟨set_off a0 (by omega), set_off a1 (by omega), set_at a2, set_off a3 (by omega), set_off a4 (by omega), set_off a5 (by omega), set_off a6 (by omega)⟩
theorem welF.set3 {h : List PO} {b : Nat} {c r s z d t : Int → Int} {n : Int} (a : welF h b c r s z d t n) (q : Int → Int) : welF (h.set (b + 3) (oI 6 q)) b c r q z d t n := by
  obtain ⟨a0, a1, a2, a3, a4, a5, a6⟩ := a
  exact ⟨set_off a0 (by omega), set_off a1 (by omega), set_off a2 (by omega), set_at a3, set_off a4 (by omega), set_off a5 (by omega), set_off a6 (by omega)⟩
theorem welF.set4 {h : List PO} {b : Nat} {c r s z d t : Int → Int} {n : Int} (a : welF h b c r s z d t n) (q : Int → Int) : welF (h.set (b + 4) (oI 6 q)) b c r s q d t n := by
  obtain ⟨a0, a1, a2, a3, a4, a5, a6⟩ := a
  exact ⟨set_off a0 (by omega), set_off a1 (by omega), set_off a2 (by omega), set_off a3 (by omega), set_at a4, set_off a5 (by omega), set_off a6 (by omega)⟩
theorem welF.set5 {h : List PO} {b : Nat} {c r s z d t : Int → Int} {n : Int} (a : welF h b c r s z d t n) (q : Int → Int) : welF (h.set (b + 5) (oI 6 q)) b c r s z q t n := by
  obtain ⟨a0, a1, a2, a3, a4, a5, a6⟩ := a
  exact ⟨set_off a0 (by omega), set_off a1 (by omega), set_off a2 (by omega), set_off a3 (by omega), set_off a4 (by omega), set_at a5, set_off a6 (by omega)⟩
theorem welF.set6 {h : List PO} {b : Nat} {c r s z d t : Int → Int} {n : Int} (a : welF h b c r s z d t n) (q : Int → Int) : welF (h.set (b + 6) (oI 6 q)) b c r s z d q n := by
  obtain ⟨a0, a1, a2, a3, a4, a5, a6⟩ := a
  exact ⟨set_off a0 (by omega), set_off a1 (by omega), set_off a2 (by omega), set_off a3 (by omega), set_off a4 (by omega), set_off a5 (by omega), set_at a6⟩
theorem set_same {h : List PO} {i : Nat} {o : PO} (e : h[i]? = some o) : h.set i o = h := by
  apply List.ext_getElem?
  intro j
  by_cases z : i = j
  · subst z
    rw [set_at e, e]
  · rw [List.getElem?_set_ne z]
