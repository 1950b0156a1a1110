/-! THE PURE HEAP: cells at indices 0, 1, .., ints as Int; 'g' names the addresses, the classes, the statics. -/
abbrev PV : Type := Int ⊕ Option Nat
abbrev i_ (x : Int) : PV := .inl x
abbrev r_ (k : Nat) : PV := .inr (some k)
abbrev n_ : PV := .inr none
abbrev PO : Type := (Bool × Nat × (Int → Int)) ⊕ ((Nat × (Int → Option Nat)) ⊕ (Nat × List PV))
abbrev oI (n : Nat) (f : Int → Int) : PO := .inl (false, n, f)
abbrev oC (n : Nat) (f : Int → Int) : PO := .inl (true, n, f)
abbrev oQ (n : Nat) (f : Int → Option Nat) : PO := .inr (.inl (n, f))
abbrev oR (n : Nat) (f : Int → Nat) : PO := oQ n (fun k => some (f k))
abbrev oO (ci : Nat) (fs : List PV) : PO := .inr (.inr (ci, fs))
def I (x : Int) : Int32 := Int32.ofInt x
def inR (x : Int) : Prop := -2147483648 ≤ x ∧ x ≤ 2147483647
theorem inR_of {x : Int} (a : -2147483648 ≤ x) (b : x ≤ 2147483647) : inR x := ⟨a, b⟩
theorem inR_I (x : Int32) : inR x.toInt := by
  have a := Int32.le_toInt x
  have b := Int32.toInt_lt x
  constructor <;> omega
theorem I_toInt' (x : Int32) : I x.toInt = x := Int32.ofInt_toInt x
theorem I_toInt {x : Int} (h : inR x) : (I x).toInt = x := Int32.toInt_ofInt_of_le (by have := h.1; omega) (by have := h.2; omega)
theorem I_add (x y : Int) : I x + I y = I (x + y) := (Int32.ofInt_add x y).symm
theorem I_sub (x y : Int) : I x - I y = I (x - y) := (Int32.ofInt_sub x y).symm
theorem I_mul (x y : Int) : I x * I y = I (x * y) := (Int32.ofInt_mul x y).symm
theorem I_neg (x : Int) : - I x = I (-x) := (Int32.ofInt_neg x).symm
theorem I_lt {x y : Int} (hx : inR x) (hy : inR y) : I x < I y ↔ x < y := by rw [Int32.lt_iff_toInt_lt, I_toInt hx, I_toInt hy]
theorem I_le {x y : Int} (hx : inR x) (hy : inR y) : I x ≤ I y ↔ x ≤ y := by rw [Int32.le_iff_toInt_le, I_toInt hx, I_toInt hy]
theorem I_eq {x y : Int} (hx : inR x) (hy : inR y) : I x = I y ↔ x = y := by rw [← Int32.toInt_inj, I_toInt hx, I_toInt hy]
theorem I_0 : I 0 = 0 := rfl
theorem inR_0 : inR 0 := ⟨by decide, by decide⟩
theorem I_lt0 {x : Int} (hx : inR x) : I x < 0 ↔ x < 0 := I_lt hx inR_0
theorem I_le0 {x : Int} (hx : inR x) : I x ≤ 0 ↔ x ≤ 0 := I_le hx inR_0
theorem I_ge0 {x : Int} (hx : inR x) : 0 ≤ I x ↔ 0 ≤ x := I_le inR_0 hx
theorem I_gt0 {x : Int} (hx : inR x) : 0 < I x ↔ 0 < x := I_lt inR_0 hx
theorem I_eq0 {x : Int} (hx : inR x) : I x = 0 ↔ x = 0 := I_eq hx inR_0
theorem I_clamp {x : Int} (h : inR x) : (I x).toNatClampNeg = x.toNat := Int32.toNatClampNeg_ofInt_of_le (by have := h.1; omega) (by have := h.2; omega)
theorem I_in {x : Int} {n : Nat} (h0 : 0 ≤ x) (h1 : x < n) (hn : n ≤ 2147483647) : vp_in (I x) n := by
  have h : inR x := ⟨by omega, by omega⟩
  rw [vp_in_iff, I_toInt h]
  exact ⟨h0, h1⟩
/-- addresses and classes: the classes' slots, the three array classes, the addresses, the bound of the old heap, the two statics -/
abbrev GP : Type := va_G × (ClassId × ClassId × ClassId) × (Nat → Nat) × Nat
abbrev gD (g : GP) : va_G := g.1
abbrev gI (g : GP) : ClassId := g.2.1.1
abbrev gC (g : GP) : ClassId := g.2.1.2.1
abbrev gS (g : GP) : ClassId := g.2.1.2.2
abbrev gad (g : GP) : Nat → Nat := g.2.2.1
abbrev gK (g : GP) : Nat := g.2.2.2
abbrev gA (g : GP) : Nat → Prop := fun q => gK g ≤ q
abbrev gT (g : GP) : List (ClassId × FieldType) := [(gI g, .int), (gC g, .char), (gS g, .object RX3)]
def tr (g : GP) : PV → Value
  | .inl x => .int (I x)
  | .inr none => .null
  | .inr (some k) => .ref (gad g k)
def trO (g : GP) : PO → va_E
  | .inl (b, n, f) => .inl (if b then gC g else gI g, n, .inl (fun k => I (f (k : Int))))
  | .inr (.inl (n, f)) => .inl (gS g, n, .inr (.inr (.inr (.inr (fun k => (f (k : Int)).map (gad g))))))
  | .inr (.inr (ci, fs)) => .inr (ci, fs.map (tr g))
def wld (g : GP) (h : List PO) : va_W := h.mapIdx (fun i o => (gad g i, trO g o))
theorem wld_get {g : GP} {h : List PO} {i : Nat} {o : PO} (e : h[i]? = some o) : (wld g h)[i]? = some (gad g i, trO g o) := by
  simp [wld, List.getElem?_mapIdx, e]
theorem wld_set (g : GP) (h : List PO) (i : Nat) (o : PO) : wld g (h.set i o) = (wld g h).set i (gad g i, trO g o) := by
  simp [wld, List.mapIdx_set]
theorem tr_cat (g : GP) (v : PV) : (tr g v).category = 1 := by
  rcases v with x | _ | k <;> rfl
theorem tr_sum (g : GP) (st : List PV) : ((st.map (tr g)).map fun v => v.category).sum = st.length := by
  induction st with
  | nil => rfl
  | cons v t ih =>
    simp only [List.map_cons, List.sum_cons, tr_cat, List.length_cons]
    rw [ih]; omega
def fup (f : Int → Int) (x v : Int) : Int → Int := fun j => if j = x then v else f j
/-- locals -/
def lvl (g : GP) : Nat → List (Option PV) → List (Nat × Value)
  | _, [] => []
  | n, none :: t => lvl g (n + 1) t
  | n, some v :: t => (n, tr g v) :: lvl g (n + 1) t
theorem lvl_mem {g : GP} {lv : List (Option PV)} {n : Nat} {q : Nat × Value} : q ∈ lvl g n lv ↔ ∃ i v, lv[i]? = some (some v) ∧ q = (n + i, tr g v) := by
  induction lv generalizing n with
  | nil => simp [lvl]
  | cons x t ih =>
    cases x with
    | none =>
      simp only [lvl]
      rw [ih]
      constructor
      · rintro ⟨i, v, a, b⟩
        exact ⟨i + 1, v, by simpa using a, by rw [b]; congr 1; omega⟩
      · rintro ⟨i, v, a, b⟩
        cases i with
        | zero => simp at a
        | succ i => exact ⟨i, v, by simpa using a, by rw [b]; congr 1; omega⟩
    | some w =>
      simp only [lvl, List.mem_cons]
      rw [ih]
      constructor
      · rintro (a | ⟨i, v, a, b⟩)
        · exact ⟨0, w, by simp, by simpa using a⟩
        · exact ⟨i + 1, v, by simpa using a, by rw [b]; congr 1; omega⟩
      · rintro ⟨i, v, a, b⟩
        cases i with
        | zero =>
          left
          simp at a
          subst a
          simpa using b
        | succ i => exact Or.inr ⟨i, v, by simpa using a, by rw [b]; congr 1; omega⟩
def lvh (g : GP) (ls : Array Slot) (nL : Nat) (lv : List (Option PV)) : Prop := lv_has ls nL (lvl g 0 lv)
theorem lvh_at {g : GP} {ls : Array Slot} {nL : Nat} {lv : List (Option PV)} (h : lvh g ls nL lv) {i : Nat} {v : PV} (e : lv[i]? = some (some v)) : ls[i]? = some (.val (tr g v)) :=
  h.2.2 (i, tr g v) (lvl_mem.mpr ⟨i, v, e, by simp⟩)
theorem lvh_set {g : GP} {ls' : Array Slot} {nL : Nat} {lv : List (Option PV)} {i : Nat} {v : PV} (h : lv_has ls' nL ((i, tr g v) :: (lvl g 0 lv).filter (fun q => !(q.1 == i) && !(q.1 + 1 == i && q.2.category == 2)))) : lvh g ls' nL (lv.set i (some v)) := by
  refine ⟨h.1, h.2.1, fun q hq => ?_⟩
  obtain ⟨j, w, a, rfl⟩ := lvl_mem.mp hq
  rw [Nat.zero_add]
  by_cases e : i = j
  · subst e
    rw [List.getElem?_set] at a
    simp at a
    obtain ⟨-, rfl⟩ := a
    exact h.2.2 _ List.mem_cons_self
  · rw [List.getElem?_set_ne e] at a
    refine h.2.2 (j, tr g w) (List.mem_cons_of_mem _ (List.mem_filter.mpr ⟨lvl_mem.mpr ⟨j, w, a, by simp⟩, ?_⟩))
    simp [tr_cat, Ne.symm e]
theorem lvh_none {g : GP} {ls : Array Slot} {nL : Nat} {lv : List (Option PV)} (i : Nat) (h : lvh g ls nL lv) : lvh g ls nL (lv.set i none) := by
  refine ⟨h.1, h.2.1, fun q hq => ?_⟩
  obtain ⟨j, w, a, rfl⟩ := lvl_mem.mp hq
  rw [Nat.zero_add]
  by_cases e : i = j
  · subst e
    rw [List.getElem?_set] at a
    simp at a
  · rw [List.getElem?_set_ne e] at a
    exact lvh_at h a
/-- the good words of the tables -/
def GW : List Cond := lw_tbl.filter goodWord
theorem gw_of {w : Cond} (h : w ∈ lw_tbl) (g : goodWord w = true) : w ∈ GW := List.mem_filter.mpr ⟨h, g⟩
theorem gw_good {w : Cond} (h : w ∈ GW) : (w.onTables && w.keeps) = true ∨ ∃ ty, w = .arrayClass ty := good_of_word (List.mem_filter.mp h).2
theorem gw_in {ws : List Cond} (h : ∀ w ∈ ws, w ∈ GW) : GoodIn GW ws := fun w hw => ⟨h w hw, gw_good (h w hw)⟩
theorem gw_at (i : Nat) {w : Cond} (h : lw_tbl[i]? = some w) (g : goodWord w = true) : w ∈ GW := gw_of (List.mem_of_getElem? h) g
abbrev host5 : String := "SaltWedge"
abbrev rZl : Nat := 1000000
abbrev rZm : Nat := 1000001
abbrev rZs : Nat := 1000002
def leastF (k : Int) : Int := if k = 2 then 1 else 0
def mostF (k : Int) : Int := if k = 1 then 9 else 60
/-- what a method may take from its surroundings: the tables' classes, the nest mates' links, the two static rows -/
def Env (g : GP) (U : State) : Prop :=
  va_K (gD g) vwCl (gT g) U ∧
  (va_Nw (.methodLinkNest RX0 36 yX5_isCell host5) U ∧ va_Nw (.methodLinkNest RX4 44 yX5_isCell host5) U ∧ va_Nw (.methodLinkNest RX3 62 yX5_isRise host5) U ∧ va_Nw (.fieldLinkNest RX3 52 "SaltWedge" "LEAST_SETTINGS" "[I" host5) U ∧ va_Nw (.fieldLinkNest RX3 55 "SaltWedge" "MOST_SETTINGS" "[I" host5) U) ∧
  (va_Z "SaltWedge" "LEAST_SETTINGS" "[I" (.ref (gad g rZl)) (gA g) U U.heap ∧ va_Z "SaltWedge" "MOST_SETTINGS" "[I" (.ref (gad g rZm)) (gA g) U U.heap) ∧
  va_T .int (gad g rZl) 3 (fun k => .int (I (leastF (k : Int)))) (gA g) U U.heap ∧ va_T .int (gad g rZm) 3 (fun k => .int (I (mostF (k : Int)))) (gA g) U U.heap ∧ ¬ gA g (gad g rZl) ∧ ¬ gA g (gad g rZm) ∧ ∃ (L : Nat) (xs : Nat → Int32), L ≤ 260 ∧ va_T .int (gad g rZs) L (fun k => .int (xs k)) (gA g) U U.heap
theorem Env.blind {g : GP} {U : State} (f : JFrame) (mk : MethodId) (a : Array Value) (h : Env g U) : Env g (U.calling f mk a) := by
  obtain ⟨h1, ⟨n1, n2, n3, n4, n5⟩, ⟨z1, z2⟩, y1, y2, x1, x2, LX, xs, hLX, sX⟩ := h
  have al : U.vm.Alike (U.calling f mk a).vm := Vm.Alike.refl U.vm
  exact ⟨va_K.moved (u := U) al h1, ⟨n1.same rfl rfl, n2.same rfl rfl, n3.same rfl rfl, n4.same rfl rfl, n5.same rfl rfl⟩, ⟨va_Z.moved (u := U) al z1, va_Z.moved (u := U) al z2⟩, va_T.moved (u := U) (U := U.calling f mk a) al y1, va_T.moved (u := U) (U := U.calling f mk a) al y2, x1, x2, LX, xs, hLX, va_T.moved (u := U) (U := U.calling f mk a) al sX⟩
theorem Env.go {g : GP} {s U : State} {locs : List Loc} {H : Heap} (h : Env g s) (hW : s.WarmedH U.vm) (hH : U.heap = H) (hS : va_S (gA g) s.heap H locs) : Env g U := by
  obtain ⟨h1, ⟨n1, n2, n3, n4, n5⟩, ⟨z1, z2⟩, y1, y2, x1, x2, LX, xs, hLX, sX⟩ := h
  subst hH
  have kp : ∀ a : Nat, a < s.heap.size → ¬ gA g a → U.heap[a]? = s.heap[a]? := hS.2.1
  exact ⟨va_K.moved hW.alike h1, ⟨n1.warmM hW, n2.warmM hW, n3.warmM hW, n4.warmF hW, n5.warmF hW⟩, ⟨(z1.kept kp).moved hW.alike, (z2.kept kp).moved hW.alike⟩, va_T.moved hW.alike (y1.kept kp), va_T.moved hW.alike (y2.kept kp), x1, x2, LX, xs, hLX, va_T.moved hW.alike (sX.kept kp)⟩
/-- a method's room by the depth of its calls -/
abbrev rm (f : Nat) : Room := { frames := f, cells := 0, slots := 0, locals := 33 * f }
def In (g : GP) (h : List PO) (U : State) : Prop := gK g ≤ U.heap.size ∧ va_P (gD g) vwCl (wld g h) U.heap ∧ va_D (gA g) (wld g h) ∧ Env g U
def Out (g : GP) (post : Option PV → List PO → Prop) (oc : Outcome) (t : State) : Prop := ∃ r h', oc = .returned (r.map (tr g)) ∧ post r h' ∧ va_P (gD g) vwCl (wld g h') t.heap ∧ va_D (gA g) (wld g h')
abbrev Pcg (g : GP) (h : List PO) (args : List PV) : Array Value → State → Prop := fun v U => v = (args.map (tr g)).toArray ∧ In g h U
abbrev Qcg (g : GP) (post : Option PV → List PO → Prop) : Array Value → State → Outcome → State → Prop := fun _ st oc t => Out g post oc t ∧ va_F (gA g) st t
/-- A METHOD'S CONTRACT over the pure heap: called at h with args it comes back with 'post' -/
def PM (f : Nat) (y : MethodName) (cc : ByteArray) (nL : Nat) (rt : Option FieldType) (h : List PO) (args : List PV) (post : Option PV → List PO → Prop) : Prop :=
  ∀ (l : Launch) (g : GP), Met l y (.code y cc nL rt :: GW) (rm f) (Pcg g h args) (Qcg g post) 0 0 (gA g)
def Mx (p : Program) (s : State) (m : MethodId) (args : Array Value) (meth : Method) (c : Code) (cc : ByteArray) (own : String) (nL : Nat) (rt : Option FieldType) : Prop :=
  p.tables.exec = Jvm.exec ∧ c.code = cc ∧ c.maxLocals = nL ∧ s.vm.findClass own = some m.cls ∧ (∀ w ∈ GW, w.before args s = true) ∧ meth.sig.returnType = rt ∧ meth.locks = false
/-- THE WALK: from this point of the method's code, the call comes to its end with 'post' -/
def G (f : Nat) (cc : ByteArray) (own : String) (nL : Nat) (rt : Option FieldType) (h : List PO) (pc : Nat) (lv : List (Option PV)) (st : List PV) (post : Option PV → List PO → Prop) : Prop :=
  ∀ (g : GP) (p : Program) (l : Launch) (e : Jvm.Env) (s : State) (m : MethodId) (args : Array Value) (below : List Frame) (meth : Method) (c : Code) (H : Heap) (locs : List Loc) (ls : Array Slot),
    Mx p s m args meth c cc own nL rt → Env g s → gK g ≤ s.heap.size → va_P (gD g) vwCl (wld g h) H → va_D (gA g) (wld g h) → va_S (gA g) s.heap H locs → lvh g ls nL lv →
    W p l e (rm f) s m args below meth c H locs 0 0 (MQ below (Qcg g post) args s 0 0 (gA g)) (F0 m pc ls (st.map (tr g)))
theorem lv_args_lvl (g : GP) (args : List PV) : ∀ (n k : Nat), lv_args n (args.map (tr g)) = lvl g n (args.map some ++ List.replicate k none) := by
  induction args with
  | nil =>
    intro n k
    induction k generalizing n with
    | zero => rfl
    | succ k ih =>
      have := ih (n + 1)
      simp only [List.map_nil, List.nil_append, lv_args] at this ⊢
      simp only [List.replicate_succ, lvl]
      exact this
  | cons v t ih =>
    intro n k
    simp only [List.map_cons, lv_args, tr_cat, List.cons_append, lvl]
    rw [← ih (n + 1) k]
    simp
theorem lg_sl_len (g : GP) (args : List PV) : (lg_sl (args.map (tr g))).length = args.length := by
  induction args with
  | nil => rfl
  | cons v t ih =>
    have e : lg_sl ((v :: t).map (tr g)) = [Slot.val (tr g v)] ++ lg_sl (t.map (tr g)) := by
      simp [lg_sl, tr_cat]
    rw [e]
    simp [ih]
theorem PM_of_G {f : Nat} {y : MethodName} {cc : ByteArray} {nL : Nat} {rt : Option FieldType} {h : List PO} {args : List PV} {post : Option PV → List PO → Prop} (own : String) (lv : List (Option PV))
    (ho : y.cls = own) (hy : plainName y.cls = true) (hn : args.length ≤ nL) (hlv : args.map some ++ List.replicate (nL - args.length) none = lv)
    (k : G f cc own nL rt h 0 lv [] post) : PM f y cc nL rt h args post := by
  intro l g
  refine Met.ofW (cc := cc) (maxL := nL) (ret := rt) hy rfl ?_
  intro p e s m a below meth c s₁ B hml hv
  obtain ⟨rfl, hK, hP, hD, hE⟩ := hv
  have hts := atoms_spec (ws := .code y cc nL rt :: GW) B.pre
  have hown : s.vm.findClass own = some m.cls := by rw [← ho]; exact findClass_of_methodNamed B.named
  have hl := lv_entry (args.map (tr g)) (n := nL) (by rw [lg_sl_len]; exact hn)
  rw [lg_entry_eq]
  rw [lv_args_lvl g args 0 (nL - args.length), hlv] at hl
  exact k g p l e s m _ below meth c s.heap [] _ ⟨B.exec, B.bytes, hml, hown, fun w hw => hts w (List.mem_cons_of_mem _ hw), B.returns, B.notSynchronized⟩ hE hK hP hD va_S.rf hl
