/-! longs: the walk of the law's methods; locals and stack may hold longs; the heap changes by calls alone -/
abbrev PW : Type := PV ⊕ Int64
abbrev w_ (x : Int) : PW := .inl (i_ x)
abbrev p_ (k : Nat) : PW := .inl (r_ k)
abbrev l_ (x : Int64) : PW := .inr x
def tw (g : GP) : PW → Value
  | .inl v => tr g v
  | .inr x => .long x
def ctw : PW → Nat
  | .inl _ => 1
  | .inr _ => 2
theorem tw_cat (g : GP) (v : PW) : (tw g v).category = ctw v := by
  rcases v with v | x
  · exact tr_cat g v
  · rfl
theorem tw_inl (g : GP) (l : List PV) : (l.map Sum.inl).map (tw g) = l.map (tr g) := by
  rw [List.map_map]; rfl
def cats : List PW → Nat
  | [] => 0
  | v :: t => ctw v + cats t
theorem tw_sum (g : GP) (st : List PW) : ((st.map (tw g)).map fun v => v.category).sum = cats st := by
  induction st with
  | nil => rfl
  | cons v t ih =>
    simp only [List.map_cons, List.sum_cons, tw_cat]
    rw [ih]; rfl
def lwl (g : GP) : Nat → List (Option PW) → List (Nat × Value)
  | _, [] => []
  | n, none :: t => lwl g (n + 1) t
  | n, some v :: t => (n, tw g v) :: lwl g (n + 1) t
theorem lwl_mem {g : GP} {lv : List (Option PW)} {n : Nat} {q : Nat × Value} : q ∈ lwl g n lv ↔ ∃ i v, lv[i]? = some (some v) ∧ q = (n + i, tw g v) := by
  induction lv generalizing n with
  | nil => simp [lwl]
  | cons x t ih =>
    cases x with
    | none =>
      simp only [lwl]
      rw [ih]
      constructor
      · rintro ⟨i, v, a, b⟩
        exact ⟨i + 1, v, by simpa using a, by rw [b]; congr 1; omega⟩
      · rintro ⟨i, v, a, b⟩
        cases i with
        | zero => simp at a
        | succ i => exact ⟨i, v, by simpa using a, by rw [b]; congr 1; omega⟩
    | some w =>
      simp only [lwl, List.mem_cons]
      rw [ih]
      constructor
      · rintro (a | ⟨i, v, a, b⟩)
        · exact ⟨0, w, by simp, by simpa using a⟩
        · exact ⟨i + 1, v, by simpa using a, by rw [b]; congr 1; omega⟩
      · rintro ⟨i, v, a, b⟩
        cases i with
        | zero =>
          left
          simp at a
          subst a
          simpa using b
        | succ i => exact Or.inr ⟨i, v, by simpa using a, by rw [b]; congr 1; omega⟩
def lwh (g : GP) (ls : Array Slot) (nL : Nat) (lv : List (Option PW)) : Prop := lv_has ls nL (lwl g 0 lv)
theorem lwh_at {g : GP} {ls : Array Slot} {nL : Nat} {lv : List (Option PW)} (h : lwh g ls nL lv) {i : Nat} {v : PW} (e : lv[i]? = some (some v)) : ls[i]? = some (.val (tw g v)) :=
  h.2.2 (i, tw g v) (lwl_mem.mpr ⟨i, v, e, by simp⟩)
/-- no long stands just ahead of the place i -/
def noL (lv : List (Option PW)) : Nat → Bool
  | 0 => true
  | i + 1 => match lv[i]? with
    | some (some (.inr _)) => false
    | _ => true
theorem noL_no {lv : List (Option PW)} {i j : Nat} {x : Int64} (h : noL lv i = true) (e : lv[j]? = some (some (l_ x))) : ¬ j + 1 = i := by
  intro q
  subst q
  simp [noL, e] at h
theorem lwh_set {g : GP} {ls' : Array Slot} {nL : Nat} {lv : List (Option PW)} {i : Nat} {v : PW} (hn : noL lv i = true) (h : lv_has ls' nL ((i, tw g v) :: (lwl g 0 lv).filter (fun q => !(q.1 == i) && !(q.1 + 1 == i && q.2.category == 2)))) : lwh g ls' nL (lv.set i (some v)) := by
  refine ⟨h.1, h.2.1, fun q hq => ?_⟩
  obtain ⟨j, w, a, rfl⟩ := lwl_mem.mp hq
  rw [Nat.zero_add]
  by_cases e : i = j
  · subst e
    rw [List.getElem?_set] at a
    simp at a
    obtain ⟨-, rfl⟩ := a
    exact h.2.2 _ List.mem_cons_self
  · rw [List.getElem?_set_ne e] at a
    refine h.2.2 (j, tw g w) (List.mem_cons_of_mem _ (List.mem_filter.mpr ⟨lwl_mem.mpr ⟨j, w, a, by simp⟩, ?_⟩))
    rcases w with w | x
    · have hc : (tw g (.inl w)).category = 1 := tr_cat g w
      simp [hc, Ne.symm e]
    · have hz := noL_no hn a
      simp [hz, Ne.symm e]
theorem lwh_set2 {g : GP} {ls' : Array Slot} {nL : Nat} {lv : List (Option PW)} {i : Nat} {x : Int64} (hn : noL lv i = true) (h : lv_has ls' nL ((i, Value.long x) :: (lwl g 0 lv).filter (fun q => !(q.1 == i) && (!(q.1 == i + 1) && !(q.1 + 1 == i && q.2.category == 2))))) : lwh g ls' nL ((lv.set i (some (l_ x))).set (i + 1) none) := by
  refine ⟨h.1, h.2.1, fun q hq => ?_⟩
  obtain ⟨j, w, a, rfl⟩ := lwl_mem.mp hq
  rw [Nat.zero_add]
  by_cases e2 : i + 1 = j
  · subst e2
    rw [List.getElem?_set] at a
    simp at a
  · rw [List.getElem?_set_ne e2] at a
    by_cases e : i = j
    · subst e
      rw [List.getElem?_set] at a
      simp at a
      obtain ⟨-, rfl⟩ := a
      exact h.2.2 _ List.mem_cons_self
    · rw [List.getElem?_set_ne e] at a
      refine h.2.2 (j, tw g w) (List.mem_cons_of_mem _ (List.mem_filter.mpr ⟨lwl_mem.mpr ⟨j, w, a, by simp⟩, ?_⟩))
      rcases w with w | x
      · have hc : (tw g (.inl w)).category = 1 := tr_cat g w
        simp [hc, Ne.symm e, Ne.symm e2]
      · have hz := noL_no hn a
        simp [hz, Ne.symm e, Ne.symm e2]
/-- the room of a walk bears calls of methods that want F - 1 frames below them -/
def RO (R : Room) (F : Nat) : Prop := ∀ fy nLy : Nat, fy + 1 ≤ F → nLy ≤ 14 → (rm fy).frames + 1 ≤ R.frames ∧ 8 + (nLy + 11) + (rm fy).locals ≤ R.locals
theorem ro_m (f : Nat) : RO (rm f) f := fun _ _ a b => rm_le a b
def KX (p : Program) (s : State) (m : MethodId) (args : Array Value) (c : Code) (cc : ByteArray) (nL : Nat) : Prop :=
  p.tables.exec = Jvm.exec ∧ c.code = cc ∧ c.maxLocals = nL ∧ s.vm.findClass RL = some m.cls ∧ (∀ w ∈ GW, w.before args s = true) ∧ True
/-- THE WALK: Ω what more holds of the start, R the room, Z the end -/
def GL (Ω : GP → State → Array Value → Method → Prop) (R : Room) (F : Nat) (Z : GP → State → Array Value → List Frame → State → Prop) (cc : ByteArray) (nL : Nat) (h : List PO) (pc : Nat) (lv : List (Option PW)) (st : List PW) : Prop :=
  ∀ (g : GP) (p : Program) (l : Launch) (e : Jvm.Env) (s : State) (m : MethodId) (args : Array Value) (below : List Frame) (meth : Method) (c : Code) (H : Heap) (locs : List Loc) (ls : Array Slot),
    Ω g s args meth → RO R F → KX p s m args c cc nL → Env g s → gK g ≤ s.heap.size → va_P (gD g) vwCl (wld g h) H → va_D (gA g) (wld g h) → va_S (gA g) s.heap H locs → lwh g ls nL lv →
    W p l e R s m args below meth c H locs R.cells R.slots (Z g s args below) (F0 m pc ls (st.map (tw g)))
section LR
variable {Ω : GP → State → Array Value → Method → Prop} {R : Room} {F : Nat} {Z : GP → State → Array Value → List Frame → State → Prop} {cc : ByteArray} {nL : Nat} {h : List PO} {pc : Nat} {lv : List (Option PW)} {st : List PW}
theorem L_w {pc2 : Nat} {lv2 : List (Option PW)} {st2 : List PW} {h2 : List PO}
    (q : ∀ (g : GP) (p : Program) (l : Launch) (e : Jvm.Env) (s : State) (m : MethodId) (args : Array Value) (below : List Frame) (meth : Method) (c : Code) (H : Heap) (locs : List Loc) (ls : Array Slot), Ω g s args meth → RO R F → KX p s m args c cc nL → Env g s → gK g ≤ s.heap.size → va_P (gD g) vwCl (wld g h) H → va_D (gA g) (wld g h) → va_S (gA g) s.heap H locs → lwh g ls nL lv →
      (∀ (H : Heap) (locs : List Loc) (ls : Array Slot), va_P (gD g) vwCl (wld g h2) H → va_D (gA g) (wld g h2) → va_S (gA g) s.heap H locs → lwh g ls nL lv2 → W p l e R s m args below meth c H locs R.cells R.slots (Z g s args below) (F0 m pc2 ls (st2.map (tw g)))) →
      W p l e R s m args below meth c H locs R.cells R.slots (Z g s args below) (F0 m pc ls (st.map (tw g))))
    (k : GL Ω R F Z cc nL h2 pc2 lv2 st2) : GL Ω R F Z cc nL h pc lv st :=
  fun g p l e s m args below meth c H locs ls hO hR M E hK hP hD hS hl => q g p l e s m args below meth c H locs ls hO hR M E hK hP hD hS hl (fun H locs ls hP hD hS hl => k g p l e s m args below meth c H locs ls hO hR M E hK hP hD hS hl)
theorem lwl_find {g : GP} {lv : List (Option PW)} {i : Nat} {v : PW} (e : lv[i]? = some (some v)) : ∃ k : Nat, (lwl g 0 lv)[k]? = some (i, tw g v) := List.getElem?_of_mem (lwl_mem.mpr ⟨i, v, e, by simp⟩)
theorem L_iconst {n : Int} (hd : decode cc pc = .ok (.iconst n, 1)) (k : GL Ω R F Z cc nL h (pc + 1) lv (w_ n :: st)) : GL Ω R F Z cc nL h pc lv st :=
  L_w (fun g p l e s m args below meth c H locs ls hO hR M E hK hP hD hS hl kk => lv_iconst (v := I n) M.1 M.2.1 hd rfl (kk H locs ls hP hD hS hl)) k
theorem L_bipush {n : Int} (hd : decode cc pc = .ok (.bipush n, 2)) (ha : decide (-128 ≤ n ∧ n ≤ 127) = true) (k : GL Ω R F Z cc nL h (pc + 2) lv (w_ n :: st)) : GL Ω R F Z cc nL h pc lv st :=
  L_w (fun g p l e s m args below meth c H locs ls hO hR M E hK hP hD hS hl kk => lv_bipush (v := I n) M.1 M.2.1 hd (I_byte (of_decide_eq_true ha).1 (of_decide_eq_true ha).2) (kk H locs ls hP hD hS hl)) k
theorem L_sipush {n : Int} (hd : decode cc pc = .ok (.sipush n, 3)) (ha : decide (-32768 ≤ n ∧ n ≤ 32767) = true) (k : GL Ω R F Z cc nL h (pc + 3) lv (w_ n :: st)) : GL Ω R F Z cc nL h pc lv st :=
  L_w (fun g p l e s m args below meth c H locs ls hO hR M E hK hP hD hS hl kk => lv_sipush (v := I n) M.1 M.2.1 hd (I_short (of_decide_eq_true ha).1 (of_decide_eq_true ha).2) (kk H locs ls hP hD hS hl)) k
theorem L_iload_n {q : Fin 4} {i : Nat} {x : Int} (hd : decode cc pc = .ok (.iload_n q, 1)) (hi : (q : Nat) = i) (hv : lv[i]? = some (some (w_ x))) (k : GL Ω R F Z cc nL h (pc + 1) lv (w_ x :: st)) : GL Ω R F Z cc nL h pc lv st :=
  L_w (fun g p l e s m args below meth c H locs ls hO hR M E hK hP hD hS hl kk => lv_iload_n (x := I x) M.1 M.2.1 hd hi (lwh_at hl hv) (kk H locs ls hP hD hS hl)) k
theorem L_iload {i : Nat} {x : Int} (hd : decode cc pc = .ok (.iload i, 2)) (hv : lv[i]? = some (some (w_ x))) (k : GL Ω R F Z cc nL h (pc + 2) lv (w_ x :: st)) : GL Ω R F Z cc nL h pc lv st :=
  L_w (fun g p l e s m args below meth c H locs ls hO hR M E hK hP hD hS hl kk => lv_iload (x := I x) M.1 M.2.1 hd (lwh_at hl hv) (kk H locs ls hP hD hS hl)) k
theorem L_aload_n {q : Fin 4} {i : Nat} {x : Nat} (hd : decode cc pc = .ok (.aload_n q, 1)) (hi : (q : Nat) = i) (hv : lv[i]? = some (some (p_ x))) (k : GL Ω R F Z cc nL h (pc + 1) lv (p_ x :: st)) : GL Ω R F Z cc nL h pc lv st :=
  L_w (fun g p l e s m args below meth c H locs ls hO hR M E hK hP hD hS hl kk => lv_aload_n (x := gad g x) M.1 M.2.1 hd hi (lwh_at hl hv) (kk H locs ls hP hD hS hl)) k
theorem L_aload {i : Nat} {x : Nat} (hd : decode cc pc = .ok (.aload i, 2)) (hv : lv[i]? = some (some (p_ x))) (k : GL Ω R F Z cc nL h (pc + 2) lv (p_ x :: st)) : GL Ω R F Z cc nL h pc lv st :=
  L_w (fun g p l e s m args below meth c H locs ls hO hR M E hK hP hD hS hl kk => lv_aload (x := gad g x) M.1 M.2.1 hd (lwh_at hl hv) (kk H locs ls hP hD hS hl)) k
theorem L_istore_n {q : Fin 4} {i : Nat} {x : Int} {lv2 : List (Option PW)} (hd : decode cc pc = .ok (.istore_n q, 1)) (hi : (q : Nat) = i) (hn : i < nL) (hnl : noL lv i = true) (hl2 : lv.set i (some (w_ x)) = lv2) (k : GL Ω R F Z cc nL h (pc + 1) lv2 st) : GL Ω R F Z cc nL h pc lv (w_ x :: st) :=
  L_w (fun g p l e s m args below meth c H locs ls hO hR M E hK hP hD hS hl kk => lv_istore_n (x := I x) (nL := nL) (lv := lwl g 0 lv) M.1 M.2.1 hd hi hl hn rfl (fun ls' hl' => kk H locs ls' hP hD hS (hl2 ▸ lwh_set (lv := lv) hnl (v := w_ x) hl'))) k
theorem L_istore {i : Nat} {x : Int} {lv2 : List (Option PW)} (hd : decode cc pc = .ok (.istore i, 2)) (hn : i < nL) (hnl : noL lv i = true) (hl2 : lv.set i (some (w_ x)) = lv2) (k : GL Ω R F Z cc nL h (pc + 2) lv2 st) : GL Ω R F Z cc nL h pc lv (w_ x :: st) :=
  L_w (fun g p l e s m args below meth c H locs ls hO hR M E hK hP hD hS hl kk => lv_istore (x := I x) (nL := nL) (lv := lwl g 0 lv) M.1 M.2.1 hd hl hn rfl (fun ls' hl' => kk H locs ls' hP hD hS (hl2 ▸ lwh_set (lv := lv) hnl (v := w_ x) hl'))) k
theorem L_astore_n {q : Fin 4} {i : Nat} {x : Nat} {lv2 : List (Option PW)} (hd : decode cc pc = .ok (.astore_n q, 1)) (hi : (q : Nat) = i) (hn : i < nL) (hnl : noL lv i = true) (hl2 : lv.set i (some (p_ x)) = lv2) (k : GL Ω R F Z cc nL h (pc + 1) lv2 st) : GL Ω R F Z cc nL h pc lv (p_ x :: st) :=
  L_w (fun g p l e s m args below meth c H locs ls hO hR M E hK hP hD hS hl kk => lv_astore_n (x := gad g x) (nL := nL) (lv := lwl g 0 lv) M.1 M.2.1 hd hi hl hn rfl (fun ls' hl' => kk H locs ls' hP hD hS (hl2 ▸ lwh_set (lv := lv) hnl (v := p_ x) hl'))) k
theorem L_iinc {i : Nat} {n x : Int} {lv2 : List (Option PW)} (hd : decode cc pc = .ok (.iinc i n, 3)) (hn : i < nL) (hv : lv[i]? = some (some (w_ x))) (hnl : noL lv i = true) (hl2 : lv.set i (some (w_ (x + n))) = lv2) (k : GL Ω R F Z cc nL h (pc + 3) lv2 st) : GL Ω R F Z cc nL h pc lv st :=
  L_w (fun g p l e s m args below meth c H locs ls hO hR M E hK hP hD hS hl kk => by
    obtain ⟨q, hq⟩ := lwl_find (g := g) hv
    exact lv_iinc (x := I x) (v := I (x + n)) (nL := nL) (lv := lwl g 0 lv) (k := q) M.1 M.2.1 hd hl hq (I_add x n) hn rfl (fun ls' hl' => kk H locs ls' hP hD hS (hl2 ▸ lwh_set (lv := lv) hnl (v := w_ (x + n)) hl'))) k
theorem L_iadd {x y : Int} (hd : decode cc pc = .ok (.iadd, 1)) (k : GL Ω R F Z cc nL h (pc + 1) lv (w_ (x + y) :: st)) : GL Ω R F Z cc nL h pc lv (w_ y :: w_ x :: st) :=
  L_w (fun g p l e s m args below meth c H locs ls hO hR M E hK hP hD hS hl kk => lv_iadd (x := I x) (y := I y) M.1 M.2.1 hd (by rw [I_add]; exact kk H locs ls hP hD hS hl)) k
theorem L_isub {x y : Int} (hd : decode cc pc = .ok (.isub, 1)) (k : GL Ω R F Z cc nL h (pc + 1) lv (w_ (x - y) :: st)) : GL Ω R F Z cc nL h pc lv (w_ y :: w_ x :: st) :=
  L_w (fun g p l e s m args below meth c H locs ls hO hR M E hK hP hD hS hl kk => lv_isub (x := I x) (y := I y) M.1 M.2.1 hd (by rw [I_sub]; exact kk H locs ls hP hD hS hl)) k
theorem L_imul {x y : Int} (hd : decode cc pc = .ok (.imul, 1)) (k : GL Ω R F Z cc nL h (pc + 1) lv (w_ (x * y) :: st)) : GL Ω R F Z cc nL h pc lv (w_ y :: w_ x :: st) :=
  L_w (fun g p l e s m args below meth c H locs ls hO hR M E hK hP hD hS hl kk => lv_imul (x := I x) (y := I y) M.1 M.2.1 hd (by rw [I_mul]; exact kk H locs ls hP hD hS hl)) k
theorem L_ineg {x : Int} (hd : decode cc pc = .ok (.ineg, 1)) (k : GL Ω R F Z cc nL h (pc + 1) lv (w_ (-x) :: st)) : GL Ω R F Z cc nL h pc lv (w_ x :: st) :=
  L_w (fun g p l e s m args below meth c H locs ls hO hR M E hK hP hD hS hl kk => lv_ineg (x := I x) M.1 M.2.1 hd (by rw [I_neg]; exact kk H locs ls hP hD hS hl)) k
theorem L_goto {off : Int} {tgt : Nat} (hd : decode cc pc = .ok (.goto off, 3)) (ht : (pc : Int) + off = (tgt : Int)) (k : GL Ω R F Z cc nL h tgt lv st) : GL Ω R F Z cc nL h pc lv st :=
  L_w (fun g p l e s m args below meth c H locs ls hO hR M E hK hP hD hS hl kk => lv_goto M.1 M.2.1 hd ht (kk H locs ls hP hD hS hl)) k
theorem L_ldc {idx : Nat} {x : Int} (hd : decode cc pc = .ok (.ldc idx, 2)) (hc : Cond.constant RL idx (I x) ∈ GW) (k : GL Ω R F Z cc nL h (pc + 2) lv (w_ x :: st)) : GL Ω R F Z cc nL h pc lv st :=
  L_w (fun g p l e s m args below meth c H locs ls hO hR M E hK hP hD hS hl kk => lv_ldc (v := I x) M.1 M.2.1 M.2.2.2.1 (M.2.2.2.2.1 _ hc) hd (kk H locs ls hP hD hS hl)) k
theorem L_tblIn {dflt lo hi : Int} {offs : Array Int} {len : Nat} {x : Int} {off : Int} {tgt : Nat} (hd : decode cc pc = .ok (.tableswitch dflt lo hi offs, len)) (hx : inR x) (h1 : lo ≤ x) (h2 : x ≤ hi) (ho : offs[(x - lo).toNat]? = some off) (ht : (pc : Int) + off = (tgt : Int)) (k : GL Ω R F Z cc nL h tgt lv st) : GL Ω R F Z cc nL h pc lv (w_ x :: st) :=
  L_w (fun g p l e s m args below meth c H locs ls hO hR M E hK hP hD hS hl kk => lv_tableIn (x := I x) M.1 M.2.1 hd (by rw [I_toInt hx]; omega) (by rw [I_toInt hx]; omega) (by rw [I_toInt hx]; exact ho) ht (kk H locs ls hP hD hS hl)) k
theorem L_tblOut {dflt lo hi : Int} {offs : Array Int} {len : Nat} {x : Int} {tgt : Nat} (hd : decode cc pc = .ok (.tableswitch dflt lo hi offs, len)) (hx : inR x) (h1 : x < lo ∨ hi < x) (ht : (pc : Int) + dflt = (tgt : Int)) (k : GL Ω R F Z cc nL h tgt lv st) : GL Ω R F Z cc nL h pc lv (w_ x :: st) :=
  L_w (fun g p l e s m args below meth c H locs ls hO hR M E hK hP hD hS hl kk => lv_tableOut (x := I x) M.1 M.2.1 hd (by rw [I_toInt hx]; exact h1) ht (kk H locs ls hP hD hS hl)) k
theorem L_icmp_eq {x y : Int} {off : Int} {tgt : Nat} (hd : decode cc pc = .ok (.if_icmp .eq off, 3)) (ht : (pc : Int) + off = (tgt : Int)) (hx : inR x) (hy : inR y) (kt : x = y → GL Ω R F Z cc nL h tgt lv st) (kf : ¬ x = y → GL Ω R F Z cc nL h (pc + 3) lv st) : GL Ω R F Z cc nL h pc lv (w_ y :: w_ x :: st) :=
  fun g p l e s m args below meth c H locs ls hO hR M E hK hP hD hS hl => lv_icmp_eq (x := I x) (y := I y) M.1 M.2.1 hd ht (fun q => kt ((I_eq hx hy).mp q) g p l e s m args below meth c H locs ls hO hR M E hK hP hD hS hl) (fun q => kf (fun z => q ((I_eq hx hy).mpr z)) g p l e s m args below meth c H locs ls hO hR M E hK hP hD hS hl)
theorem L_icmp_ne {x y : Int} {off : Int} {tgt : Nat} (hd : decode cc pc = .ok (.if_icmp .ne off, 3)) (ht : (pc : Int) + off = (tgt : Int)) (hx : inR x) (hy : inR y) (kt : ¬ x = y → GL Ω R F Z cc nL h tgt lv st) (kf : x = y → GL Ω R F Z cc nL h (pc + 3) lv st) : GL Ω R F Z cc nL h pc lv (w_ y :: w_ x :: st) :=
  fun g p l e s m args below meth c H locs ls hO hR M E hK hP hD hS hl => lv_icmp_ne (x := I x) (y := I y) M.1 M.2.1 hd ht (fun q => kt (fun z => q ((I_eq hx hy).mpr z)) g p l e s m args below meth c H locs ls hO hR M E hK hP hD hS hl) (fun q => kf ((I_eq hx hy).mp q) g p l e s m args below meth c H locs ls hO hR M E hK hP hD hS hl)
theorem L_icmp_lt {x y : Int} {off : Int} {tgt : Nat} (hd : decode cc pc = .ok (.if_icmp .lt off, 3)) (ht : (pc : Int) + off = (tgt : Int)) (hx : inR x) (hy : inR y) (kt : x < y → GL Ω R F Z cc nL h tgt lv st) (kf : y ≤ x → GL Ω R F Z cc nL h (pc + 3) lv st) : GL Ω R F Z cc nL h pc lv (w_ y :: w_ x :: st) :=
  fun g p l e s m args below meth c H locs ls hO hR M E hK hP hD hS hl => lv_icmp_lt (x := I x) (y := I y) M.1 M.2.1 hd ht (fun q => kt ((I_lt hx hy).mp q) g p l e s m args below meth c H locs ls hO hR M E hK hP hD hS hl) (fun q => kf (Int.not_lt.mp (fun z => q ((I_lt hx hy).mpr z))) g p l e s m args below meth c H locs ls hO hR M E hK hP hD hS hl)
theorem L_icmp_ge {x y : Int} {off : Int} {tgt : Nat} (hd : decode cc pc = .ok (.if_icmp .ge off, 3)) (ht : (pc : Int) + off = (tgt : Int)) (hx : inR x) (hy : inR y) (kt : y ≤ x → GL Ω R F Z cc nL h tgt lv st) (kf : x < y → GL Ω R F Z cc nL h (pc + 3) lv st) : GL Ω R F Z cc nL h pc lv (w_ y :: w_ x :: st) :=
  fun g p l e s m args below meth c H locs ls hO hR M E hK hP hD hS hl => lv_icmp_ge (x := I x) (y := I y) M.1 M.2.1 hd ht (fun q => kt ((I_le hy hx).mp q) g p l e s m args below meth c H locs ls hO hR M E hK hP hD hS hl) (fun q => kf (Int.not_le.mp (fun z => q ((I_le hy hx).mpr z))) g p l e s m args below meth c H locs ls hO hR M E hK hP hD hS hl)
theorem L_icmp_gt {x y : Int} {off : Int} {tgt : Nat} (hd : decode cc pc = .ok (.if_icmp .gt off, 3)) (ht : (pc : Int) + off = (tgt : Int)) (hx : inR x) (hy : inR y) (kt : y < x → GL Ω R F Z cc nL h tgt lv st) (kf : x ≤ y → GL Ω R F Z cc nL h (pc + 3) lv st) : GL Ω R F Z cc nL h pc lv (w_ y :: w_ x :: st) :=
  fun g p l e s m args below meth c H locs ls hO hR M E hK hP hD hS hl => lv_icmp_gt (x := I x) (y := I y) M.1 M.2.1 hd ht (fun q => kt ((I_lt hy hx).mp q) g p l e s m args below meth c H locs ls hO hR M E hK hP hD hS hl) (fun q => kf (Int.not_lt.mp (fun z => q ((I_lt hy hx).mpr z))) g p l e s m args below meth c H locs ls hO hR M E hK hP hD hS hl)
theorem L_icmp_le {x y : Int} {off : Int} {tgt : Nat} (hd : decode cc pc = .ok (.if_icmp .le off, 3)) (ht : (pc : Int) + off = (tgt : Int)) (hx : inR x) (hy : inR y) (kt : x ≤ y → GL Ω R F Z cc nL h tgt lv st) (kf : y < x → GL Ω R F Z cc nL h (pc + 3) lv st) : GL Ω R F Z cc nL h pc lv (w_ y :: w_ x :: st) :=
  fun g p l e s m args below meth c H locs ls hO hR M E hK hP hD hS hl => lv_icmp_le (x := I x) (y := I y) M.1 M.2.1 hd ht (fun q => kt ((I_le hx hy).mp q) g p l e s m args below meth c H locs ls hO hR M E hK hP hD hS hl) (fun q => kf (Int.not_le.mp (fun z => q ((I_le hx hy).mpr z))) g p l e s m args below meth c H locs ls hO hR M E hK hP hD hS hl)
theorem L_if_eq {x : Int} {off : Int} {tgt : Nat} (hd : decode cc pc = .ok (.ifCond .eq off, 3)) (ht : (pc : Int) + off = (tgt : Int)) (hx : inR x) (kt : x = 0 → GL Ω R F Z cc nL h tgt lv st) (kf : ¬ x = 0 → GL Ω R F Z cc nL h (pc + 3) lv st) : GL Ω R F Z cc nL h pc lv (w_ x :: st) :=
  fun g p l e s m args below meth c H locs ls hO hR M E hK hP hD hS hl => lv_if_eq (x := I x) M.1 M.2.1 hd ht (fun q => kt ((I_eq0 hx).mp q) g p l e s m args below meth c H locs ls hO hR M E hK hP hD hS hl) (fun q => kf (fun z => q ((I_eq0 hx).mpr z)) g p l e s m args below meth c H locs ls hO hR M E hK hP hD hS hl)
theorem L_if_ne {x : Int} {off : Int} {tgt : Nat} (hd : decode cc pc = .ok (.ifCond .ne off, 3)) (ht : (pc : Int) + off = (tgt : Int)) (hx : inR x) (kt : ¬ x = 0 → GL Ω R F Z cc nL h tgt lv st) (kf : x = 0 → GL Ω R F Z cc nL h (pc + 3) lv st) : GL Ω R F Z cc nL h pc lv (w_ x :: st) :=
  fun g p l e s m args below meth c H locs ls hO hR M E hK hP hD hS hl => lv_if_ne (x := I x) M.1 M.2.1 hd ht (fun q => kt (fun z => q ((I_eq0 hx).mpr z)) g p l e s m args below meth c H locs ls hO hR M E hK hP hD hS hl) (fun q => kf ((I_eq0 hx).mp q) g p l e s m args below meth c H locs ls hO hR M E hK hP hD hS hl)
theorem L_if_lt {x : Int} {off : Int} {tgt : Nat} (hd : decode cc pc = .ok (.ifCond .lt off, 3)) (ht : (pc : Int) + off = (tgt : Int)) (hx : inR x) (kt : x < 0 → GL Ω R F Z cc nL h tgt lv st) (kf : 0 ≤ x → GL Ω R F Z cc nL h (pc + 3) lv st) : GL Ω R F Z cc nL h pc lv (w_ x :: st) :=
  fun g p l e s m args below meth c H locs ls hO hR M E hK hP hD hS hl => lv_if_lt (x := I x) M.1 M.2.1 hd ht (fun q => kt ((I_lt0 hx).mp q) g p l e s m args below meth c H locs ls hO hR M E hK hP hD hS hl) (fun q => kf (Int.not_lt.mp (fun z => q ((I_lt0 hx).mpr z))) g p l e s m args below meth c H locs ls hO hR M E hK hP hD hS hl)
theorem L_if_ge {x : Int} {off : Int} {tgt : Nat} (hd : decode cc pc = .ok (.ifCond .ge off, 3)) (ht : (pc : Int) + off = (tgt : Int)) (hx : inR x) (kt : 0 ≤ x → GL Ω R F Z cc nL h tgt lv st) (kf : x < 0 → GL Ω R F Z cc nL h (pc + 3) lv st) : GL Ω R F Z cc nL h pc lv (w_ x :: st) :=
  fun g p l e s m args below meth c H locs ls hO hR M E hK hP hD hS hl => lv_if_ge (x := I x) M.1 M.2.1 hd ht (fun q => kt ((I_ge0 hx).mp q) g p l e s m args below meth c H locs ls hO hR M E hK hP hD hS hl) (fun q => kf (Int.not_le.mp (fun z => q ((I_ge0 hx).mpr z))) g p l e s m args below meth c H locs ls hO hR M E hK hP hD hS hl)
theorem L_if_gt {x : Int} {off : Int} {tgt : Nat} (hd : decode cc pc = .ok (.ifCond .gt off, 3)) (ht : (pc : Int) + off = (tgt : Int)) (hx : inR x) (kt : 0 < x → GL Ω R F Z cc nL h tgt lv st) (kf : x ≤ 0 → GL Ω R F Z cc nL h (pc + 3) lv st) : GL Ω R F Z cc nL h pc lv (w_ x :: st) :=
  fun g p l e s m args below meth c H locs ls hO hR M E hK hP hD hS hl => lv_if_gt (x := I x) M.1 M.2.1 hd ht (fun q => kt ((I_gt0 hx).mp q) g p l e s m args below meth c H locs ls hO hR M E hK hP hD hS hl) (fun q => kf (Int.not_lt.mp (fun z => q ((I_gt0 hx).mpr z))) g p l e s m args below meth c H locs ls hO hR M E hK hP hD hS hl)
theorem L_if_le {x : Int} {off : Int} {tgt : Nat} (hd : decode cc pc = .ok (.ifCond .le off, 3)) (ht : (pc : Int) + off = (tgt : Int)) (hx : inR x) (kt : x ≤ 0 → GL Ω R F Z cc nL h tgt lv st) (kf : 0 < x → GL Ω R F Z cc nL h (pc + 3) lv st) : GL Ω R F Z cc nL h pc lv (w_ x :: st) :=
  fun g p l e s m args below meth c H locs ls hO hR M E hK hP hD hS hl => lv_if_le (x := I x) M.1 M.2.1 hd ht (fun q => kt ((I_le0 hx).mp q) g p l e s m args below meth c H locs ls hO hR M E hK hP hD hS hl) (fun q => kf (Int.not_le.mp (fun z => q ((I_le0 hx).mpr z))) g p l e s m args below meth c H locs ls hO hR M E hK hP hD hS hl)
theorem L_dup {v : PW} (hc : ctw v = 1) (hd : decode cc pc = .ok (.dup, 1)) (k : GL Ω R F Z cc nL h (pc + 1) lv (v :: v :: st)) : GL Ω R F Z cc nL h pc lv (v :: st) :=
  L_w (fun g p l e s m args below meth c H locs ls hO hR M E hK hP hD hS hl kk => lv_dup M.1 M.2.1 hd ((tw_cat g v).trans hc) (kk H locs ls hP hD hS hl)) k
theorem L_lload_n {q : Fin 4} {i : Nat} {x : Int64} (hd : decode cc pc = .ok (.lload_n q, 1)) (hi : (q : Nat) = i) (hv : lv[i]? = some (some (l_ x))) (k : GL Ω R F Z cc nL h (pc + 1) lv (l_ x :: st)) : GL Ω R F Z cc nL h pc lv st :=
  L_w (fun g p l e s m args below meth c H locs ls hO hR M E hK hP hD hS hl kk => lv_lload_n (x := x) M.1 M.2.1 hd hi (lwh_at hl hv) (kk H locs ls hP hD hS hl)) k
theorem L_lload {i : Nat} {x : Int64} (hd : decode cc pc = .ok (.lload i, 2)) (hv : lv[i]? = some (some (l_ x))) (k : GL Ω R F Z cc nL h (pc + 2) lv (l_ x :: st)) : GL Ω R F Z cc nL h pc lv st :=
  L_w (fun g p l e s m args below meth c H locs ls hO hR M E hK hP hD hS hl kk => lv_lload (x := x) M.1 M.2.1 hd (lwh_at hl hv) (kk H locs ls hP hD hS hl)) k
theorem L_lstore_n {q : Fin 4} {i : Nat} {x : Int64} {lv2 : List (Option PW)} (hd : decode cc pc = .ok (.lstore_n q, 1)) (hi : (q : Nat) = i) (hn : i + 1 < nL) (hnl : noL lv i = true) (hl2 : (lv.set i (some (l_ x))).set (i + 1) none = lv2) (k : GL Ω R F Z cc nL h (pc + 1) lv2 st) : GL Ω R F Z cc nL h pc lv (l_ x :: st) :=
  L_w (fun g p l e s m args below meth c H locs ls hO hR M E hK hP hD hS hl kk => lv_lstore_n (x := x) (nL := nL) (lv := lwl g 0 lv) M.1 M.2.1 hd hi hl hn rfl (fun ls' hl' => kk H locs ls' hP hD hS (hl2 ▸ lwh_set2 hnl hl'))) k
theorem L_lstore {i : Nat} {x : Int64} {lv2 : List (Option PW)} (hd : decode cc pc = .ok (.lstore i, 2)) (hn : i + 1 < nL) (hnl : noL lv i = true) (hl2 : (lv.set i (some (l_ x))).set (i + 1) none = lv2) (k : GL Ω R F Z cc nL h (pc + 2) lv2 st) : GL Ω R F Z cc nL h pc lv (l_ x :: st) :=
  L_w (fun g p l e s m args below meth c H locs ls hO hR M E hK hP hD hS hl kk => lv_lstore (x := x) (nL := nL) (lv := lwl g 0 lv) M.1 M.2.1 hd hl hn rfl (fun ls' hl' => kk H locs ls' hP hD hS (hl2 ▸ lwh_set2 hnl hl'))) k
theorem L_ldc2 {idx : Nat} {x : Int64} (hd : decode cc pc = .ok (.ldc2_w idx, 3)) (hc : Cond.constantLong RL idx x ∈ GW) (k : GL Ω R F Z cc nL h (pc + 3) lv (l_ x :: st)) : GL Ω R F Z cc nL h pc lv st :=
  L_w (fun g p l e s m args below meth c H locs ls hO hR M E hK hP hD hS hl kk => lv_ldc2 (v := x) M.1 M.2.1 M.2.2.2.1 (M.2.2.2.2.1 _ hc) hd (kk H locs ls hP hD hS hl)) k
theorem L_ladd {x y : Int64} (hd : decode cc pc = .ok (.ladd, 1)) (k : GL Ω R F Z cc nL h (pc + 1) lv (l_ (x + y) :: st)) : GL Ω R F Z cc nL h pc lv (l_ y :: l_ x :: st) :=
  L_w (fun g p l e s m args below meth c H locs ls hO hR M E hK hP hD hS hl kk => lv_ladd M.1 M.2.1 hd (kk H locs ls hP hD hS hl)) k
theorem L_lmul {x y : Int64} (hd : decode cc pc = .ok (.lmul, 1)) (k : GL Ω R F Z cc nL h (pc + 1) lv (l_ (x * y) :: st)) : GL Ω R F Z cc nL h pc lv (l_ y :: l_ x :: st) :=
  L_w (fun g p l e s m args below meth c H locs ls hO hR M E hK hP hD hS hl kk => lv_lmul M.1 M.2.1 hd (kk H locs ls hP hD hS hl)) k
theorem L_i2l {x : Int} (hd : decode cc pc = .ok (.i2l, 1)) (k : GL Ω R F Z cc nL h (pc + 1) lv (l_ (I x).toInt64 :: st)) : GL Ω R F Z cc nL h pc lv (w_ x :: st) :=
  L_w (fun g p l e s m args below meth c H locs ls hO hR M E hK hP hD hS hl kk => lv_i2l (x := I x) M.1 M.2.1 hd rfl (kk H locs ls hP hD hS hl)) k
/-- two longs that are the same -/
theorem L_lcmpE {x y : Int64} (hd : decode cc pc = .ok (.lcmp, 1)) (hxy : x = y) (k : GL Ω R F Z cc nL h (pc + 1) lv (w_ 0 :: st)) : GL Ω R F Z cc nL h pc lv (l_ y :: l_ x :: st) :=
  L_w (fun g p l e s m args below meth c H locs ls hO hR M E hK hP hD hS hl kk => W.lcmp (x := x) (y := y) M.1 M.2.1 hd (by
    have e1 : lg_cmp x y = I 0 := by
      rw [hxy]
      unfold lg_cmp
      simp
      try rfl
    rw [e1]
    exact kk H locs ls hP hD hS hl)) k
def shrI (x n : Int) : Int := (I x >>> (I n &&& 31)).toInt
theorem shrI_in (x n : Int) : inR (shrI x n) := inR_I _
theorem L_ishr {x n : Int} (hd : decode cc pc = .ok (.ishr, 1)) (k : GL Ω R F Z cc nL h (pc + 1) lv (w_ (shrI x n) :: st)) : GL Ω R F Z cc nL h pc lv (w_ n :: w_ x :: st) :=
  L_w (fun g p l e s m args below meth c H locs ls hO hR M E hK hP hD hS hl kk => lv_ishr (x := I x) (y := I n) M.1 M.2.1 hd (by
    rw [← I_toInt' (I x >>> (I n &&& 31))]
    exact kk H locs ls hP hD hS hl)) k
theorem I_tdiv {x y : Int} (x0 : 0 ≤ x) (x1 : inR x) (y0 : 0 < y) (y1 : inR y) : I x / I y = I (x / y) := by
  rw [← Int32.toInt_inj, Int32.toInt_div, I_toInt x1, I_toInt y1]
  have a : x.tdiv y = x / y := Int.tdiv_eq_ediv_of_nonneg x0
  have b0 : 0 ≤ x / y := Int.ediv_nonneg x0 (by omega)
  have b1 : x / y ≤ x := Int.ediv_le_self y x0
  have x2 := x1.2
  rw [a, I_toInt ⟨by omega, by omega⟩]
  exact Int.bmod_eq_of_le (by omega) (by omega)
theorem L_idiv {x y : Int} (hd : decode cc pc = .ok (.idiv, 1)) (x0 : 0 ≤ x) (x1 : inR x) (y0 : 0 < y) (y1 : inR y) (k : GL Ω R F Z cc nL h (pc + 1) lv (w_ (x / y) :: st)) : GL Ω R F Z cc nL h pc lv (w_ y :: w_ x :: st) :=
  L_w (fun g p l e s m args below meth c H locs ls hO hR M E hK hP hD hS hl kk => lv_idiv (x := I x) (y := I y) M.1 M.2.1 hd (by rw [I_eq0 y1]; omega) (by rw [I_tdiv x0 x1 y0 y1]; exact kk H locs ls hP hD hS hl)) k
theorem L_irem {x y : Int} (hd : decode cc pc = .ok (.irem, 1)) (x0 : 0 ≤ x) (x1 : inR x) (y0 : 0 < y) (y1 : inR y) (k : GL Ω R F Z cc nL h (pc + 1) lv (w_ (x % y) :: st)) : GL Ω R F Z cc nL h pc lv (w_ y :: w_ x :: st) :=
  L_w (fun g p l e s m args below meth c H locs ls hO hR M E hK hP hD hS hl kk => lv_irem (x := I x) (y := I y) M.1 M.2.1 hd (by rw [I_eq0 y1]; omega) (by
    have e1 : I x - I x / I y * I y = I (x % y) := by
      rw [I_tdiv x0 x1 y0 y1, I_mul, I_sub]
      congr 1
      have := Int.mul_ediv_add_emod x y
      rw [Int.mul_comm]
      omega
    rw [e1]
    exact kk H locs ls hP hD hS hl)) k
def andI (x : Int) : Int := (I x &&& I 2147483647).toInt
theorem andI_rng (x : Int) : 0 ≤ andI x ∧ andI x ≤ 2147483647 := by
  have e : (I x &&& I 2147483647).toBitVec.toNat = (I x).toBitVec.toNat % 2147483648 := by
    show ((I x).toBitVec &&& (I 2147483647).toBitVec).toNat = _
    rw [BitVec.toNat_and, show (I 2147483647).toBitVec.toNat = 2147483647 from by decide]
    exact Nat.and_two_pow_sub_one_eq_mod _ 31
  unfold andI
  have h2 : (I x &&& I 2147483647).toInt = (I x &&& I 2147483647).toBitVec.toInt := rfl
  rw [h2, BitVec.toInt_eq_toNat_cond, e]
  have h3 := Nat.mod_lt (I x).toBitVec.toNat (show 0 < 2147483648 by decide)
  split <;> omega
theorem L_iand {x : Int} (hd : decode cc pc = .ok (.iand, 1)) (k : GL Ω R F Z cc nL h (pc + 1) lv (w_ (andI x) :: st)) : GL Ω R F Z cc nL h pc lv (w_ 2147483647 :: w_ x :: st) :=
  L_w (fun g p l e s m args below meth c H locs ls hO hR M E hK hP hD hS hl kk => lv_iand (x := I x) (y := I 2147483647) M.1 M.2.1 hd (by
    rw [← I_toInt' (I x &&& I 2147483647)]
    exact kk H locs ls hP hD hS hl)) k
/-- the top of the stack, told otherwise -/
theorem L_top {x y : Int} (e : x = y) (k : GL Ω R F Z cc nL h pc lv (w_ y :: st)) : GL Ω R F Z cc nL h pc lv (w_ x :: st) := e ▸ k
theorem L_ltop {x y : Int64} (e : x = y) (k : GL Ω R F Z cc nL h pc lv (l_ y :: st)) : GL Ω R F Z cc nL h pc lv (l_ x :: st) := e ▸ k
/-- compares of two numbers that are the same: no range is wanted -/
theorem L_icmp_neE {x y : Int} {off : Int} (hd : decode cc pc = .ok (.if_icmp .ne off, 3)) (ht : 0 ≤ (pc : Int) + off) (hxy : x = y) (k : GL Ω R F Z cc nL h (pc + 3) lv st) : GL Ω R F Z cc nL h pc lv (w_ y :: w_ x :: st) := by
  subst hxy
  exact fun g p l e s m args below meth c H locs ls hO hR M E hK hP hD hS hl => lv_icmp_ne (tgt := ((pc : Int) + off).toNat) (x := I x) (y := I x) M.1 M.2.1 hd (Int.toNat_of_nonneg ht).symm (fun q => absurd rfl q) (fun _ => k g p l e s m args below meth c H locs ls hO hR M E hK hP hD hS hl)
def Outw (g : GP) (post : Option PW → List PO → Prop) (oc : Outcome) (t : State) : Prop := ∃ r h', oc = .returned (r.map (tw g)) ∧ post r h' ∧ va_P (gD g) vwCl (wld g h') t.heap ∧ va_D (gA g) (wld g h')
abbrev Qcw (g : GP) (post : Option PW → List PO → Prop) : Array Value → State → Outcome → State → Prop := fun _ st oc t => Outw g post oc t ∧ va_F (gA g) st t
def PMw (f : Nat) (y : MethodName) (cc : ByteArray) (nL : Nat) (rt : Option FieldType) (h : List PO) (args : List PV) (post : Option PW → List PO → Prop) : Prop :=
  ∀ (l : Launch) (g : GP), Met l y (.code y cc nL rt :: GW) (rm f) (Pcg g h args) (Qcw g post) 0 0 (gA g)
theorem L_back {posty : Option PW → List PO → Prop} {rest st0 : List PW} {a : Array Value}
    {g : GP} {p : Program} {l : Launch} {e : Jvm.Env} {s : State} {m : MethodId} {args : Array Value} {below : List Frame} {meth : Method} {c : Code} {H : Heap} {locs : List Loc} {ls : Array Slot}
    (hO : Ω g s args meth) (hR : RO R F) (M : KX p s m args c cc nL) (E : Env g s) (hK : gK g ≤ s.heap.size) (hS : va_S (gA g) s.heap H locs) (hl : lwh g ls nL lv)
    (hr : va_Run p l e R s m args below meth c H locs R.cells R.slots 0 0 (F0 m pc ls (st0.map (tw g))) (rest.map (tw g)) (Qcw g posty a) (gA g))
    (k : ∀ r h', posty r h' → GL Ω R F Z cc nL h' (pc + 3) lv (r.toList ++ rest)) :
    W p l e R s m args below meth c H locs R.cells R.slots (Z g s args below) (F0 m pc ls (st0.map (tw g))) := by
  intro T hT X
  obtain ⟨v, st₀, t, T', L2, h0, X', hL, e1, e2, ⟨⟨r, h', hv, hp, hP', hD'⟩, hz, hk⟩, hst⟩ := hr T hT X
  cases hv
  rw [h0] at hz hk
  have hS' : va_S (gA g) s.heap T'.heap (locs ++ L2) := ⟨Nat.le_trans hS.1 (by rw [e1]; exact hz), fun q h1 h2 => by rw [e1, hk q (Nat.lt_of_lt_of_le h1 hS.1) h2]; exact hS.2.1 q h1 h2, fun q hq => by
      rcases List.mem_append.mp hq with h | h
      · exact hS.2.2 q h
      · exact hL q h⟩
  obtain ⟨t2, a1, b1⟩ := k r h' hp g p l e s m args below meth c T'.heap (locs ++ L2) ls hO hR M E hK (by rw [e1]; exact hP') hD' hS' hl T' rfl X'
  refine ⟨t2, hst t2 ?_, b1⟩
  have e3 : ((r.toList ++ rest).map (tw g)) = (r.map (tw g)).toList ++ rest.map (tw g) := by
    cases r <;> rfl
  rw [e3] at a1
  exact a1
theorem Qcw_of {g : GP} {post : Option PV → List PO → Prop} {a : Array Value} {s t : State} {oc : Outcome} (h : Qcg g post a s oc t) : Qcw g (fun r h' => ∃ r0, r = r0.map Sum.inl ∧ post r0 h') a s oc t := by
  obtain ⟨⟨r, h', h1, h2, h3, h4⟩, h5⟩ := h
  refine ⟨⟨r.map Sum.inl, h', ?_, ⟨r, rfl, h2⟩, h3, h4⟩, h5⟩
  rw [h1]
  cases r <;> rfl
theorem run_w {p : Program} {l : Launch} {e : Jvm.Env} {s : State} {m : MethodId} {args : Array Value} {below : List Frame} {meth : Method} {c : Code} {H : Heap} {locs : List Loc} {c0 s0 a b : Nat} {f0 : JFrame} {rest : List Value} {Q1 Q2 : State → Outcome → State → Prop} {A : Addr → Prop} (h : va_Run p l e R s m args below meth c H locs c0 s0 a b f0 rest Q1 A) (hq : ∀ s o t, Q1 s o t → Q2 s o t) : va_Run p l e R s m args below meth c H locs c0 s0 a b f0 rest Q2 A := by
  intro T hT X
  obtain ⟨v, st₀, t, T', L2, h0, X', hL, e1, e2, hQ, hst⟩ := h T hT X
  exact ⟨v, st₀, t, T', L2, h0, X', hL, e1, e2, hq _ _ _ hQ, hst⟩
theorem w_rev (g : GP) (as : List PV) (rest : List PW) : (((as.map Sum.inl).reverse ++ rest : List PW).map (tw g)) = (as.map (tr g)).reverse ++ rest.map (tw g) := by
  rw [List.map_append, List.map_reverse, tw_inl]
theorem w_rev2 (g : GP) (as : List PV) (b : Nat) (rest : List PW) : (((as.map Sum.inl).reverse ++ p_ b :: rest : List PW).map (tw g)) = (as.map (tr g)).reverse ++ .ref (gad g b) :: rest.map (tw g) := by
  rw [List.map_append, List.map_reverse, tw_inl]; rfl
theorem L_callV {fy nLy n idx b0 ci : Nat} {C : String} {y : MethodName} {cy : ByteArray} {ry : Option FieldType} {posty : Option PV → List PO → Prop} {as : List PV} {st0 : List PW}
    (hM : PM fy y cy nLy ry h (r_ b0 :: as) posty) (hd : decode cc pc = .ok (.invokevirtual idx, 3)) (hlk : Cond.methodLink RL idx y ∈ GW) (hv : CV C y cy nLy ry n)
    (hb0 : ∃ fs, h[b0]? = some (oO ci fs)) (hc : (vwCl[ci]?).map (fun q => q.1) = some C) (hn : as.length = n) (hf : fy + 1 ≤ F) (hs : cats st ≤ 8) (e0 : st0 = (as.map Sum.inl).reverse ++ p_ b0 :: st)
    (k : ∀ r h', posty r h' → GL Ω R F Z cc nL h' (pc + 3) lv ((r.map Sum.inl).toList ++ st)) : GL Ω R F Z cc nL h pc lv st0 := by
  subst e0
  obtain ⟨fs, hb0⟩ := hb0
  obtain ⟨⟨v1, v2, v3, v4⟩, v5, v6, v7, v8⟩ := hv
  obtain ⟨q, hq, rfl⟩ : ∃ q : vw_C, vwCl[ci]? = some q ∧ q.1 = C := by
    cases hq : vwCl[ci]? with
    | none => rw [hq] at hc; cases hc
    | some q => rw [hq] at hc; exact ⟨q, rfl, Option.some.inj hc⟩
  intro g p l e s m args below meth c H locs ls hO hR M E hK hP hD hS hlv
  have hts := M.2.2.2.2.1
  have hm := hM l g
  refine L_back (rest := st) (a := ((r_ b0 :: as).map (tr g)).toArray) (posty := fun r h' => ∃ r0, r = r0.map Sum.inl ∧ posty r0 h') hO hR M E hK hS hlv (run_w (va_runV (R := R) (As := as.map (tr g)) (rest := st.map (tw g)) ⟨M.1, M.2.1, M.2.2.1, M.2.2.2.1, hts⟩ hm (cwV n hts (gw_in (fun w hw => ?_)) rfl rfl rfl ⟨v7, v3⟩ (hR fy nLy hf v4)) ⟨In.blind, va_recv E.1 hP hq (wld_get hb0), fun U hU hW => ⟨rfl, by rw [hU]; exact Nat.le_trans hK hS.1, by rw [hU]; exact hP, hD, E.go hW hU hS⟩⟩ rfl (by simpa using hn) hlv.1 (w_rev2 g as b0 st) (lv_room (by rw [tw_sum]; exact hs)) hd ⟨Nat.le_refl _, Nat.le_refl _⟩) (fun _ _ _ hQ => Qcw_of hQ)) (fun r h' hp => ?_)
  · unfold wsV at hw
    rcases List.mem_append.mp hw with hw | hw
    · simp only [List.mem_cons, List.not_mem_nil, or_false] at hw
      rcases hw with rfl | rfl | rfl | rfl
      · exact hlk
      · exact v5
      · exact v6
      · exact v8
    · exact gw_code v2 w hw
  · obtain ⟨r0, rfl, hp⟩ := hp
    exact k r0 h' hp
theorem L_callS {fy nLy n idx : Nat} {y : MethodName} {cy : ByteArray} {ry : Option FieldType} {posty : Option PW → List PO → Prop} {as : List PV} {st0 : List PW}
    (hM : PMw fy y cy nLy ry h as posty) (hd : decode cc pc = .ok (.invokestatic idx, 3)) (hlk : Cond.methodLink RL idx y ∈ GW) (hv : CS y cy nLy ry n)
    (hn : as.length = n) (hf : fy + 1 ≤ F) (hs : cats st ≤ 8) (e0 : st0 = (as.map Sum.inl).reverse ++ st)
    (k : ∀ r h', posty r h' → GL Ω R F Z cc nL h' (pc + 3) lv (r.toList ++ st)) : GL Ω R F Z cc nL h pc lv st0 := by
  subst e0
  obtain ⟨⟨v1, v2, v3, v4⟩, v5⟩ := hv
  intro g p l e s m args below meth c H locs ls hO hR M E hK hP hD hS hlv
  have hts := M.2.2.2.2.1
  have hm := hM l g
  refine L_back (rest := st) (a := (as.map (tr g)).toArray) (posty := posty) hO hR M E hK hS hlv (va_runS (R := R) (As := as.map (tr g)) (rest := st.map (tw g)) ⟨M.1, M.2.1, M.2.2.1, M.2.2.2.1, hts⟩ hm (va_cwS n hts (gw_in (fun w hw => ?_)) rfl rfl rfl v3 (hR fy nLy hf v4)) ⟨In.blind, fun U hU hW => ⟨rfl, by rw [hU]; exact Nat.le_trans hK hS.1, by rw [hU]; exact hP, hD, E.go hW hU hS⟩⟩ rfl (by simpa using hn) hlv.1 (w_rev g as st) (lv_room (by rw [tw_sum]; exact hs)) hd ⟨Nat.le_refl _, Nat.le_refl _⟩) k
  unfold va_wsS at hw
  rcases List.mem_append.mp hw with hw | hw
  · simp only [List.mem_cons, List.not_mem_nil, or_false] at hw
    rcases hw with rfl | rfl | rfl
    · exact hlk
    · exact v5
    · exact v1
  · exact gw_code v2 w hw
end LR
/-! a method of the law -/
def Om (rt : Option FieldType) : GP → State → Array Value → Method → Prop := fun _ _ _ meth => meth.sig.returnType = rt ∧ meth.locks = false
def Zm (post : Option PW → List PO → Prop) : GP → State → Array Value → List Frame → State → Prop := fun g s args below => MQ below (Qcw g post) args s 0 0 (gA g)
abbrev GM (f : Nat) (cc : ByteArray) (nL : Nat) (rt : Option FieldType) (h : List PO) (pc : Nat) (lv : List (Option PW)) (st : List PW) (post : Option PW → List PO → Prop) : Prop := GL (Om rt) (rm f) f (Zm post) cc nL h pc lv st
section MR
variable {f : Nat} {cc : ByteArray} {nL : Nat} {rt : Option FieldType} {h : List PO} {pc : Nat} {lv : List (Option PW)} {post : Option PW → List PO → Prop}
theorem M_ireturn {x : Int} (hd : decode cc pc = .ok (.ireturn, 1)) (hr : rt = some .int) (hp : post (some (w_ x)) h) : GM f cc nL rt h pc lv [w_ x] post := by
  intro g p l e s m args below meth c H locs ls hO hR M E hK hP hD hS hl
  have hlocks : meth.locks = false := hO.2
  exact W.iret (v := I x) M.1 M.2.1 (hO.1.trans hr) (fun t ht hW => ⟨⟨some (w_ x), h, rfl, hp, by rw [ht]; exact hP, hD⟩, hS.F ht⟩) hS.2.2 hd hlocks
theorem M_zreturn {x : Int} (hd : decode cc pc = .ok (.ireturn, 1)) (hr : rt = some .boolean) (hx : x = 0 ∨ x = 1) (hp : post (some (w_ x)) h) : GM f cc nL rt h pc lv [w_ x] post := by
  intro g p l e s m args below meth c H locs ls hO hR M E hK hP hD hS hl
  have hlocks : meth.locks = false := hO.2
  exact W.zret (v := I x) (ty := .boolean) M.1 M.2.1 (hO.1.trans hr) (by rcases hx with rfl | rfl <;> rfl) (fun t ht hW => ⟨⟨some (w_ x), h, rfl, hp, by rw [ht]; exact hP, hD⟩, hS.F ht⟩) hS.2.2 hd hlocks
theorem M_lreturn {x : Int64} (hd : decode cc pc = .ok (.lreturn, 1)) (hr : rt = some .long) (hp : post (some (l_ x)) h) : GM f cc nL rt h pc lv [l_ x] post := by
  intro g p l e s m args below meth c H locs ls hO hR M E hK hP hD hS hl
  have hlocks : meth.locks = false := hO.2
  exact W.lret (v := x) M.1 M.2.1 (hO.1.trans hr) (fun t ht hW => ⟨⟨some (l_ x), h, rfl, hp, by rw [ht]; exact hP, hD⟩, hS.F ht⟩) hS.2.2 hd hlocks
end MR
theorem lwl_args (g : GP) (args : List PV) (k : Nat) : ∀ n : Nat, lwl g n ((args.map (fun v => some (Sum.inl v : PW))) ++ List.replicate k none) = lvl g n (args.map some ++ List.replicate k none) := by
  induction args with
  | nil =>
    intro n
    induction k generalizing n with
    | zero => rfl
    | succ k ih =>
      have := ih (n + 1)
      simp only [List.map_nil, List.nil_append] at this ⊢
      simp only [List.replicate_succ, lwl, lvl]
      exact this
  | cons v t ih =>
    intro n
    simp only [List.map_cons, List.cons_append, lwl, lvl]
    rw [ih (n + 1)]
    rfl
theorem PMw_of {f : Nat} {y : MethodName} {cc : ByteArray} {nL : Nat} {rt : Option FieldType} {h : List PO} {args : List PV} {post : Option PW → List PO → Prop} (lv : List (Option PW))
    (ho : y.cls = RL) (hy : plainName y.cls = true) (hn : args.length ≤ nL) (hlv : args.map (fun v => some (Sum.inl v : PW)) ++ List.replicate (nL - args.length) none = lv)
    (k : GM f cc nL rt h 0 lv [] post) : PMw f y cc nL rt h args post := by
  intro l g
  refine Met.ofW (cc := cc) (maxL := nL) (ret := rt) hy rfl ?_
  intro p e s m a below meth c s₁ B hml hv
  obtain ⟨rfl, hK, hP, hD, hE⟩ := hv
  have hts := atoms_spec (ws := .code y cc nL rt :: GW) B.pre
  have hown : s.vm.findClass RL = some m.cls := by rw [← ho]; exact findClass_of_methodNamed B.named
  have hl := lv_entry (args.map (tr g)) (n := nL) (by rw [lg_sl_len]; exact hn)
  rw [lg_entry_eq]
  rw [lv_args_lvl g args 0 (nL - args.length), ← lwl_args g args (nL - args.length) 0, hlv] at hl
  exact k g p l e s m _ below meth c s.heap [] _ ⟨B.returns, B.notSynchronized⟩ (ro_m f) ⟨B.exec, B.bytes, hml, hown, fun w hw => hts w (List.mem_cons_of_mem _ hw), trivial⟩ hE hK hP hD va_S.rf hl
