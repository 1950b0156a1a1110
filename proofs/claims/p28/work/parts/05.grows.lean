section GR
variable {f : Nat} {cc : ByteArray} {own : String} {nL : Nat} {rt : Option FieldType} {h : List PO} {pc : Nat} {lv : List (Option PV)} {st : List PV} {post : Option PV → List PO → Prop}
theorem G_w {pc2 : Nat} {lv2 : List (Option PV)} {st2 : List PV} {h2 : List PO}
    (q : ∀ (g : GP) (p : Program) (l : Launch) (e : Jvm.Env) (s : State) (m : MethodId) (args : Array Value) (below : List Frame) (meth : Method) (c : Code) (H : Heap) (locs : List Loc) (ls : Array Slot), Mx p s m args meth c cc own nL rt → Env g s → gK g ≤ s.heap.size → va_P (gD g) vwCl (wld g h) H → va_D (gA g) (wld g h) → va_S (gA g) s.heap H locs → lvh g ls nL lv →
      (∀ (H : Heap) (locs : List Loc) (ls : Array Slot), va_P (gD g) vwCl (wld g h2) H → va_D (gA g) (wld g h2) → va_S (gA g) s.heap H locs → lvh g ls nL lv2 → W p l e (rm f) s m args below meth c H locs 0 0 (MQ below (Qcg g post) args s 0 0 (gA g)) (F0 m pc2 ls (st2.map (tr g)))) →
      W p l e (rm f) s m args below meth c H locs 0 0 (MQ below (Qcg g post) args s 0 0 (gA g)) (F0 m pc ls (st.map (tr g))))
    (k : G f cc own nL rt h2 pc2 lv2 st2 post) : G f cc own nL rt h pc lv st post :=
  fun g p l e s m args below meth c H locs ls M E hK hP hD hS hl => q g p l e s m args below meth c H locs ls M E hK hP hD hS hl (fun H locs ls hP hD hS hl => k g p l e s m args below meth c H locs ls M E hK hP hD hS hl)
theorem G_iconst {n : Int} (hd : decode cc pc = .ok (.iconst n, 1)) (k : G f cc own nL rt h (pc + 1) lv (i_ n :: st) post) : G f cc own nL rt h pc lv st post :=
  G_w (fun g p l e s m args below meth c H locs ls M E hK hP hD hS hl kk => lv_iconst (v := I n) M.1 M.2.1 hd rfl (kk H locs ls hP hD hS hl)) k
theorem I_byte {n : Int} (a : -128 ≤ n) (b : n ≤ 127) : (Int8.ofInt n).toInt32 = I n := by
  rw [← Int32.toInt_inj, I_toInt ⟨by omega, by omega⟩, Int8.toInt_toInt32, Int8.toInt_ofInt_of_le (by omega) (by omega)]
theorem I_short {n : Int} (a : -32768 ≤ n) (b : n ≤ 32767) : (Int16.ofInt n).toInt32 = I n := by
  rw [← Int32.toInt_inj, I_toInt ⟨by omega, by omega⟩, Int16.toInt_toInt32, Int16.toInt_ofInt_of_le (by omega) (by omega)]
theorem G_bipush {n : Int} (hd : decode cc pc = .ok (.bipush n, 2)) (ha : decide (-128 ≤ n ∧ n ≤ 127) = true) (k : G f cc own nL rt h (pc + 2) lv (i_ n :: st) post) : G f cc own nL rt h pc lv st post :=
  G_w (fun g p l e s m args below meth c H locs ls M E hK hP hD hS hl kk => lv_bipush (v := I n) M.1 M.2.1 hd (I_byte (of_decide_eq_true ha).1 (of_decide_eq_true ha).2) (kk H locs ls hP hD hS hl)) k
theorem G_sipush {n : Int} (hd : decode cc pc = .ok (.sipush n, 3)) (ha : decide (-32768 ≤ n ∧ n ≤ 32767) = true) (k : G f cc own nL rt h (pc + 3) lv (i_ n :: st) post) : G f cc own nL rt h pc lv st post :=
  G_w (fun g p l e s m args below meth c H locs ls M E hK hP hD hS hl kk => lv_sipush (v := I n) M.1 M.2.1 hd (I_short (of_decide_eq_true ha).1 (of_decide_eq_true ha).2) (kk H locs ls hP hD hS hl)) k
theorem G_iload_n {q : Fin 4} {i : Nat} {x : Int} (hd : decode cc pc = .ok (.iload_n q, 1)) (hi : (q : Nat) = i) (hv : lv[i]? = some (some (i_ x))) (k : G f cc own nL rt h (pc + 1) lv (i_ x :: st) post) : G f cc own nL rt h pc lv st post :=
  G_w (fun g p l e s m args below meth c H locs ls M E hK hP hD hS hl kk => lv_iload_n (x := I x) M.1 M.2.1 hd hi (lvh_at hl hv) (kk H locs ls hP hD hS hl)) k
theorem G_iload {i : Nat} {x : Int} (hd : decode cc pc = .ok (.iload i, 2)) (hv : lv[i]? = some (some (i_ x))) (k : G f cc own nL rt h (pc + 2) lv (i_ x :: st) post) : G f cc own nL rt h pc lv st post :=
  G_w (fun g p l e s m args below meth c H locs ls M E hK hP hD hS hl kk => lv_iload (x := I x) M.1 M.2.1 hd (lvh_at hl hv) (kk H locs ls hP hD hS hl)) k
theorem G_aload_n {q : Fin 4} {i : Nat} {x : Nat} (hd : decode cc pc = .ok (.aload_n q, 1)) (hi : (q : Nat) = i) (hv : lv[i]? = some (some (r_ x))) (k : G f cc own nL rt h (pc + 1) lv (r_ x :: st) post) : G f cc own nL rt h pc lv st post :=
  G_w (fun g p l e s m args below meth c H locs ls M E hK hP hD hS hl kk => lv_aload_n (x := gad g x) M.1 M.2.1 hd hi (lvh_at hl hv) (kk H locs ls hP hD hS hl)) k
theorem G_aload {i : Nat} {x : Nat} (hd : decode cc pc = .ok (.aload i, 2)) (hv : lv[i]? = some (some (r_ x))) (k : G f cc own nL rt h (pc + 2) lv (r_ x :: st) post) : G f cc own nL rt h pc lv st post :=
  G_w (fun g p l e s m args below meth c H locs ls M E hK hP hD hS hl kk => lv_aload (x := gad g x) M.1 M.2.1 hd (lvh_at hl hv) (kk H locs ls hP hD hS hl)) k
theorem G_istore_n {q : Fin 4} {i : Nat} {x : Int} {lv2 : List (Option PV)} (hd : decode cc pc = .ok (.istore_n q, 1)) (hi : (q : Nat) = i) (hn : i < nL) (hl2 : lv.set i (some (i_ x)) = lv2) (k : G f cc own nL rt h (pc + 1) lv2 st post) : G f cc own nL rt h pc lv (i_ x :: st) post :=
  G_w (fun g p l e s m args below meth c H locs ls M E hK hP hD hS hl kk => lv_istore_n (x := I x) (nL := nL) (lv := lvl g 0 lv) M.1 M.2.1 hd hi hl hn rfl (fun ls' hl' => kk H locs ls' hP hD hS (hl2 ▸ lvh_set (v := i_ x) hl'))) k
theorem G_istore {i : Nat} {x : Int} {lv2 : List (Option PV)} (hd : decode cc pc = .ok (.istore i, 2)) (hn : i < nL) (hl2 : lv.set i (some (i_ x)) = lv2) (k : G f cc own nL rt h (pc + 2) lv2 st post) : G f cc own nL rt h pc lv (i_ x :: st) post :=
  G_w (fun g p l e s m args below meth c H locs ls M E hK hP hD hS hl kk => lv_istore (x := I x) (nL := nL) (lv := lvl g 0 lv) M.1 M.2.1 hd hl hn rfl (fun ls' hl' => kk H locs ls' hP hD hS (hl2 ▸ lvh_set (v := i_ x) hl'))) k
theorem G_astore_n {q : Fin 4} {i : Nat} {x : Nat} {lv2 : List (Option PV)} (hd : decode cc pc = .ok (.astore_n q, 1)) (hi : (q : Nat) = i) (hn : i < nL) (hl2 : lv.set i (some (r_ x)) = lv2) (k : G f cc own nL rt h (pc + 1) lv2 st post) : G f cc own nL rt h pc lv (r_ x :: st) post :=
  G_w (fun g p l e s m args below meth c H locs ls M E hK hP hD hS hl kk => lv_astore_n (x := gad g x) (nL := nL) (lv := lvl g 0 lv) M.1 M.2.1 hd hi hl hn rfl (fun ls' hl' => kk H locs ls' hP hD hS (hl2 ▸ lvh_set (v := r_ x) hl'))) k
theorem G_astore {i : Nat} {x : Nat} {lv2 : List (Option PV)} (hd : decode cc pc = .ok (.astore i, 2)) (hn : i < nL) (hl2 : lv.set i (some (r_ x)) = lv2) (k : G f cc own nL rt h (pc + 2) lv2 st post) : G f cc own nL rt h pc lv (r_ x :: st) post :=
  G_w (fun g p l e s m args below meth c H locs ls M E hK hP hD hS hl kk => lv_astore (x := gad g x) (nL := nL) (lv := lvl g 0 lv) M.1 M.2.1 hd hl hn rfl (fun ls' hl' => kk H locs ls' hP hD hS (hl2 ▸ lvh_set (v := r_ x) hl'))) k
theorem lvl_find {g : GP} {lv : List (Option PV)} {i : Nat} {v : PV} (e : lv[i]? = some (some v)) : ∃ k : Nat, (lvl g 0 lv)[k]? = some (i, tr g v) := List.getElem?_of_mem (lvl_mem.mpr ⟨i, v, e, by simp⟩)
theorem G_iinc {i : Nat} {n x : Int} {lv2 : List (Option PV)} (hd : decode cc pc = .ok (.iinc i n, 3)) (hn : i < nL) (hv : lv[i]? = some (some (i_ x))) (hl2 : lv.set i (some (i_ (x + n))) = lv2) (k : G f cc own nL rt h (pc + 3) lv2 st post) : G f cc own nL rt h pc lv st post :=
  G_w (fun g p l e s m args below meth c H locs ls M E hK hP hD hS hl kk => by
    obtain ⟨q, hq⟩ := lvl_find (g := g) hv
    exact lv_iinc (x := I x) (v := I (x + n)) (nL := nL) (lv := lvl g 0 lv) (k := q) M.1 M.2.1 hd hl hq (I_add x n) hn rfl (fun ls' hl' => kk H locs ls' hP hD hS (hl2 ▸ lvh_set (v := i_ (x + n)) hl'))) k
theorem G_forget (i : Nat) (k : G f cc own nL rt h pc (lv.set i none) st post) : G f cc own nL rt h pc lv st post :=
  G_w (fun g p l e s m args below meth c H locs ls M E hK hP hD hS hl kk => kk H locs ls hP hD hS (lvh_none i hl)) k
theorem G_iadd {x y : Int} (hd : decode cc pc = .ok (.iadd, 1)) (k : G f cc own nL rt h (pc + 1) lv (i_ (x + y) :: st) post) : G f cc own nL rt h pc lv (i_ y :: i_ x :: st) post :=
  G_w (fun g p l e s m args below meth c H locs ls M E hK hP hD hS hl kk => lv_iadd (x := I x) (y := I y) M.1 M.2.1 hd (by rw [I_add]; exact kk H locs ls hP hD hS hl)) k
theorem G_isub {x y : Int} (hd : decode cc pc = .ok (.isub, 1)) (k : G f cc own nL rt h (pc + 1) lv (i_ (x - y) :: st) post) : G f cc own nL rt h pc lv (i_ y :: i_ x :: st) post :=
  G_w (fun g p l e s m args below meth c H locs ls M E hK hP hD hS hl kk => lv_isub (x := I x) (y := I y) M.1 M.2.1 hd (by rw [I_sub]; exact kk H locs ls hP hD hS hl)) k
theorem G_imul {x y : Int} (hd : decode cc pc = .ok (.imul, 1)) (k : G f cc own nL rt h (pc + 1) lv (i_ (x * y) :: st) post) : G f cc own nL rt h pc lv (i_ y :: i_ x :: st) post :=
  G_w (fun g p l e s m args below meth c H locs ls M E hK hP hD hS hl kk => lv_imul (x := I x) (y := I y) M.1 M.2.1 hd (by rw [I_mul]; exact kk H locs ls hP hD hS hl)) k
theorem G_ineg {x : Int} (hd : decode cc pc = .ok (.ineg, 1)) (k : G f cc own nL rt h (pc + 1) lv (i_ (-x) :: st) post) : G f cc own nL rt h pc lv (i_ x :: st) post :=
  G_w (fun g p l e s m args below meth c H locs ls M E hK hP hD hS hl kk => lv_ineg (x := I x) M.1 M.2.1 hd (by rw [I_neg]; exact kk H locs ls hP hD hS hl)) k
theorem G_dup {v : PV} (hd : decode cc pc = .ok (.dup, 1)) (k : G f cc own nL rt h (pc + 1) lv (v :: v :: st) post) : G f cc own nL rt h pc lv (v :: st) post :=
  G_w (fun g p l e s m args below meth c H locs ls M E hK hP hD hS hl kk => lv_dup M.1 M.2.1 hd (tr_cat g v) (kk H locs ls hP hD hS hl)) k
theorem G_dup2 {v w : PV} (hd : decode cc pc = .ok (.dup2, 1)) (k : G f cc own nL rt h (pc + 1) lv (v :: w :: v :: w :: st) post) : G f cc own nL rt h pc lv (v :: w :: st) post :=
  G_w (fun g p l e s m args below meth c H locs ls M E hK hP hD hS hl kk => lv_dup2_11 M.1 M.2.1 hd (tr_cat g v) (tr_cat g w) (kk H locs ls hP hD hS hl)) k
theorem G_pop {v : PV} (hd : decode cc pc = .ok (.pop, 1)) (k : G f cc own nL rt h (pc + 1) lv st post) : G f cc own nL rt h pc lv (v :: st) post :=
  G_w (fun g p l e s m args below meth c H locs ls M E hK hP hD hS hl kk => lv_pop M.1 M.2.1 hd (tr_cat g v) (kk H locs ls hP hD hS hl)) k
theorem G_goto {off : Int} {tgt : Nat} (hd : decode cc pc = .ok (.goto off, 3)) (ht : (pc : Int) + off = (tgt : Int)) (k : G f cc own nL rt h tgt lv st post) : G f cc own nL rt h pc lv st post :=
  G_w (fun g p l e s m args below meth c H locs ls M E hK hP hD hS hl kk => lv_goto M.1 M.2.1 hd ht (kk H locs ls hP hD hS hl)) k
theorem G_icmp_eq {x y : Int} {off : Int} {tgt : Nat} (hd : decode cc pc = .ok (.if_icmp .eq off, 3)) (ht : (pc : Int) + off = (tgt : Int)) (hx : inR x) (hy : inR y) (kt : x = y → G f cc own nL rt h tgt lv st post) (kf : ¬ x = y → G f cc own nL rt h (pc + 3) lv st post) : G f cc own nL rt h pc lv (i_ y :: i_ x :: st) post :=
  fun g p l e s m args below meth c H locs ls M E hK hP hD hS hl => lv_icmp_eq (x := I x) (y := I y) M.1 M.2.1 hd ht (fun q => kt ((I_eq hx hy).mp q) g p l e s m args below meth c H locs ls M E hK hP hD hS hl) (fun q => kf (fun z => q ((I_eq hx hy).mpr z)) g p l e s m args below meth c H locs ls M E hK hP hD hS hl)
theorem G_if_eq {x : Int} {off : Int} {tgt : Nat} (hd : decode cc pc = .ok (.ifCond .eq off, 3)) (ht : (pc : Int) + off = (tgt : Int)) (hx : inR x) (kt : x = 0 → G f cc own nL rt h tgt lv st post) (kf : ¬ x = 0 → G f cc own nL rt h (pc + 3) lv st post) : G f cc own nL rt h pc lv (i_ x :: st) post :=
  fun g p l e s m args below meth c H locs ls M E hK hP hD hS hl => lv_if_eq (x := I x) M.1 M.2.1 hd ht (fun q => kt ((I_eq0 hx).mp q) g p l e s m args below meth c H locs ls M E hK hP hD hS hl) (fun q => kf (fun z => q ((I_eq0 hx).mpr z)) g p l e s m args below meth c H locs ls M E hK hP hD hS hl)
theorem G_icmp_ne {x y : Int} {off : Int} {tgt : Nat} (hd : decode cc pc = .ok (.if_icmp .ne off, 3)) (ht : (pc : Int) + off = (tgt : Int)) (hx : inR x) (hy : inR y) (kt : ¬ x = y → G f cc own nL rt h tgt lv st post) (kf : x = y → G f cc own nL rt h (pc + 3) lv st post) : G f cc own nL rt h pc lv (i_ y :: i_ x :: st) post :=
  fun g p l e s m args below meth c H locs ls M E hK hP hD hS hl => lv_icmp_ne (x := I x) (y := I y) M.1 M.2.1 hd ht (fun q => kt (fun z => q ((I_eq hx hy).mpr z)) g p l e s m args below meth c H locs ls M E hK hP hD hS hl) (fun q => kf ((I_eq hx hy).mp q) g p l e s m args below meth c H locs ls M E hK hP hD hS hl)
theorem G_if_ne {x : Int} {off : Int} {tgt : Nat} (hd : decode cc pc = .ok (.ifCond .ne off, 3)) (ht : (pc : Int) + off = (tgt : Int)) (hx : inR x) (kt : ¬ x = 0 → G f cc own nL rt h tgt lv st post) (kf : x = 0 → G f cc own nL rt h (pc + 3) lv st post) : G f cc own nL rt h pc lv (i_ x :: st) post :=
  fun g p l e s m args below meth c H locs ls M E hK hP hD hS hl => lv_if_ne (x := I x) M.1 M.2.1 hd ht (fun q => kt (fun z => q ((I_eq0 hx).mpr z)) g p l e s m args below meth c H locs ls M E hK hP hD hS hl) (fun q => kf ((I_eq0 hx).mp q) g p l e s m args below meth c H locs ls M E hK hP hD hS hl)
theorem G_icmp_lt {x y : Int} {off : Int} {tgt : Nat} (hd : decode cc pc = .ok (.if_icmp .lt off, 3)) (ht : (pc : Int) + off = (tgt : Int)) (hx : inR x) (hy : inR y) (kt : x < y → G f cc own nL rt h tgt lv st post) (kf : y ≤ x → G f cc own nL rt h (pc + 3) lv st post) : G f cc own nL rt h pc lv (i_ y :: i_ x :: st) post :=
  fun g p l e s m args below meth c H locs ls M E hK hP hD hS hl => lv_icmp_lt (x := I x) (y := I y) M.1 M.2.1 hd ht (fun q => kt ((I_lt hx hy).mp q) g p l e s m args below meth c H locs ls M E hK hP hD hS hl) (fun q => kf (Int.not_lt.mp (fun z => q ((I_lt hx hy).mpr z))) g p l e s m args below meth c H locs ls M E hK hP hD hS hl)
theorem G_if_lt {x : Int} {off : Int} {tgt : Nat} (hd : decode cc pc = .ok (.ifCond .lt off, 3)) (ht : (pc : Int) + off = (tgt : Int)) (hx : inR x) (kt : x < 0 → G f cc own nL rt h tgt lv st post) (kf : 0 ≤ x → G f cc own nL rt h (pc + 3) lv st post) : G f cc own nL rt h pc lv (i_ x :: st) post :=
  fun g p l e s m args below meth c H locs ls M E hK hP hD hS hl => lv_if_lt (x := I x) M.1 M.2.1 hd ht (fun q => kt ((I_lt0 hx).mp q) g p l e s m args below meth c H locs ls M E hK hP hD hS hl) (fun q => kf (Int.not_lt.mp (fun z => q ((I_lt0 hx).mpr z))) g p l e s m args below meth c H locs ls M E hK hP hD hS hl)
theorem G_icmp_ge {x y : Int} {off : Int} {tgt : Nat} (hd : decode cc pc = .ok (.if_icmp .ge off, 3)) (ht : (pc : Int) + off = (tgt : Int)) (hx : inR x) (hy : inR y) (kt : y ≤ x → G f cc own nL rt h tgt lv st post) (kf : x < y → G f cc own nL rt h (pc + 3) lv st post) : G f cc own nL rt h pc lv (i_ y :: i_ x :: st) post :=
  fun g p l e s m args below meth c H locs ls M E hK hP hD hS hl => lv_icmp_ge (x := I x) (y := I y) M.1 M.2.1 hd ht (fun q => kt ((I_le hy hx).mp q) g p l e s m args below meth c H locs ls M E hK hP hD hS hl) (fun q => kf (Int.not_le.mp (fun z => q ((I_le hy hx).mpr z))) g p l e s m args below meth c H locs ls M E hK hP hD hS hl)
theorem G_if_ge {x : Int} {off : Int} {tgt : Nat} (hd : decode cc pc = .ok (.ifCond .ge off, 3)) (ht : (pc : Int) + off = (tgt : Int)) (hx : inR x) (kt : 0 ≤ x → G f cc own nL rt h tgt lv st post) (kf : x < 0 → G f cc own nL rt h (pc + 3) lv st post) : G f cc own nL rt h pc lv (i_ x :: st) post :=
  fun g p l e s m args below meth c H locs ls M E hK hP hD hS hl => lv_if_ge (x := I x) M.1 M.2.1 hd ht (fun q => kt ((I_ge0 hx).mp q) g p l e s m args below meth c H locs ls M E hK hP hD hS hl) (fun q => kf (Int.not_le.mp (fun z => q ((I_ge0 hx).mpr z))) g p l e s m args below meth c H locs ls M E hK hP hD hS hl)
theorem G_icmp_gt {x y : Int} {off : Int} {tgt : Nat} (hd : decode cc pc = .ok (.if_icmp .gt off, 3)) (ht : (pc : Int) + off = (tgt : Int)) (hx : inR x) (hy : inR y) (kt : y < x → G f cc own nL rt h tgt lv st post) (kf : x ≤ y → G f cc own nL rt h (pc + 3) lv st post) : G f cc own nL rt h pc lv (i_ y :: i_ x :: st) post :=
  fun g p l e s m args below meth c H locs ls M E hK hP hD hS hl => lv_icmp_gt (x := I x) (y := I y) M.1 M.2.1 hd ht (fun q => kt ((I_lt hy hx).mp q) g p l e s m args below meth c H locs ls M E hK hP hD hS hl) (fun q => kf (Int.not_lt.mp (fun z => q ((I_lt hy hx).mpr z))) g p l e s m args below meth c H locs ls M E hK hP hD hS hl)
theorem G_if_gt {x : Int} {off : Int} {tgt : Nat} (hd : decode cc pc = .ok (.ifCond .gt off, 3)) (ht : (pc : Int) + off = (tgt : Int)) (hx : inR x) (kt : 0 < x → G f cc own nL rt h tgt lv st post) (kf : x ≤ 0 → G f cc own nL rt h (pc + 3) lv st post) : G f cc own nL rt h pc lv (i_ x :: st) post :=
  fun g p l e s m args below meth c H locs ls M E hK hP hD hS hl => lv_if_gt (x := I x) M.1 M.2.1 hd ht (fun q => kt ((I_gt0 hx).mp q) g p l e s m args below meth c H locs ls M E hK hP hD hS hl) (fun q => kf (Int.not_lt.mp (fun z => q ((I_gt0 hx).mpr z))) g p l e s m args below meth c H locs ls M E hK hP hD hS hl)
theorem G_icmp_le {x y : Int} {off : Int} {tgt : Nat} (hd : decode cc pc = .ok (.if_icmp .le off, 3)) (ht : (pc : Int) + off = (tgt : Int)) (hx : inR x) (hy : inR y) (kt : x ≤ y → G f cc own nL rt h tgt lv st post) (kf : y < x → G f cc own nL rt h (pc + 3) lv st post) : G f cc own nL rt h pc lv (i_ y :: i_ x :: st) post :=
  fun g p l e s m args below meth c H locs ls M E hK hP hD hS hl => lv_icmp_le (x := I x) (y := I y) M.1 M.2.1 hd ht (fun q => kt ((I_le hx hy).mp q) g p l e s m args below meth c H locs ls M E hK hP hD hS hl) (fun q => kf (Int.not_le.mp (fun z => q ((I_le hx hy).mpr z))) g p l e s m args below meth c H locs ls M E hK hP hD hS hl)
theorem G_if_le {x : Int} {off : Int} {tgt : Nat} (hd : decode cc pc = .ok (.ifCond .le off, 3)) (ht : (pc : Int) + off = (tgt : Int)) (hx : inR x) (kt : x ≤ 0 → G f cc own nL rt h tgt lv st post) (kf : 0 < x → G f cc own nL rt h (pc + 3) lv st post) : G f cc own nL rt h pc lv (i_ x :: st) post :=
  fun g p l e s m args below meth c H locs ls M E hK hP hD hS hl => lv_if_le (x := I x) M.1 M.2.1 hd ht (fun q => kt ((I_le0 hx).mp q) g p l e s m args below meth c H locs ls M E hK hP hD hS hl) (fun q => kf (Int.not_le.mp (fun z => q ((I_le0 hx).mpr z))) g p l e s m args below meth c H locs ls M E hK hP hD hS hl)
theorem G_ifnonnull {x : Nat} {off : Int} {tgt : Nat} (hd : decode cc pc = .ok (.ifnonnull off, 3)) (ht : (pc : Int) + off = (tgt : Int)) (k : G f cc own nL rt h tgt lv st post) : G f cc own nL rt h pc lv (r_ x :: st) post :=
  G_w (fun g p l e s m args below meth c H locs ls M E hK hP hD hS hl kk => lv_ifnonnull (x := gad g x) M.1 M.2.1 hd ht (kk H locs ls hP hD hS hl)) k
theorem G_ifnull {x : Nat} {off : Int} (hd : decode cc pc = .ok (.ifnull off, 3)) (k : G f cc own nL rt h (pc + 3) lv st post) : G f cc own nL rt h pc lv (r_ x :: st) post :=
  G_w (fun g p l e s m args below meth c H locs ls M E hK hP hD hS hl kk => lv_ifnull (x := gad g x) M.1 M.2.1 hd (kk H locs ls hP hD hS hl)) k
theorem G_ldc {idx : Nat} {x : Int} (hd : decode cc pc = .ok (.ldc idx, 2)) (hc : Cond.constant own idx (I x) ∈ GW) (k : G f cc own nL rt h (pc + 2) lv (i_ x :: st) post) : G f cc own nL rt h pc lv st post :=
  G_w (fun g p l e s m args below meth c H locs ls M E hK hP hD hS hl kk => lv_ldc (v := I x) M.1 M.2.1 M.2.2.2.1 (M.2.2.2.2.1 _ hc) hd (kk H locs ls hP hD hS hl)) k
theorem G_tblIn {dflt lo hi : Int} {offs : Array Int} {len : Nat} {x : Int} {off : Int} {tgt : Nat} (hd : decode cc pc = .ok (.tableswitch dflt lo hi offs, len)) (hx : inR x) (h1 : lo ≤ x) (h2 : x ≤ hi) (ho : offs[(x - lo).toNat]? = some off) (ht : (pc : Int) + off = (tgt : Int)) (k : G f cc own nL rt h tgt lv st post) : G f cc own nL rt h pc lv (i_ x :: st) post :=
  G_w (fun g p l e s m args below meth c H locs ls M E hK hP hD hS hl kk => lv_tableIn (x := I x) M.1 M.2.1 hd (by rw [I_toInt hx]; omega) (by rw [I_toInt hx]; omega) (by rw [I_toInt hx]; exact ho) ht (kk H locs ls hP hD hS hl)) k
theorem G_tblOut {dflt lo hi : Int} {offs : Array Int} {len : Nat} {x : Int} {tgt : Nat} (hd : decode cc pc = .ok (.tableswitch dflt lo hi offs, len)) (hx : inR x) (h1 : x < lo ∨ hi < x) (ht : (pc : Int) + dflt = (tgt : Int)) (k : G f cc own nL rt h tgt lv st post) : G f cc own nL rt h pc lv (i_ x :: st) post :=
  G_w (fun g p l e s m args below meth c H locs ls M E hK hP hD hS hl kk => lv_tableOut (x := I x) M.1 M.2.1 hd (by rw [I_toInt hx]; exact h1) ht (kk H locs ls hP hD hS hl)) k
theorem G_lookup {dflt : Int} {ps : Array (Int × Int)} {len : Nat} {x off : Int} {tgt : Nat} (hd : decode cc pc = .ok (.lookupswitch dflt ps, len)) (hp : (ps.toList.zip (ps.toList.drop 1)).all (fun (a, next) => a.1 < next.1) = true) (hx : inR x) (ho : Op.lookupswitch.offset ps.toList dflt x = off) (ht : (pc : Int) + off = (tgt : Int)) (k : G f cc own nL rt h tgt lv st post) : G f cc own nL rt h pc lv (i_ x :: st) post :=
  G_w (fun g p l e s m args below meth c H locs ls M E hK hP hD hS hl kk => lv_lookup (x := I x) M.1 M.2.1 hd hp (by rw [I_toInt hx]; exact ho) ht (kk H locs ls hP hD hS hl)) k
/-- fields: what a getfield of an object of class ci, field k, links -/
def FL (own : String) (idx ci k : Nat) : Prop := ∃ (C : String) (T : u_T) (N : Nat), vwCl[ci]? = some (C, T, N) ∧ k < N ∧ (∀ w ∈ u_ws C T N, w ∈ GW) ∧ Cond.fieldLink own idx (T k).1 (T k).2.1 (T k).2.2.1 ∈ GW
def FP (own : String) (idx ci k : Nat) (ty : FieldType) : Prop := ∃ (C : String) (T : u_T) (N : Nat) (ty0 : Nat → FieldType), vwCl[ci]? = some (C, T, N) ∧ k < N ∧ (∀ w ∈ u_ws C T N, w ∈ GW) ∧ Cond.fieldLink own idx (T k).1 (T k).2.1 (T k).2.2.1 ∈ GW ∧ (∀ k, k < N → parseFieldDescriptor (T k).2.2.1 = some (ty0 k)) ∧ (∀ a, a < N → ∀ b, b < N → a ≠ b → (T a).2.1 ≠ (T b).2.1) ∧ (T k).2.2.2 = false ∧ parseFieldDescriptor (T k).2.2.1 = some ty
theorem G_getf {idx b ci k : Nat} {fs : List PV} {v : PV} (hF : FL own idx ci k) (hd : decode cc pc = .ok (.getfield idx, 3)) (hb : h[b]? = some (oO ci fs)) (hv : fs[k]? = some v) (kk : G f cc own nL rt h (pc + 3) lv (v :: st) post) : G f cc own nL rt h pc lv (r_ b :: st) post := by
  obtain ⟨C, T, N, h1, h2, h3, h4⟩ := hF
  refine G_w (fun g p l e s m args below meth c H locs ls M E hK hP hD hS hl kk => ?_) kk
  exact va_get (D := gD g) (cl := vwCl) (ci := ci) (v := tr g v) (fs := fs.map (tr g)) M.1 M.2.1 M.2.2.2.2.1 h3 M.2.2.2.1 E.1 hP b (wld_get hb) h1 k h2 (M.2.2.2.2.1 _ h4) (fun _ q => q) (by rw [List.getElem?_map, hv]; rfl) hd (kk H locs ls hP hD hS hl)
theorem G_putI {idx b ci k : Nat} {fs : List PV} {x : Int} {fs2 : List PV} (hF : FP own idx ci k .int) (hd : decode cc pc = .ok (.putfield idx, 3)) (hb : h[b]? = some (oO ci fs)) (hk : k < fs.length) (hfs : fs.set k (i_ x) = fs2) (kk : G f cc own nL rt (h.set b (oO ci fs2)) (pc + 3) lv st post) : G f cc own nL rt h pc lv (i_ x :: r_ b :: st) post := by
  obtain ⟨C, T, N, ty0, h1, h2, h3, h4, h5, h6, h7, h8⟩ := hF
  subst hfs
  refine G_w (fun g p l e s m args below meth c H locs ls M E hK hP hD hS hl kk => ?_) kk
  refine va_put (D := gD g) (cl := vwCl) (ci := ci) (v := .int (I x)) (ty := .int) (fs := fs.map (tr g)) M.1 M.2.1 M.2.2.2.2.1 h3 ty0 h5 h6 M.2.2.2.1 E.1 hP hD hS b (wld_get hb) h1 k h2 (M.2.2.2.2.1 _ h4) (fun _ q => q) h7 h8 rfl rfl (by simpa using hk) hd (fun H1 locs1 hP1 hD1 hS1 => ?_)
  have e : (wld g h).set b (gad g b, .inr (ci, (fs.map (tr g)).set k (.int (I x)))) = wld g (h.set b (oO ci (fs.set k (i_ x)))) := by
    rw [wld_set]
    show _ = (wld g h).set b (gad g b, .inr (ci, (fs.set k (i_ x)).map (tr g)))
    rw [List.map_set]
    rfl
  rw [e] at hP1 hD1
  exact kk H1 locs1 ls hP1 hD1 hS1 hl
theorem G_putZ {idx b ci k : Nat} {fs : List PV} {x : Int} {fs2 : List PV} (hF : FP own idx ci k .boolean) (hd : decode cc pc = .ok (.putfield idx, 3)) (hx : x = 0 ∨ x = 1) (hb : h[b]? = some (oO ci fs)) (hk : k < fs.length) (hfs : fs.set k (i_ x) = fs2) (kk : G f cc own nL rt (h.set b (oO ci fs2)) (pc + 3) lv st post) : G f cc own nL rt h pc lv (i_ x :: r_ b :: st) post := by
  obtain ⟨C, T, N, ty0, h1, h2, h3, h4, h5, h6, h7, h8⟩ := hF
  subst hfs
  refine G_w (fun g p l e s m args below meth c H locs ls M E hK hP hD hS hl kk => ?_) kk
  refine va_put (D := gD g) (cl := vwCl) (ci := ci) (v := .int (I x)) (ty := .boolean) (fs := fs.map (tr g)) M.1 M.2.1 M.2.2.2.2.1 h3 ty0 h5 h6 M.2.2.2.1 E.1 hP hD hS b (wld_get hb) h1 k h2 (M.2.2.2.2.1 _ h4) (fun _ q => q) h7 h8 (by rcases hx with rfl | rfl <;> rfl) (by rcases hx with rfl | rfl <;> rfl) (by simpa using hk) hd (fun H1 locs1 hP1 hD1 hS1 => ?_)
  have e : (wld g h).set b (gad g b, .inr (ci, (fs.map (tr g)).set k (.int (I x)))) = wld g (h.set b (oO ci (fs.set k (i_ x)))) := by
    rw [wld_set]
    show _ = (wld g h).set b (gad g b, .inr (ci, (fs.set k (i_ x)).map (tr g)))
    rw [List.map_set]
    rfl
  rw [e] at hP1 hD1
  exact kk H1 locs1 ls hP1 hD1 hS1 hl
theorem clampN {x : Int} {n : Nat} (h0 : 0 ≤ x) (h1 : x < n) (hn : n ≤ 2147483647) : ((I x).toNatClampNeg : Int) = x := by
  rw [I_clamp ⟨by omega, by omega⟩]; omega
theorem G_iald {a n : Nat} {q : Int → Int} {x : Int} (hd : decode cc pc = .ok (.iaload, 1)) (ha : h[a]? = some (oI n q)) (h0 : 0 ≤ x) (h1 : x < n) (hn : n ≤ 2147483647 := by decide) (kk : G f cc own nL rt h (pc + 1) lv (i_ (q x) :: st) post) : G f cc own nL rt h pc lv (i_ x :: r_ a :: st) post := by
  refine G_w (fun g p l e s m args below meth c H locs ls M E hK hP hD hS hl kk => ?_) kk
  refine va_iald (D := gD g) (cl := vwCl) (tys := gT g) (n := n) (f := fun k => I (q (k : Int))) M.1 M.2.1 E.1 hP a 0 (wld_get ha) rfl (I_in h0 h1 hn) hd ?_
  show W _ _ _ _ _ _ _ _ _ _ _ _ _ _ _ (F0 m (pc + 1) ls (.int (I (q (((I x).toNatClampNeg : Nat) : Int))) :: _))
  rw [clampN h0 h1 hn]
  exact kk H locs ls hP hD hS hl
theorem G_cald {a n : Nat} {q : Int → Int} {x : Int} (hd : decode cc pc = .ok (.caload, 1)) (ha : h[a]? = some (oC n q)) (h0 : 0 ≤ x) (h1 : x < n) (hn : n ≤ 2147483647 := by decide) (kk : G f cc own nL rt h (pc + 1) lv (i_ (q x) :: st) post) : G f cc own nL rt h pc lv (i_ x :: r_ a :: st) post := by
  refine G_w (fun g p l e s m args below meth c H locs ls M E hK hP hD hS hl kk => ?_) kk
  refine va_cald (D := gD g) (cl := vwCl) (tys := gT g) (n := n) (f := fun k => I (q (k : Int))) M.1 M.2.1 E.1 hP a 1 (wld_get ha) rfl (I_in h0 h1 hn) hd ?_
  show W _ _ _ _ _ _ _ _ _ _ _ _ _ _ _ (F0 m (pc + 1) ls (.int (I (q (((I x).toNatClampNeg : Nat) : Int))) :: _))
  rw [clampN h0 h1 hn]
  exact kk H locs ls hP hD hS hl
theorem fup_I {q : Int → Int} {x v : Int} {n : Nat} (h0 : 0 ≤ x) (h1 : x < n) (hn : n ≤ 2147483647) : upd (fun k => I (q (k : Int))) (I x).toNatClampNeg (I v) = fun k : Nat => I (fup q x v (k : Int)) := by
  funext k
  have e := clampN h0 h1 hn
  unfold upd fup
  by_cases hk : k = (I x).toNatClampNeg
  · rw [if_pos hk, if_pos (by rw [hk]; exact e)]
  · rw [if_neg hk, if_neg (fun z => hk (by omega))]
theorem G_iast {a n : Nat} {q q2 : Int → Int} {x v : Int} (hd : decode cc pc = .ok (.iastore, 1)) (ha : h[a]? = some (oI n q)) (h0 : 0 ≤ x) (h1 : x < n) (hn : n ≤ 2147483647 := by decide) (hq : fup q x v = q2) (kk : G f cc own nL rt (h.set a (oI n q2)) (pc + 1) lv st post) : G f cc own nL rt h pc lv (i_ v :: i_ x :: r_ a :: st) post := by
  subst hq
  refine G_w (fun g p l e s m args below meth c H locs ls M E hK hP hD hS hl kk => ?_) kk
  refine va_iast (D := gD g) (cl := vwCl) (tys := gT g) (n := n) (f := fun k => I (q (k : Int))) (x := I v) M.1 M.2.1 E.1 hP hD hS a 0 (wld_get ha) rfl (I_in h0 h1 hn) hd (fun H1 locs1 hP1 hD1 hS1 => ?_)
  have e : (wld g h).set a (gad g a, .inl (gI g, n, .inl (upd (fun k => I (q (k : Int))) (I x).toNatClampNeg (I v)))) = wld g (h.set a (oI n (fup q x v))) := by
    rw [wld_set, fup_I h0 h1 hn]
    rfl
  exact kk H1 locs1 ls (by rw [← e]; exact hP1) (by rw [← e]; exact hD1) hS1 hl
theorem nar_char {v : Int} (a : 0 ≤ v) (b : v ≤ 65535) : vp_nar .char (I v) = I v := by
  have e : I v = nI v.toNat := by
    unfold I nI
    rw [← Int32.ofInt_eq_ofNat]
    congr 1; omega
  rw [e]
  have h := (pk_charN (q := v.toNat) (by omega)).1
  unfold vp_nar
  rw [h]
theorem G_cast {a n : Nat} {q q2 : Int → Int} {x v : Int} (hd : decode cc pc = .ok (.castore, 1)) (ha : h[a]? = some (oC n q)) (h0 : 0 ≤ x) (h1 : x < n) (hv0 : 0 ≤ v) (hv1 : v ≤ 65535) (hn : n ≤ 2147483647 := by decide) (hq : fup q x v = q2) (kk : G f cc own nL rt (h.set a (oC n q2)) (pc + 1) lv st post) : G f cc own nL rt h pc lv (i_ v :: i_ x :: r_ a :: st) post := by
  subst hq
  refine G_w (fun g p l e s m args below meth c H locs ls M E hK hP hD hS hl kk => ?_) kk
  refine va_cast (D := gD g) (cl := vwCl) (tys := gT g) (n := n) (f := fun k => I (q (k : Int))) (x := I v) M.1 M.2.1 E.1 hP hD hS a 1 (wld_get ha) rfl (I_in h0 h1 hn) hd (fun H1 locs1 hP1 hD1 hS1 => ?_)
  rw [nar_char hv0 hv1] at hP1 hD1
  have e : (wld g h).set a (gad g a, .inl (gC g, n, .inl (upd (fun k => I (q (k : Int))) (I x).toNatClampNeg (I v)))) = wld g (h.set a (oC n (fup q x v))) := by
    rw [wld_set, fup_I h0 h1 hn]
    rfl
  exact kk H1 locs1 ls (by rw [← e]; exact hP1) (by rw [← e]; exact hD1) hS1 hl
theorem G_aald {a n : Nat} {q : Int → Nat} {x : Int} (hd : decode cc pc = .ok (.aaload, 1)) (ha : h[a]? = some (oR n q)) (h0 : 0 ≤ x) (h1 : x < n) (hn : n ≤ 2147483647 := by decide) (kk : G f cc own nL rt h (pc + 1) lv (r_ (q x) :: st) post) : G f cc own nL rt h pc lv (i_ x :: r_ a :: st) post := by
  refine G_w (fun g p l e s m args below meth c H locs ls M E hK hP hD hS hl kk => ?_) kk
  refine va_aldq (D := gD g) (cl := vwCl) (tys := gT g) (n := n) (f := fun k => some (gad g (q (k : Int)))) M.1 M.2.1 E.1 hP a 2 (wld_get ha) rfl (I_in h0 h1 hn) hd ?_
  show W _ _ _ _ _ _ _ _ _ _ _ _ _ _ _ (F0 m (pc + 1) ls (.ref (gad g (q (((I x).toNatClampNeg : Nat) : Int))) :: _))
  rw [clampN h0 h1 hn]
  exact kk H locs ls hP hD hS hl
def fupN (f : Int → Nat) (x : Int) (v : Nat) : Int → Nat := fun j => if j = x then v else f j
theorem G_aast {a n v : Nat} {q q2 : Int → Nat} {x : Int} {vs : List PV} (hd : decode cc pc = .ok (.aastore, 1)) (ha : h[a]? = some (oR n q)) (hv : h[v]? = some (oO 3 vs)) (h0 : 0 ≤ x) (h1 : x < n) (hn : n ≤ 2147483647 := by decide) (hq : fupN q x v = q2) (kk : G f cc own nL rt (h.set a (oR n q2)) (pc + 1) lv st post) : G f cc own nL rt h pc lv (r_ v :: i_ x :: r_ a :: st) post := by
  subst hq
  refine G_w (fun g p l e s m args below meth c H locs ls M E hK hP hD hS hl kk => ?_) kk
  refine va_astq (D := gD g) (cl := vwCl) (tys := gT g) (r := (RX3, TX3, 6)) (ci := 3) (n := n) (f := fun k => some (gad g (q (k : Int)))) M.1 M.2.1 E.1 hP hD hS a 2 v (wld_get ha) rfl (wld_get hv) rfl (I_in h0 h1 hn) hd (fun H1 locs1 hP1 hD1 hS1 => ?_)
  have e : (wld g h).set a (gad g a, .inl (gS g, n, .inr (.inr (.inr (.inr (va_up (fun k => some (gad g (q (k : Int)))) (I x).toNatClampNeg (some (gad g v)))))))) = wld g (h.set a (oR n (fupN q x v))) := by
    rw [wld_set]
    have e2 : (va_up (fun k : Nat => some (gad g (q (k : Int)))) (I x).toNatClampNeg (some (gad g v))) = fun k : Nat => some (gad g (fupN q x v (k : Int))) := by
      funext k
      have e := clampN h0 h1 hn
      unfold va_up fupN
      by_cases hk : k = (I x).toNatClampNeg
      · rw [if_pos hk, if_pos (by rw [hk]; exact e)]
      · rw [if_neg hk, if_neg (fun z => hk (by omega))]
    rw [e2]
    rfl
  rw [e] at hP1 hD1
  exact kk H1 locs1 ls hP1 hD1 hS1 hl
theorem G_alen {a n : Nat} {b : Bool} {q : Int → Int} (hd : decode cc pc = .ok (.arraylength, 1)) (ha : h[a]? = some (.inl (b, n, q))) (kk : G f cc own nL rt h (pc + 1) lv (i_ (n : Int) :: st) post) : G f cc own nL rt h pc lv (r_ a :: st) post := by
  refine G_w (fun g p l e s m args below meth c H locs ls M E hK hP hD hS hl kk => ?_) kk
  cases b with
  | false => exact va_alen (D := gD g) (cl := vwCl) (tys := gT g) (ty := .int) (x := (n, .inl (fun k => I (q (k : Int))))) (v := I (n : Int)) M.1 M.2.1 E.1 hP a 0 (wld_get ha) rfl (by unfold I; rw [Int32.ofInt_eq_ofNat]) hd (kk H locs ls hP hD hS hl)
  | true => exact va_alen (D := gD g) (cl := vwCl) (tys := gT g) (ty := .char) (x := (n, .inl (fun k => I (q (k : Int))))) (v := I (n : Int)) M.1 M.2.1 E.1 hP a 1 (wld_get ha) rfl (by unfold I; rw [Int32.ofInt_eq_ofNat]) hd (kk H locs ls hP hD hS hl)
end GR
