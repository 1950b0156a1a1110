/-! constructors: the cells that they make are the next ones of the pure heap -/
def rmN (f mc ms : Nat) : Room := { frames := f, cells := mc, slots := ms, locals := 33 * f }
def adr (g : GP) : Prop := ∀ k : Nat, k < 1000000 → gad g k = gK g + k
/-- the links of the constructors that are called across the nest -/
def NK (U : State) : Prop := va_Nw (.methodLinkNest RX5 11 yX3_init host5) U ∧ va_Nw (.methodLinkNest RX3 20 yX4_init host5) U ∧ va_Nw (.methodLinkNest RX1 17 yX3_init host5) U ∧ va_Nw (.methodLinkNest RX5 31 yX2_init host5) U ∧ va_AO RX3 U
theorem NK.blind {U : State} (f : JFrame) (mk : MethodId) (a : Array Value) (h : NK U) : NK (U.calling f mk a) := ⟨h.1.same rfl rfl, h.2.1.same rfl rfl, h.2.2.1.same rfl rfl, h.2.2.2.1.same rfl rfl, va_AO.moved (u := U) (U := U.calling f mk a) (Vm.Alike.refl U.vm) h.2.2.2.2⟩
theorem NK.go {s U : State} (h : NK s) (hW : s.WarmedH U.vm) : NK U := ⟨h.1.warmM hW, h.2.1.warmM hW, h.2.2.1.warmM hW, h.2.2.2.1.warmM hW, h.2.2.2.2.moved hW.alike⟩
def PcN (g : GP) (h : List PO) (args : List PV) : Array Value → State → Prop := fun v U => v = (args.map (tr g)).toArray ∧ In g h U ∧ U.heap.size = gK g + h.length ∧ adr g ∧ NK U
def PMN (f : Nat) (y : MethodName) (cc : ByteArray) (nL : Nat) (rt : Option FieldType) (mc ms : Nat) (h : List PO) (args : List PV) (post : Option PV → List PO → Prop) : Prop :=
  ∀ (l : Launch) (g : GP), Met l y (.code y cc nL rt :: GW) (rmN f mc ms) (PcN g h args) (Qcg g post) mc ms (gA g)
def NX (g : GP) (s : State) (meth : Method) (c0 n : Nat) : Prop := meth.name = "<init>" ∧ adr g ∧ s.heap.size + c0 = gK g + n ∧ NK s
def GN (f : Nat) (cc : ByteArray) (own : String) (nL : Nat) (rt : Option FieldType) (mc ms c0 s0 : Nat) (h : List PO) (pc : Nat) (lv : List (Option PV)) (st : List PV) (post : Option PV → List PO → Prop) : Prop :=
  ∀ (g : GP) (p : Program) (l : Launch) (e : Jvm.Env) (s : State) (m : MethodId) (args : Array Value) (below : List Frame) (meth : Method) (c : Code) (H : Heap) (locs : List Loc) (ls : Array Slot),
    Mx p s m args meth c cc own nL rt → NX g s meth c0 h.length → Env g s → gK g ≤ s.heap.size → va_P (gD g) vwCl (wld g h) H → va_D (gA g) (wld g h) → va_S (gA g) s.heap H locs → lvh g ls nL lv →
    W p l e (rmN f mc ms) s m args below meth c H locs c0 s0 (MQ below (Qcg g post) args s mc ms (gA g)) (F0 m pc ls (st.map (tr g)))
theorem PcN.blind {g : GP} {h : List PO} {args : List PV} : FrameBlind (PcN g h args) := fun _ _ f mk q => ⟨q.1, ⟨q.2.1.1, q.2.1.2.1, q.2.1.2.2.1, q.2.1.2.2.2.blind f mk _⟩, q.2.2.1, q.2.2.2.1, q.2.2.2.2.blind f mk _⟩
theorem PMN_of_GN {f : Nat} {y : MethodName} {cc : ByteArray} {nL : Nat} {rt : Option FieldType} {mc ms : Nat} {h : List PO} {args : List PV} {post : Option PV → List PO → Prop} (own : String) (lv : List (Option PV))
    (ho : y.cls = own) (hn1 : y.name = "<init>") (hy : plainName y.cls = true) (hn : args.length ≤ nL) (hlv : args.map some ++ List.replicate (nL - args.length) none = lv)
    (k : GN f cc own nL rt mc ms 0 0 h 0 lv [] post) : PMN f y cc nL rt mc ms h args post := by
  intro l g
  refine Met.ofW (cc := cc) (maxL := nL) (ret := rt) hy rfl ?_
  intro p e s m a below meth c s₁ B hml hv
  obtain ⟨rfl, ⟨hK, hP, hD, hE⟩, hz, ha, hNK⟩ := hv
  have hts := atoms_spec (ws := .code y cc nL rt :: GW) B.pre
  have hown : s.vm.findClass own = some m.cls := by rw [← ho]; exact findClass_of_methodNamed B.named
  have hl := lv_entry (args.map (tr g)) (n := nL) (by rw [lg_sl_len]; exact hn)
  rw [lg_entry_eq]
  rw [lv_args_lvl g args 0 (nL - args.length), hlv] at hl
  exact k g p l e s m _ below meth c s.heap [] _ ⟨B.exec, B.bytes, hml, hown, fun w hw => hts w (List.mem_cons_of_mem _ hw), B.returns, B.notSynchronized⟩ ⟨by rw [← hn1]; exact (name_of_methodNamed B.named B.method).1, ha, by omega, hNK⟩ hE hK hP hD va_S.rf hl
theorem wld_app (g : GP) (h : List PO) (o : PO) : wld g (h ++ [o]) = wld g h ++ [(gad g h.length, trO g o)] := by
  simp [wld, List.mapIdx_append]
theorem wld_len (g : GP) (h : List PO) : (wld g h).length = h.length := by simp [wld]
/-- a new cell's address is the next one -/
theorem addr_new {p : Program} {l : Launch} {e : Jvm.Env} {R : Room} {s : State} {m : MethodId} {args : Array Value} {below : List Frame} {meth : Method} {c : Code} {T : State} {locs : List Loc} {slots : Nat} {g : GP} {h : List PO} {q c0 : Nat} {x : va_E} {H : Heap}
    (X : Stand p l e R s m args below meth c T locs (c0 + 1) slots) (hT : T.heap = H) (ha : adr g) (hn : h.length < 1000000) (hz : s.heap.size + c0 = gK g + h.length)
    (hP : va_P (gD g) vwCl (wld g h ++ [(q, x)]) H) (hD : va_D (gA g) (wld g h ++ [(q, x)])) : q = gad g h.length := by
  have e1 : (wld g h ++ [(q, x)])[h.length]? = some (q, x) := by
    rw [List.getElem?_append_right (by rw [wld_len]; exact Nat.le_refl _), wld_len, Nat.sub_self]
    rfl
  have a1 : gK g ≤ q := hD.2 _ _ e1
  have a2 : q < H.size := (hP _ _ e1).lt
  have a3 : H.size ≤ s.heap.size + (c0 + 1) := by rw [← hT]; exact X.same.2.2.1
  rw [ha _ hn]
  rcases Nat.lt_or_ge q (gK g + h.length) with z | z
  · have hk : q - gK g < h.length := by omega
    obtain ⟨o1, ho⟩ : ∃ o1, h[q - gK g]? = some o1 := ⟨h[q - gK g], List.getElem?_eq_getElem hk⟩
    have e2 : (wld g h ++ [(q, x)])[q - gK g]? = some (gad g (q - gK g), trO g o1) := by
      rw [List.getElem?_append_left (by rw [wld_len]; exact hk)]
      exact wld_get ho
    have := hD.1 _ _ _ _ e2 e1 (by show gad g (q - gK g) = q; rw [ha _ (by omega)]; omega)
    omega
  · omega
/-- the heap's size -/
theorem size_is {p : Program} {l : Launch} {e : Jvm.Env} {R : Room} {s : State} {m : MethodId} {args : Array Value} {below : List Frame} {meth : Method} {c : Code} {T : State} {locs : List Loc} {slots : Nat} {g : GP} {h : List PO} {c0 : Nat} {H : Heap}
    (X : Stand p l e R s m args below meth c T locs c0 slots) (hT : T.heap = H) (ha : adr g) (hn : h.length < 1000000) (hz : s.heap.size + c0 = gK g + h.length) (hK : gK g ≤ s.heap.size)
    (hP : va_P (gD g) vwCl (wld g h) H) (hS : va_S (gA g) s.heap H locs) : H.size = gK g + h.length := by
  have a3 : H.size ≤ s.heap.size + c0 := by rw [← hT]; exact X.same.2.2.1
  have a4 := hS.1
  rcases Nat.eq_zero_or_pos h.length with z | z
  · omega
  · obtain ⟨o1, ho⟩ : ∃ o1, h[h.length - 1]? = some o1 := ⟨h[h.length - 1]'(by omega), List.getElem?_eq_getElem (by omega)⟩
    have a5 : gad g (h.length - 1) < H.size := (hP _ _ (wld_get ho)).lt
    rw [ha _ (by omega)] at a5
    omega
section NR
variable {f : Nat} {cc : ByteArray} {own : String} {nL : Nat} {rt : Option FieldType} {mc ms c0 s0 : Nat} {h : List PO} {pc : Nat} {lv : List (Option PV)} {st : List PV} {post : Option PV → List PO → Prop}
theorem N_w {pc2 : Nat} {lv2 : List (Option PV)} {st2 : List PV} {h2 : List PO} (hlen : h2.length = h.length)
    (q : ∀ (g : GP) (p : Program) (l : Launch) (e : Jvm.Env) (s : State) (m : MethodId) (args : Array Value) (below : List Frame) (meth : Method) (c : Code) (H : Heap) (locs : List Loc) (ls : Array Slot), Mx p s m args meth c cc own nL rt → NX g s meth c0 h.length → Env g s → gK g ≤ s.heap.size → va_P (gD g) vwCl (wld g h) H → va_D (gA g) (wld g h) → va_S (gA g) s.heap H locs → lvh g ls nL lv →
      (∀ (H : Heap) (locs : List Loc) (ls : Array Slot), va_P (gD g) vwCl (wld g h2) H → va_D (gA g) (wld g h2) → va_S (gA g) s.heap H locs → lvh g ls nL lv2 → W p l e (rmN f mc ms) s m args below meth c H locs c0 s0 (MQ below (Qcg g post) args s mc ms (gA g)) (F0 m pc2 ls (st2.map (tr g)))) →
      W p l e (rmN f mc ms) s m args below meth c H locs c0 s0 (MQ below (Qcg g post) args s mc ms (gA g)) (F0 m pc ls (st.map (tr g))))
    (k : GN f cc own nL rt mc ms c0 s0 h2 pc2 lv2 st2 post) : GN f cc own nL rt mc ms c0 s0 h pc lv st post :=
  fun g p l e s m args below meth c H locs ls M N E hK hP hD hS hl => q g p l e s m args below meth c H locs ls M N E hK hP hD hS hl (fun H locs ls hP hD hS hl => k g p l e s m args below meth c H locs ls M (by rw [hlen]; exact N) E hK hP hD hS hl)
theorem N_iconst {n : Int} (hd : decode cc pc = .ok (.iconst n, 1)) (k : GN f cc own nL rt mc ms c0 s0 h (pc + 1) lv (i_ n :: st) post) : GN f cc own nL rt mc ms c0 s0 h pc lv st post :=
  N_w (by simp) (fun g p l e s m args below meth c H locs ls M N E hK hP hD hS hl kk => lv_iconst (v := I n) M.1 M.2.1 hd rfl (kk H locs ls hP hD hS hl)) k
theorem N_bipush {n : Int} (hd : decode cc pc = .ok (.bipush n, 2)) (ha : decide (-128 ≤ n ∧ n ≤ 127) = true) (k : GN f cc own nL rt mc ms c0 s0 h (pc + 2) lv (i_ n :: st) post) : GN f cc own nL rt mc ms c0 s0 h pc lv st post :=
  N_w (by simp) (fun g p l e s m args below meth c H locs ls M N E hK hP hD hS hl kk => lv_bipush (v := I n) M.1 M.2.1 hd (I_byte (of_decide_eq_true ha).1 (of_decide_eq_true ha).2) (kk H locs ls hP hD hS hl)) k
theorem N_sipush {n : Int} (hd : decode cc pc = .ok (.sipush n, 3)) (ha : decide (-32768 ≤ n ∧ n ≤ 32767) = true) (k : GN f cc own nL rt mc ms c0 s0 h (pc + 3) lv (i_ n :: st) post) : GN f cc own nL rt mc ms c0 s0 h pc lv st post :=
  N_w (by simp) (fun g p l e s m args below meth c H locs ls M N E hK hP hD hS hl kk => lv_sipush (v := I n) M.1 M.2.1 hd (I_short (of_decide_eq_true ha).1 (of_decide_eq_true ha).2) (kk H locs ls hP hD hS hl)) k
theorem N_iload_n {q : Fin 4} {i : Nat} {x : Int} (hd : decode cc pc = .ok (.iload_n q, 1)) (hi : (q : Nat) = i) (hv : lv[i]? = some (some (i_ x))) (k : GN f cc own nL rt mc ms c0 s0 h (pc + 1) lv (i_ x :: st) post) : GN f cc own nL rt mc ms c0 s0 h pc lv st post :=
  N_w (by simp) (fun g p l e s m args below meth c H locs ls M N E hK hP hD hS hl kk => lv_iload_n (x := I x) M.1 M.2.1 hd hi (lvh_at hl hv) (kk H locs ls hP hD hS hl)) k
theorem N_aload_n {q : Fin 4} {i : Nat} {x : Nat} (hd : decode cc pc = .ok (.aload_n q, 1)) (hi : (q : Nat) = i) (hv : lv[i]? = some (some (r_ x))) (k : GN f cc own nL rt mc ms c0 s0 h (pc + 1) lv (r_ x :: st) post) : GN f cc own nL rt mc ms c0 s0 h pc lv st post :=
  N_w (by simp) (fun g p l e s m args below meth c H locs ls M N E hK hP hD hS hl kk => lv_aload_n (x := gad g x) M.1 M.2.1 hd hi (lvh_at hl hv) (kk H locs ls hP hD hS hl)) k
theorem N_istore_n {q : Fin 4} {i : Nat} {x : Int} {lv2 : List (Option PV)} (hd : decode cc pc = .ok (.istore_n q, 1)) (hi : (q : Nat) = i) (hn : i < nL) (hl2 : lv.set i (some (i_ x)) = lv2) (k : GN f cc own nL rt mc ms c0 s0 h (pc + 1) lv2 st post) : GN f cc own nL rt mc ms c0 s0 h pc lv (i_ x :: st) post :=
  N_w (by simp) (fun g p l e s m args below meth c H locs ls M N E hK hP hD hS hl kk => lv_istore_n (x := I x) (nL := nL) (lv := lvl g 0 lv) M.1 M.2.1 hd hi hl hn rfl (fun ls' hl' => kk H locs ls' hP hD hS (hl2 ▸ lvh_set (v := i_ x) hl'))) k
theorem N_iinc {i : Nat} {n x : Int} {lv2 : List (Option PV)} (hd : decode cc pc = .ok (.iinc i n, 3)) (hn : i < nL) (hv : lv[i]? = some (some (i_ x))) (hl2 : lv.set i (some (i_ (x + n))) = lv2) (k : GN f cc own nL rt mc ms c0 s0 h (pc + 3) lv2 st post) : GN f cc own nL rt mc ms c0 s0 h pc lv st post :=
  N_w (by simp) (fun g p l e s m args below meth c H locs ls M N E hK hP hD hS hl kk => by
    obtain ⟨q, hq⟩ := lvl_find (g := g) hv
    exact lv_iinc (x := I x) (v := I (x + n)) (nL := nL) (lv := lvl g 0 lv) (k := q) M.1 M.2.1 hd hl hq (I_add x n) hn rfl (fun ls' hl' => kk H locs ls' hP hD hS (hl2 ▸ lvh_set (v := i_ (x + n)) hl'))) k
theorem N_iadd {x y : Int} (hd : decode cc pc = .ok (.iadd, 1)) (k : GN f cc own nL rt mc ms c0 s0 h (pc + 1) lv (i_ (x + y) :: st) post) : GN f cc own nL rt mc ms c0 s0 h pc lv (i_ y :: i_ x :: st) post :=
  N_w (by simp) (fun g p l e s m args below meth c H locs ls M N E hK hP hD hS hl kk => lv_iadd (x := I x) (y := I y) M.1 M.2.1 hd (by rw [I_add]; exact kk H locs ls hP hD hS hl)) k
theorem N_dup {v : PV} (hd : decode cc pc = .ok (.dup, 1)) (k : GN f cc own nL rt mc ms c0 s0 h (pc + 1) lv (v :: v :: st) post) : GN f cc own nL rt mc ms c0 s0 h pc lv (v :: st) post :=
  N_w (by simp) (fun g p l e s m args below meth c H locs ls M N E hK hP hD hS hl kk => lv_dup M.1 M.2.1 hd (tr_cat g v) (kk H locs ls hP hD hS hl)) k
theorem N_goto {off : Int} {tgt : Nat} (hd : decode cc pc = .ok (.goto off, 3)) (ht : (pc : Int) + off = (tgt : Int)) (k : GN f cc own nL rt mc ms c0 s0 h tgt lv st post) : GN f cc own nL rt mc ms c0 s0 h pc lv st post :=
  N_w (by simp) (fun g p l e s m args below meth c H locs ls M N E hK hP hD hS hl kk => lv_goto M.1 M.2.1 hd ht (kk H locs ls hP hD hS hl)) k
theorem N_icmp_ge {x y : Int} {off : Int} {tgt : Nat} (hd : decode cc pc = .ok (.if_icmp .ge off, 3)) (ht : (pc : Int) + off = (tgt : Int)) (hx : inR x) (hy : inR y) (kt : y ≤ x → GN f cc own nL rt mc ms c0 s0 h tgt lv st post) (kf : x < y → GN f cc own nL rt mc ms c0 s0 h (pc + 3) lv st post) : GN f cc own nL rt mc ms c0 s0 h pc lv (i_ y :: i_ x :: st) post :=
  fun g p l e s m args below meth c H locs ls M N E hK hP hD hS hl => lv_icmp_ge (x := I x) (y := I y) M.1 M.2.1 hd ht (fun q => kt ((I_le hy hx).mp q) g p l e s m args below meth c H locs ls M N E hK hP hD hS hl) (fun q => kf (Int.not_le.mp (fun z => q ((I_le hy hx).mpr z))) g p l e s m args below meth c H locs ls M N E hK hP hD hS hl)
theorem N_getf {idx b ci k : Nat} {fs : List PV} {v : PV} (hF : FL own idx ci k) (hd : decode cc pc = .ok (.getfield idx, 3)) (hb : h[b]? = some (oO ci fs)) (hv : fs[k]? = some v) (kk : GN f cc own nL rt mc ms c0 s0 h (pc + 3) lv (v :: st) post) : GN f cc own nL rt mc ms c0 s0 h pc lv (r_ b :: st) post := by
  obtain ⟨C, T, N, h1, h2, h3, h4⟩ := hF
  refine N_w (by simp) (fun g p l e s m args below meth c H locs ls M N E hK hP hD hS hl kk => ?_) kk
  exact va_get (D := gD g) (cl := vwCl) (ci := ci) (v := tr g v) (fs := fs.map (tr g)) M.1 M.2.1 M.2.2.2.2.1 h3 M.2.2.2.1 E.1 hP b (wld_get hb) h1 k h2 (M.2.2.2.2.1 _ h4) (fun _ q => q) (by rw [List.getElem?_map, hv]; rfl) hd (kk H locs ls hP hD hS hl)
theorem N_putI {idx b ci k : Nat} {fs : List PV} {x : Int} {fs2 : List PV} (hF : FP own idx ci k .int) (hd : decode cc pc = .ok (.putfield idx, 3)) (hb : h[b]? = some (oO ci fs)) (hk : k < fs.length) (hfs : fs.set k (i_ x) = fs2) (kk : GN f cc own nL rt mc ms c0 s0 (h.set b (oO ci fs2)) (pc + 3) lv st post) : GN f cc own nL rt mc ms c0 s0 h pc lv (i_ x :: r_ b :: st) post := by
  obtain ⟨C, T, N, ty0, h1, h2, h3, h4, h5, h6, h7, h8⟩ := hF
  subst hfs
  refine N_w (by simp) (fun g p l e s m args below meth c H locs ls M N E hK hP hD hS hl kk => ?_) kk
  refine va_put (D := gD g) (cl := vwCl) (ci := ci) (v := .int (I x)) (ty := .int) (fs := fs.map (tr g)) M.1 M.2.1 M.2.2.2.2.1 h3 ty0 h5 h6 M.2.2.2.1 E.1 hP hD hS b (wld_get hb) h1 k h2 (M.2.2.2.2.1 _ h4) (fun _ q => q) h7 h8 rfl rfl (by simpa using hk) hd (fun H1 locs1 hP1 hD1 hS1 => ?_)
  have e : (wld g h).set b (gad g b, .inr (ci, (fs.map (tr g)).set k (.int (I x)))) = wld g (h.set b (oO ci (fs.set k (i_ x)))) := by
    rw [wld_set]
    show _ = (wld g h).set b (gad g b, .inr (ci, (fs.set k (i_ x)).map (tr g)))
    rw [List.map_set]
    rfl
  rw [e] at hP1 hD1
  exact kk H1 locs1 ls hP1 hD1 hS1 hl
theorem N_iald {a n : Nat} {q : Int → Int} {x : Int} (hd : decode cc pc = .ok (.iaload, 1)) (ha : h[a]? = some (oI n q)) (h0 : 0 ≤ x) (h1 : x < n) (hn : n ≤ 2147483647 := by decide) (kk : GN f cc own nL rt mc ms c0 s0 h (pc + 1) lv (i_ (q x) :: st) post) : GN f cc own nL rt mc ms c0 s0 h pc lv (i_ x :: r_ a :: st) post := by
  refine N_w (by simp) (fun g p l e s m args below meth c H locs ls M N E hK hP hD hS hl kk => ?_) kk
  refine va_iald (D := gD g) (cl := vwCl) (tys := gT g) (n := n) (f := fun k => I (q (k : Int))) M.1 M.2.1 E.1 hP a 0 (wld_get ha) rfl (I_in h0 h1 hn) hd ?_
  show W _ _ _ _ _ _ _ _ _ _ _ _ _ _ _ (F0 m (pc + 1) ls (.int (I (q (((I x).toNatClampNeg : Nat) : Int))) :: _))
  rw [clampN h0 h1 hn]
  exact kk H locs ls hP hD hS hl
theorem N_iast {a n : Nat} {q q2 : Int → Int} {x v : Int} (hd : decode cc pc = .ok (.iastore, 1)) (ha : h[a]? = some (oI n q)) (h0 : 0 ≤ x) (h1 : x < n) (hn : n ≤ 2147483647 := by decide) (hq : fup q x v = q2) (kk : GN f cc own nL rt mc ms c0 s0 (h.set a (oI n q2)) (pc + 1) lv st post) : GN f cc own nL rt mc ms c0 s0 h pc lv (i_ v :: i_ x :: r_ a :: st) post := by
  subst hq
  refine N_w (by simp) (fun g p l e s m args below meth c H locs ls M N E hK hP hD hS hl kk => ?_) kk
  refine va_iast (D := gD g) (cl := vwCl) (tys := gT g) (n := n) (f := fun k => I (q (k : Int))) (x := I v) M.1 M.2.1 E.1 hP hD hS a 0 (wld_get ha) rfl (I_in h0 h1 hn) hd (fun H1 locs1 hP1 hD1 hS1 => ?_)
  have e : (wld g h).set a (gad g a, .inl (gI g, n, .inl (upd (fun k => I (q (k : Int))) (I x).toNatClampNeg (I v)))) = wld g (h.set a (oI n (fup q x v))) := by
    rw [wld_set, fup_I h0 h1 hn]
    rfl
  exact kk H1 locs1 ls (by rw [← e]; exact hP1) (by rw [← e]; exact hD1) hS1 hl
theorem ga {h0 l : List PO} {b j : Nat} {o : PO} (hb : h0.length = b) (ho : l[j]? = some o) : (h0 ++ l)[b + j]? = some o := by
  subst hb
  rw [List.getElem?_append_right (by omega), Nat.add_sub_cancel_left]
  exact ho
theorem gs {h0 l : List PO} {b j : Nat} {o : PO} (hb : h0.length = b) : (h0 ++ l).set (b + j) o = h0 ++ l.set j o := by
  subst hb
  rw [List.set_append_right _ _ (by omega), Nat.add_sub_cancel_left]
theorem N_heap {h2 : List PO} (e : h = h2) (k : GN f cc own nL rt mc ms c0 s0 h2 pc lv st post) : GN f cc own nL rt mc ms c0 s0 h pc lv st post := by
  rw [e]
  exact k
theorem N_return (hd : decode cc pc = .ok (.return_, 1)) (hr : rt = none) (h1 : c0 ≤ mc) (h2 : s0 ≤ ms) (hp : post none h) : GN f cc own nL rt mc ms c0 s0 h pc lv [] post := by
  intro g p l e s m args below meth c H locs ls M N E hK hP hD hS hl
  have hlocks : meth.locks = false := M.2.2.2.2.2.2
  exact W.widen h1 h2 (W.vret M.1 M.2.1 (M.2.2.2.2.2.1.trans hr) (fun t ht hW => ⟨⟨none, h, rfl, hp, by rw [ht]; exact hP, hD⟩, hS.F ht⟩) hS.2.2 hd hlocks)
def OI (own : String) (idx : Nat) : Prop := Cond.methodLink own idx Lib.objectInit ∈ GW ∧ Cond.instanceMethod Lib.objectInit ∈ GW ∧ Cond.code Lib.objectInit ⟨#[0xb1]⟩ 1 none ∈ GW
theorem N_objInit {idx a : Nat} (hd : decode cc pc = .ok (.invokespecial idx, 3)) (ho : OI own idx) (hf : 1 ≤ f) (hs : st.length ≤ 8) (k : GN f cc own nL rt mc ms c0 s0 h (pc + 3) lv st post) : GN f cc own nL rt mc ms c0 s0 h pc lv (r_ a :: st) post :=
  N_w rfl (fun g p l e s m args below meth c H locs ls M N E hK hP hD hS hl kk => by
    have hts := M.2.2.2.2.1
    have hr : 2 * (F0 m pc ls ((r_ a :: st).map (tr g))).monitorRoom + ((st.map (tr g)).map fun v => v.category).sum ≤ 8 := lv_room (by rw [tr_sum]; exact hs)
    exact W.objInit M.1 M.2.1 M.2.2.2.1 (hts _ ho.1) (hts _ ho.2.1) (hts _ ho.2.2) (g := F0 m pc ls ((r_ a :: st).map (tr g))) (rest := st.map (tr g)) rfl (hl.1.trans M.2.2.1.symm) rfl hd hf (by show _ ≤ 33 * f; omega) (kk H locs ls hP hD hS hl)) k
def FPF (own : String) (idx ci k : Nat) : Prop := ∃ (C : String) (T : u_T) (N : Nat) (ty0 : Nat → FieldType) (ty : FieldType), vwCl[ci]? = some (C, T, N) ∧ k < N ∧ (∀ w ∈ u_ws C T N, w ∈ GW) ∧ Cond.fieldLink own idx (T k).1 (T k).2.1 (T k).2.2.1 ∈ GW ∧ (∀ k, k < N → parseFieldDescriptor (T k).2.2.1 = some (ty0 k)) ∧ (∀ a, a < N → ∀ b, b < N → a ≠ b → (T a).2.1 ≠ (T b).2.1) ∧ (T k).2.2.2 = true ∧ (T k).1 = own ∧ parseFieldDescriptor (T k).2.2.1 = some ty ∧ (∀ a : Nat, narrow ty (.ref a) = .ref a ∧ fits ty (.ref a) = true)
theorem N_putF {idx b ci k x : Nat} {fs : List PV} {fs2 : List PV} (hF : FPF own idx ci k) (hd : decode cc pc = .ok (.putfield idx, 3)) (hb : h[b]? = some (oO ci fs)) (hk : k < fs.length) (hfs : fs.set k (r_ x) = fs2) (kk : GN f cc own nL rt mc ms c0 s0 (h.set b (oO ci fs2)) (pc + 3) lv st post) : GN f cc own nL rt mc ms c0 s0 h pc lv (r_ x :: r_ b :: st) post := by
  obtain ⟨C, T, Nn, ty0, ty, h1, h2, h3, h4, h5, h6, h7, h8, h9, h10⟩ := hF
  subst hfs
  refine N_w (by simp) (fun g p l e s m args below meth c H locs ls M N E hK hP hD hS hl kk => ?_) kk
  refine va_putF (D := gD g) (cl := vwCl) (ci := ci) (v := .ref (gad g x)) (ty := ty) (fs := fs.map (tr g)) M.1 M.2.1 M.2.2.2.2.1 h3 ty0 h5 h6 M.2.2.2.1 E.1 hP hD hS b (wld_get hb) h1 k h2 (M.2.2.2.2.1 _ h4) (fun _ q => q) h7 N.1 h8 h9 (h10 _).1 (h10 _).2 (by simpa using hk) hd (fun H1 locs1 hP1 hD1 hS1 => ?_)
  have e : (wld g h).set b (gad g b, .inr (ci, (fs.map (tr g)).set k (.ref (gad g x)))) = wld g (h.set b (oO ci (fs.set k (r_ x)))) := by
    rw [wld_set]
    show _ = (wld g h).set b (gad g b, .inr (ci, (fs.set k (r_ x)).map (tr g)))
    rw [List.map_set]
    rfl
  rw [e] at hP1 hD1
  exact kk H1 locs1 ls hP1 hD1 hS1 hl
theorem cellq_ext {cA : ClassId} {n : Nat} {q1 q2 : Nat → Option Nat} (hq : ∀ j, j < n → q1 j = q2 j) : vp_cell cA (n, .inr (.inr (.inr (.inr q1)))) = vp_cell cA (n, .inr (.inr (.inr (.inr q2)))) := by
  rw [vp_cell_q, vp_cell_q]
  unfold arrV
  congr 2
  funext j
  show va_rf (q1 j.val) = va_rf (q2 j.val)
  rw [hq j.val j.isLt]
theorem N_newa {n : Nat} {x : Int} (hd : decode cc pc = .ok (.newarray .int, 2)) (ha : Cond.arrayClass .int ∈ GW) (hx : x = n) (hn : n ≤ 100000) (hc : c0 + 1 ≤ mc) (hs : s0 + n ≤ ms) (hh : h.length < 1000000) {k9 : Nat} (hk9 : h.length = k9)
    (k : GN f cc own nL rt mc ms (c0 + 1) (s0 + n) (h ++ [oI n (fun _ => 0)]) (pc + 2) lv (r_ k9 :: st) post) : GN f cc own nL rt mc ms c0 s0 h pc lv (i_ x :: st) post := by
  subst hk9
  subst hx
  intro g p l e s m args below meth c H locs ls M N E hK hP hD hS hl
  have hA : ∀ q, s.heap.size ≤ q → gA g q := fun q hq => Nat.le_trans hK hq
  have hts := M.2.2.2.2.1
  refine va_newa (tys := gT g) (atype := .int) (a0 := (n, .inl (fun _ => 0))) (N' := n) (n := I (n : Int)) M.1 M.2.1 (hts _ ha) (ty := .int) rfl E.1 hP hD hS hA (fun cA => rfl) (by rw [I_lt0 ⟨by omega, by omega⟩]; omega) (by rw [I_clamp ⟨by omega, by omega⟩]; omega) (by show n * 4 ≤ 536870912; omega) hc hs hd (fun q cA H1 hK1 hP1 hD1 hS1 => ?_)
  intro T hT X
  have hq := addr_new X hT N.2.1 hh N.2.2.1 hP1 hD1
  have hcA : cA = gI g := Option.some.inj ((hK1.2 3 (cA, .int) rfl).2.symm.trans (E.1.2 0 (gI g, .int) rfl).2)
  subst hcA
  subst hq
  have e1 : wld g (h ++ [oI n (fun _ => 0)]) = wld g h ++ [(gad g h.length, .inl (gI g, n, .inl (fun _ => 0)))] := wld_app g h _
  exact k g p l e s m args below meth c H1 locs ls M ⟨N.1, N.2.1, by rw [List.length_append]; have := N.2.2.1; show _ = gK g + (h.length + 1); omega, N.2.2.2⟩ E hK (by rw [e1]; exact hP1) (by rw [e1]; exact hD1) hS1 hl T hT X
theorem N_newc {n : Nat} {x : Int} (hd : decode cc pc = .ok (.newarray .char, 2)) (ha : Cond.arrayClass .char ∈ GW) (hx : x = n) (hn : n ≤ 100000) (hc : c0 + 1 ≤ mc) (hs : s0 + n ≤ ms) (hh : h.length < 1000000) {k9 : Nat} (hk9 : h.length = k9)
    (k : GN f cc own nL rt mc ms (c0 + 1) (s0 + n) (h ++ [oC n (fun _ => 0)]) (pc + 2) lv (r_ k9 :: st) post) : GN f cc own nL rt mc ms c0 s0 h pc lv (i_ x :: st) post := by
  subst hk9
  subst hx
  intro g p l e s m args below meth c H locs ls M N E hK hP hD hS hl
  have hA : ∀ q, s.heap.size ≤ q → gA g q := fun q hq => Nat.le_trans hK hq
  have hts := M.2.2.2.2.1
  refine va_newa (tys := gT g) (atype := .char) (a0 := (n, .inl (fun _ => 0))) (N' := n) (n := I (n : Int)) M.1 M.2.1 (hts _ ha) (ty := .char) rfl E.1 hP hD hS hA (fun cA => rfl) (by rw [I_lt0 ⟨by omega, by omega⟩]; omega) (by rw [I_clamp ⟨by omega, by omega⟩]; omega) (by show n * 2 ≤ 536870912; omega) hc hs hd (fun q cA H1 hK1 hP1 hD1 hS1 => ?_)
  intro T hT X
  have hq := addr_new X hT N.2.1 hh N.2.2.1 hP1 hD1
  have hcA : cA = gC g := Option.some.inj ((hK1.2 3 (cA, .char) rfl).2.symm.trans (E.1.2 1 (gC g, .char) rfl).2)
  subst hcA
  subst hq
  have e1 : wld g (h ++ [oC n (fun _ => 0)]) = wld g h ++ [(gad g h.length, .inl (gC g, n, .inl (fun _ => 0)))] := wld_app g h _
  exact k g p l e s m args below meth c H1 locs ls M ⟨N.1, N.2.1, by rw [List.length_append]; have := N.2.2.1; show _ = gK g + (h.length + 1); omega, N.2.2.2⟩ E hK (by rw [e1]; exact hP1) (by rw [e1]; exact hD1) hS1 hl T hT X
/-- 'new C': C is the class of number ci -/
def NC (own : String) (idx ci : Nat) (fs : List PV) (n : Nat) : Prop := ∃ (C : String) (T : u_T) (ty : Nat → FieldType), vwCl[ci]? = some (C, T, n) ∧ (∀ w ∈ u_ws C T n, w ∈ GW) ∧ (∀ k, k < n → parseFieldDescriptor (T k).2.2.1 = some (ty k)) ∧ Cond.classLink own idx C ∈ GW ∧ Cond.instantiable C n ∈ GW ∧ Cond.initialized C ∈ GW ∧ ∀ (g : GP) (j : Nat), j < n → defaultValue (ty j) = vp_V (fs.map (tr g)) j
theorem N_new {idx ci n : Nat} {fs : List PV} (hd : decode cc pc = .ok (.new idx, 3)) (hN : NC own idx ci fs n) (hc : c0 + 1 ≤ mc) (hs : s0 + n ≤ ms) (hh : h.length < 1000000) {k9 : Nat} (hk9 : h.length = k9)
    (k : GN f cc own nL rt mc ms (c0 + 1) (s0 + n) (h ++ [oO ci fs]) (pc + 3) lv (r_ k9 :: st) post) : GN f cc own nL rt mc ms c0 s0 h pc lv st post := by
  subst hk9
  obtain ⟨C, T, ty, n1, n2, n3, n4, n5, n6, n7⟩ := hN
  intro g p l e s m args below meth c H locs ls M N E hK hP hD hS hl
  have hA : ∀ q, s.heap.size ≤ q → gA g q := fun q hq => Nat.le_trans hK hq
  have hts := M.2.2.2.2.1
  refine va_new (tys := gT g) (ci := ci) (fs := fs.map (tr g)) (C := C) (T := T) (N := n) M.1 M.2.1 hts n2 ty n3 M.2.2.2.1 (hts _ n4) (hts _ n5) (hts _ n6) E.1 hP hD hS hA n1 (n7 g) hc hs hd (fun q H1 hP1 hD1 hS1 => ?_)
  intro T0 hT X
  have hq := addr_new X hT N.2.1 hh N.2.2.1 hP1 hD1
  subst hq
  have e1 : wld g (h ++ [oO ci fs]) = wld g h ++ [(gad g h.length, .inr (ci, fs.map (tr g)))] := wld_app g h _
  exact k g p l e s m args below meth c H1 locs ls M ⟨N.1, N.2.1, by rw [List.length_append]; have := N.2.2.1; show _ = gK g + (h.length + 1); omega, N.2.2.2⟩ E hK (by rw [e1]; exact hP1) (by rw [e1]; exact hD1) hS1 hl T0 hT X
/-- 'anewarray' of States: its cells are null -/
theorem N_newq {n idx : Nat} {x : Int} {q : Int → Option Nat} (hd : decode cc pc = .ok (.anewarray idx, 3)) (h9 : Cond.classLink own idx RX3 ∈ GW) (hx : x = n) (hn : n ≤ 100000) (hc : c0 + 1 ≤ mc) (hs : s0 + n ≤ ms) (hh : h.length < 1000000) (hq0 : ∀ j : Int, 0 ≤ j → j < n → q j = none) {k9 : Nat} (hk9 : h.length = k9)
    (k : GN f cc own nL rt mc ms (c0 + 1) (s0 + n) (h ++ [oQ n q]) (pc + 3) lv (r_ k9 :: st) post) : GN f cc own nL rt mc ms c0 s0 h pc lv (i_ x :: st) post := by
  subst hk9
  subst hx
  intro g p l e s m args below meth c H locs ls M N E hK hP hD hS hl
  have hA : ∀ q, s.heap.size ≤ q → gA g q := fun q hq => Nat.le_trans hK hq
  have hts := M.2.2.2.2.1
  refine va_newq (tys := gT g) (C := RX3) (N' := n) (n := I (n : Int)) M.1 M.2.1 M.2.2.2.1 (hts _ h9) N.2.2.2.2.2.2.2 E.1 hP hD hS hA (by rw [I_lt0 ⟨by omega, by omega⟩]; omega) (by rw [I_clamp ⟨by omega, by omega⟩]; omega) (by omega) hc hs hd (fun q2 cA H1 hK1 hP1 hD1 hS1 => ?_)
  intro T hT X
  have hq := addr_new X hT N.2.1 hh N.2.2.1 hP1 hD1
  obtain ⟨kA1, comp1, -, -, -, z1⟩ := (hK1.2 3 (cA, .object RX3) rfl).2
  obtain ⟨kA2, comp2, -, -, -, z2⟩ := (E.1.2 2 (gS g, .object RX3) rfl).2
  have hcA : cA = gS g := Option.some.inj (z1.symm.trans z2)
  subst hcA
  subst hq
  have e1 : wld g (h ++ [oQ n q]) = wld g h ++ [(gad g h.length, .inl (gS g, n, .inr (.inr (.inr (.inr (fun k => (q (k : Int)).map (gad g)))))))] := wld_app g h _
  have hP2 : va_P (gD g) vwCl (wld g h ++ [(gad g h.length, .inl (gS g, n, .inr (.inr (.inr (.inr (fun k => (q (k : Int)).map (gad g)))))))]) H1 := by
    intro i w hi
    by_cases hlt : i < h.length
    · rw [List.getElem?_append_left (by rw [wld_len]; exact hlt)] at hi
      exact hP1 i w (by rw [List.getElem?_append_left (by rw [wld_len]; exact hlt)]; exact hi)
    · rw [List.getElem?_append_right (by rw [wld_len]; omega), wld_len] at hi
      have hz : i - h.length < 1 := (List.getElem?_eq_some_iff.mp hi).1
      have hi0 : i - h.length = 0 := by omega
      rw [hi0] at hi
      cases hi
      have hb := hP1 i (gad g h.length, .inl (gS g, n, .inr (.inr (.inr (.inr (fun _ => none)))))) (by rw [List.getElem?_append_right (by rw [wld_len]; omega), wld_len, hi0]; rfl)
      show H1[gad g h.length]? = some (vp_cell _ _)
      rw [cellq_ext (q2 := fun _ => none) (fun j hj => by show Option.map _ (q (j : Int)) = none; rw [hq0 _ (by omega) (by omega)]; rfl)]
      exact hb
  have hD2 : va_D (gA g) (wld g h ++ [(gad g h.length, .inl (gS g, n, .inr (.inr (.inr (.inr (fun k => (q (k : Int)).map (gad g)))))))]) := by
    have hset := hD1.set (p := h.length) (a := gad g h.length) (e0 := .inl (gS g, n, .inr (.inr (.inr (.inr (fun _ => none)))))) (e := .inl (gS g, n, .inr (.inr (.inr (.inr (fun k => (q (k : Int)).map (gad g))))))) (by rw [List.getElem?_append_right (by rw [wld_len]; exact Nat.le_refl _), wld_len, Nat.sub_self]; rfl)
    rw [List.set_append_right _ _ (by rw [wld_len]; exact Nat.le_refl _), wld_len, Nat.sub_self] at hset
    exact hset
  exact k g p l e s m args below meth c H1 locs ls M ⟨N.1, N.2.1, by rw [List.length_append]; have := N.2.2.1; show _ = gK g + (h.length + 1); omega, N.2.2.2⟩ E hK (by rw [e1]; exact hP2) (by rw [e1]; exact hD2) hS1 hl T hT X
def fupQ (q : Int → Option Nat) (x : Int) (v : Nat) : Int → Option Nat := fun j => if j = x then some v else q j
theorem N_aast {a n v : Nat} {q : Int → Option Nat} {x : Int} {vs : List PV} (hd : decode cc pc = .ok (.aastore, 1)) (ha : h[a]? = some (oQ n q)) (hv : h[v]? = some (oO 3 vs)) (h0 : 0 ≤ x) (h1 : x < n) (hn : n ≤ 2147483647) (kk : GN f cc own nL rt mc ms c0 s0 (h.set a (oQ n (fupQ q x v))) (pc + 1) lv st post) : GN f cc own nL rt mc ms c0 s0 h pc lv (r_ v :: i_ x :: r_ a :: st) post := by
  refine N_w (by simp) (fun g p l e s m args below meth c H locs ls M N E hK hP hD hS hl kk => ?_) kk
  refine va_astq (D := gD g) (cl := vwCl) (tys := gT g) (r := (RX3, TX3, 6)) (ci := 3) (n := n) (f := fun k => (q (k : Int)).map (gad g)) M.1 M.2.1 E.1 hP hD hS a 2 v (wld_get ha) rfl (wld_get hv) rfl (I_in h0 h1 hn) hd (fun H1 locs1 hP1 hD1 hS1 => ?_)
  have e : (wld g h).set a (gad g a, .inl (gS g, n, .inr (.inr (.inr (.inr (va_up (fun k => (q (k : Int)).map (gad g)) (I x).toNatClampNeg (some (gad g v)))))))) = wld g (h.set a (oQ n (fupQ q x v))) := by
    rw [wld_set]
    have e2 : (va_up (fun k : Nat => (q (k : Int)).map (gad g)) (I x).toNatClampNeg (some (gad g v))) = fun k : Nat => (fupQ q x v (k : Int)).map (gad g) := by
      funext k
      have e := clampN h0 h1 hn
      unfold va_up fupQ
      by_cases hk : k = (I x).toNatClampNeg
      · rw [if_pos hk, if_pos (by rw [hk]; exact e)]
        rfl
      · rw [if_neg hk, if_neg (fun z => hk (by omega))]
    rw [e2]
    rfl
  rw [e] at hP1 hD1
  exact kk H1 locs1 ls hP1 hD1 hS1 hl
theorem N_callI {fy nLy n idx b mc2 ms2 : Nat} {y : MethodName} {cy : ByteArray} {posty : Option PV → List PO → Prop} {as st0 : List PV}
    (hM : PMN fy y cy nLy none mc2 ms2 h (r_ b :: as) posty) (hd : decode cc pc = .ok (.invokespecial idx, 3)) (hlk : Cond.methodLink own idx y ∈ GW) (hv : CI y cy nLy none n ∧ Cond.instanceMethod y ∈ GW ∧ y.name = "<init>")
    (hn : as.length = n) (hf : fy + 1 ≤ f) (hs : st.length ≤ 8) (hc : c0 + mc2 ≤ mc) (hsl : s0 + ms2 ≤ ms) (hh : h.length < 1000000) (e0 : st0 = as.reverse ++ r_ b :: st)
    (hlen : ∀ r h', posty r h' → h'.length = h.length + mc2)
    (k : ∀ r h', posty r h' → GN f cc own nL rt mc ms (c0 + mc2) (s0 + ms2) h' (pc + 3) lv (r.toList ++ st) post) : GN f cc own nL rt mc ms c0 s0 h pc lv st0 post := by
  subst e0
  obtain ⟨⟨v1, v2, v3, v4⟩, v5, v6⟩ := hv
  intro g p l e s m args below meth c H locs ls M N E hK hP hD hS hlv
  have hts := M.2.2.2.2.1
  have hm := hM l g
  have hroom : (rmN fy mc2 ms2).frames + 1 ≤ (rmN f mc ms).frames ∧ 8 + (nLy + 11) + (rmN fy mc2 ms2).locals ≤ (rmN f mc ms).locals := by
    refine ⟨hf, ?_⟩
    show 8 + (nLy + 11) + 33 * fy ≤ 33 * f
    omega
  intro T hT X
  have hsz := size_is X hT N.2.1 hh N.2.2.1 hK hP hS
  have hr := va_runI (cells := c0) (slots := s0) (locs := locs) (below := below) (e := e) (meth := meth) (R := rmN f mc ms) (g := F0 m pc ls ((as.reverse ++ r_ b :: st).map (tr g))) (H := H) (b := gad g b) (As := as.map (tr g)) (rest := st.map (tr g)) ⟨M.1, M.2.1, M.2.2.1, M.2.2.2.1, hts⟩ hm (cwI n hts (gw_in (gw_code v2)) rfl rfl rfl (hts _ v1) (hts _ hlk) (hts _ v5) v6 v3 hroom) ⟨PcN.blind, fun U hU hW => ⟨rfl, ⟨by rw [hU]; exact Nat.le_trans hK hS.1, by rw [hU]; exact hP, hD, E.go hW hU hS⟩, by rw [hU]; exact hsz, N.2.1, N.2.2.2.go hW⟩⟩ rfl (by simpa using hn) hlv.1 (by simp [tr]) (lv_room (by rw [tr_sum]; exact hs)) hd ⟨hc, hsl⟩
  obtain ⟨v, st₀, t, T', L, h0, X', hL, e1, e2, ⟨⟨r, h', hv, hp, hP', hD'⟩, hz, hk⟩, hst⟩ := hr T hT X
  cases hv
  rw [h0] at hz hk
  have hS' : va_S (gA g) s.heap T'.heap (locs ++ L) := ⟨Nat.le_trans hS.1 (by rw [e1]; exact hz), fun q h1 h2 => by rw [e1, hk q (Nat.lt_of_lt_of_le h1 hS.1) h2]; exact hS.2.1 q h1 h2, fun q hq => by
      rcases List.mem_append.mp hq with h | h
      · exact hS.2.2 q h
      · exact hL q h⟩
  obtain ⟨t2, a1, b1⟩ := k r h' hp g p l e s m args below meth c T'.heap (locs ++ L) ls M ⟨N.1, N.2.1, by rw [hlen r h' hp]; have := N.2.2.1; omega, N.2.2.2⟩ E hK (by rw [e1]; exact hP') hD' hS' hlv T' rfl X'
  refine ⟨t2, hst t2 ?_, b1⟩
  have e3 : ((r.toList ++ st).map (tr g)) = (r.map (tr g)).toList ++ st.map (tr g) := by
    cases r <;> rfl
  rw [e3] at a1
  exact a1
theorem N_callIN {fy nLy n idx b mc2 ms2 : Nat} {y : MethodName} {cy : ByteArray} {posty : Option PV → List PO → Prop} {as st0 : List PV}
    (hM : PMN fy y cy nLy none mc2 ms2 h (r_ b :: as) posty) (hd : decode cc pc = .ok (.invokespecial idx, 3)) (hlk : ∀ s : State, NK s → va_Nw (.methodLinkNest own idx y host5) s) (hv : CI y cy nLy none n ∧ Cond.instanceMethod y ∈ GW ∧ y.name = "<init>")
    (hn : as.length = n) (hf : fy + 1 ≤ f) (hs : st.length ≤ 8) (hc : c0 + mc2 ≤ mc) (hsl : s0 + ms2 ≤ ms) (hh : h.length < 1000000) (e0 : st0 = as.reverse ++ r_ b :: st)
    (hlen : ∀ r h', posty r h' → h'.length = h.length + mc2)
    (k : ∀ r h', posty r h' → GN f cc own nL rt mc ms (c0 + mc2) (s0 + ms2) h' (pc + 3) lv (r.toList ++ st) post) : GN f cc own nL rt mc ms c0 s0 h pc lv st0 post := by
  subst e0
  obtain ⟨⟨v1, v2, v3, v4⟩, v5, v6⟩ := hv
  intro g p l e s m args below meth c H locs ls M N E hK hP hD hS hlv
  have hts := M.2.2.2.2.1
  have hm := hM l g
  have hroom : (rmN fy mc2 ms2).frames + 1 ≤ (rmN f mc ms).frames ∧ 8 + (nLy + 11) + (rmN fy mc2 ms2).locals ≤ (rmN f mc ms).locals := by
    refine ⟨hf, ?_⟩
    show 8 + (nLy + 11) + 33 * fy ≤ 33 * f
    omega
  intro T hT X
  have hsz := size_is X hT N.2.1 hh N.2.2.1 hK hP hS
  have hr := va_runIN (host := host5) (cells := c0) (slots := s0) (locs := locs) (below := below) (e := e) (meth := meth) (R := rmN f mc ms) (g := F0 m pc ls ((as.reverse ++ r_ b :: st).map (tr g))) (H := H) (b := gad g b) (As := as.map (tr g)) (rest := st.map (tr g)) ⟨M.1, M.2.1, M.2.2.1, M.2.2.2.1, hts⟩ hm ⟨va_cnB n hts (gw_in (gw_code v2)) rfl rfl rfl (hlk s N.2.2.2) (hts _ v1) v3 hroom, v6, hts _ v5⟩ ⟨PcN.blind, fun U hU hW => ⟨rfl, ⟨by rw [hU]; exact Nat.le_trans hK hS.1, by rw [hU]; exact hP, hD, E.go hW hU hS⟩, by rw [hU]; exact hsz, N.2.1, N.2.2.2.go hW⟩⟩ rfl (by simpa using hn) hlv.1 (by simp [tr]) (lv_room (by rw [tr_sum]; exact hs)) hd ⟨hc, hsl⟩
  obtain ⟨v, st₀, t, T', L, h0, X', hL, e1, e2, ⟨⟨r, h', hv, hp, hP', hD'⟩, hz, hk⟩, hst⟩ := hr T hT X
  cases hv
  rw [h0] at hz hk
  have hS' : va_S (gA g) s.heap T'.heap (locs ++ L) := ⟨Nat.le_trans hS.1 (by rw [e1]; exact hz), fun q h1 h2 => by rw [e1, hk q (Nat.lt_of_lt_of_le h1 hS.1) h2]; exact hS.2.1 q h1 h2, fun q hq => by
      rcases List.mem_append.mp hq with h | h
      · exact hS.2.2 q h
      · exact hL q h⟩
  obtain ⟨t2, a1, b1⟩ := k r h' hp g p l e s m args below meth c T'.heap (locs ++ L) ls M ⟨N.1, N.2.1, by rw [hlen r h' hp]; have := N.2.2.1; omega, N.2.2.2⟩ E hK (by rw [e1]; exact hP') hD' hS' hlv T' rfl X'
  refine ⟨t2, hst t2 ?_, b1⟩
  have e3 : ((r.toList ++ st).map (tr g)) = (r.map (tr g)).toList ++ st.map (tr g) := by
    cases r <;> rfl
  rw [e3] at a1
  exact a1
theorem N_callS {fy nLy n idx : Nat} {y : MethodName} {cy : ByteArray} {ry : Option FieldType} {posty : Option PV → List PO → Prop} {as st0 : List PV}
    (hM : PM fy y cy nLy ry h as posty) (hd : decode cc pc = .ok (.invokestatic idx, 3)) (hl : Cond.methodLink own idx y ∈ GW) (hv : CS y cy nLy ry n)
    (hn : as.length = n) (hf : fy + 1 ≤ f) (hs : st.length ≤ 8) (e0 : st0 = as.reverse ++ st) (hc : c0 ≤ mc) (hsl : s0 ≤ ms)
    (hlen : ∀ r h', posty r h' → h'.length = h.length)
    (k : ∀ r h', posty r h' → GN f cc own nL rt mc ms c0 s0 h' (pc + 3) lv (r.toList ++ st) post) : GN f cc own nL rt mc ms c0 s0 h pc lv st0 post := by
  subst e0
  obtain ⟨⟨v1, v2, v3, v4⟩, v5⟩ := hv
  intro g p l e s m args below meth c H locs ls M N E hK hP hD hS hlv
  have hts := M.2.2.2.2.1
  have hm := hM l g
  have hroom : (rm fy).frames + 1 ≤ (rmN f mc ms).frames ∧ 8 + (nLy + 11) + (rm fy).locals ≤ (rmN f mc ms).locals := by
    refine ⟨hf, ?_⟩
    show 8 + (nLy + 11) + 33 * fy ≤ 33 * f
    omega
  intro T hT X
  have hr := va_runS (cells := c0) (slots := s0) (locs := locs) (below := below) (e := e) (meth := meth) (R := rmN f mc ms) (g := F0 m pc ls ((as.reverse ++ st).map (tr g))) (H := H) (As := as.map (tr g)) (rest := st.map (tr g)) ⟨M.1, M.2.1, M.2.2.1, M.2.2.2.1, hts⟩ hm (va_cwS n hts (gw_in (fun w hw => ?_)) rfl rfl rfl v3 hroom) ⟨In.blind, fun U hU hW => ⟨rfl, by rw [hU]; exact Nat.le_trans hK hS.1, by rw [hU]; exact hP, hD, E.go hW hU hS⟩⟩ rfl (by simpa using hn) hlv.1 (by simp) (lv_room (by rw [tr_sum]; exact hs)) hd ⟨hc, hsl⟩
  · obtain ⟨v, st₀, t, T', L, h0, X', hL, e1, e2, ⟨⟨r, h', hv, hp, hP', hD'⟩, hz, hk⟩, hst⟩ := hr T hT X
    cases hv
    rw [h0] at hz hk
    have hS' : va_S (gA g) s.heap T'.heap (locs ++ L) := ⟨Nat.le_trans hS.1 (by rw [e1]; exact hz), fun q h1 h2 => by rw [e1, hk q (Nat.lt_of_lt_of_le h1 hS.1) h2]; exact hS.2.1 q h1 h2, fun q hq => by
        rcases List.mem_append.mp hq with h | h
        · exact hS.2.2 q h
        · exact hL q h⟩
    obtain ⟨t2, a1, b1⟩ := k r h' hp g p l e s m args below meth c T'.heap (locs ++ L) ls M ⟨N.1, N.2.1, by rw [hlen r h' hp]; exact N.2.2.1, N.2.2.2⟩ E hK (by rw [e1]; exact hP') hD' hS' hlv T' rfl X'
    refine ⟨t2, hst t2 ?_, b1⟩
    have e3 : ((r.toList ++ st).map (tr g)) = (r.map (tr g)).toList ++ st.map (tr g) := by
      cases r <;> rfl
    rw [e3] at a1
    exact a1
  · unfold va_wsS at hw
    rcases List.mem_append.mp hw with hw | hw
    · simp only [List.mem_cons, List.not_mem_nil, or_false] at hw
      rcases hw with rfl | rfl | rfl
      · exact hl
      · exact v5
      · exact v1
    · exact gw_code v2 w hw
end NR
