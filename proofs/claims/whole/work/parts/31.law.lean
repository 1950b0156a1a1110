/-! THE CLAIM OUT OF ONE WALK OF THE LAW'S BODY. Your part is whole_start (and what it stands on); all else here is the same for every law, but numbers. -/
def R_law : String := "SaltWedgeLaw"
def lw_P (b : Addr) (xs : List Int32) (args : Array Value) (s : State) : Prop := args = #[.ref b] ∧ s.IntsAt b xs ∧ xs.length ≤ 1536 ∧ (Jvm.Cond.and given_1 narrow_1).before args s = true
def lw_Q (_ : Array Value) (s : State) (o : Outcome) (t : State) : Prop := o = .returned (some (.int 1)) ∧ Framed s o t [] 600000 7302250
def lw_Z (below : List Frame) (a : Array Value) (s : State) : State → Prop := fun t => ∃ o, t.status = .running ∧ Ended t below o ∧ lw_Q a s o t
/-- the law's own end, with 1 on the stack, nothing written that was there before, its room as the claim has it -/
theorem lw_ret {p : Program} {l : Launch} {e : Jvm.Env} {s : State} {m : MethodId} {below : List Frame} {meth : Method} {c : Code} {b : Nat} (hx : p.tables.exec = Jvm.exec) (hb : c.code = code) (hr : meth.sig.returnType = ret) (hlocks : meth.locks = false) {pc : Nat} {H : Heap} {ls : Array Slot} (hdg : decode code pc = .ok (.ireturn, 1)) : W p l e room_1 s m #[Value.ref b] below meth c H [] 600000 7302250 (lw_Z below #[Value.ref b] s) (F0 m pc ls [.int 1]) := by
  intro T hT X
  obtain ⟨fs, hret, hrun, hended, hW, hframe⟩ := X.leave (v := some (.int 1)) (hlocks := hlocks) (fun h => by rw [hr] at h; cases h)
  have hmeth' : T.vm.method? m = some meth := X.method'
  refine ⟨T.setFrames fs, ?_, .returned (some (.int 1)), hrun, hended, rfl, ⟨_, rfl⟩, hW, hframe⟩
  jvm_step X.here [X.here.top, hx, hb, hdg, hmeth', hr, ret, narrow_b1]
  (try refine ⟨rfl, ?_⟩); (try refine ⟨rfl, ?_⟩)
  first | (intro acts; rw [hret _ acts rfl rfl rfl]) | rw [hret _ _ rfl rfl rfl]
  exact Steps.refl _
/-- what holds at the law's entry: the machine, the code, the tables' words (any of lw_tbl by 'hts w (by decide +kernel)'), the script of L ints xs at the cell b, what the Statement gives of the start (any of its parts by flat_of_before) -/
def lw_At (p : Program) (s : State) (m : MethodId) (meth : Method) (c : Code) (b L : Nat) (xs : Nat → Int32) : Prop :=
  p.tables.exec = Jvm.exec ∧ c.code = code ∧ meth.sig.returnType = ret ∧ c.maxLocals = 4 ∧ s.vm.findClass R_law = some m.cls ∧ (∀ w ∈ lw_tbl, w.before #[Value.ref b] s = true) ∧ va_X b L xs s s.heap ∧ b < s.heap.size ∧ meth.locks = false ∧ (Jvm.Cond.and given_1 narrow_1).before #[Value.ref b] s = true
/-! the law's walk over the pure heap: the class's object at 0, the reference's at 106, the script at rZs -/
abbrev rZs : Nat := 1000002
def xI (xs : Nat → Int32) (k : Int) : Int := (xs k.toNat).toInt
theorem xI_in (xs : Nat → Int32) (k : Int) : inR (xI xs k) := inR_I _
def chI (x : Int) : Int := (((I x).toBitVec.toNat % 65536 : Nat) : Int)
theorem chI_rng (x : Int) : 0 ≤ chI x ∧ chI x ≤ 65535 := by
  unfold chI
  omega
theorem nI_I (n : Nat) : nI n = I (n : Int) := by
  unfold I nI
  rw [← Int32.ofInt_eq_ofNat]
theorem and31 (x : Int32) : ∃ y : Int, 0 ≤ y ∧ y ≤ 31 ∧ x &&& I 31 = I y := by
  refine ⟨((x.toBitVec.toNat % 32 : Nat) : Int), by omega, by omega, ?_⟩
  rw [← nI_I]
  apply Int32.toBitVec_inj.mp
  apply BitVec.eq_of_toNat_eq
  rw [pk_tn (by omega)]
  show (x.toBitVec &&& (I 31).toBitVec).toNat = _
  rw [BitVec.toNat_and, show (I 31).toBitVec.toNat = 31 from by decide]
  exact Nat.and_two_pow_sub_one_eq_mod _ 5
def Lx (g : GP) (p : Program) (s : State) (m : MethodId) (meth : Method) (c : Code) (b L : Nat) (xs : Nat → Int32) : Prop := lw_At p s m meth c b L xs ∧ Env g s ∧ gK g = s.heap.size ∧ gad g rZs = b ∧ L ≤ 1536
def LG (l : Launch) (L : Nat) (xs : Nat → Int32) (h : List PO) (pc : Nat) (lv : List (Option PV)) (st : List PV) : Prop :=
  ∀ (g : GP) (p : Program) (e : Jvm.Env) (s : State) (m : MethodId) (b : Nat) (below : List Frame) (meth : Method) (c : Code) (H : Heap) (locs : List Loc) (ls : Array Slot),
    Lx g p s m meth c b L xs → va_P (gD g) vwCl (wld g h) H → va_D (gA g) (wld g h) → va_S (gA g) s.heap H locs → lvh g ls 4 lv →
    W p l e room_1 s m #[Value.ref b] below meth c H locs 600000 7302250 (lw_Z below #[Value.ref b] s) (F0 m pc ls (st.map (tr g)))
section LGS
variable {l : Launch} {L : Nat} {xs : Nat → Int32} {h : List PO} {pc : Nat} {lv : List (Option PV)} {st : List PV}
theorem LG_w {pc2 : Nat} {lv2 : List (Option PV)} {st2 : List PV} {h2 : List PO}
    (q : ∀ (g : GP) (p : Program) (e : Jvm.Env) (s : State) (m : MethodId) (b : Nat) (below : List Frame) (meth : Method) (c : Code) (H : Heap) (locs : List Loc) (ls : Array Slot), Lx g p s m meth c b L xs → va_P (gD g) vwCl (wld g h) H → va_D (gA g) (wld g h) → va_S (gA g) s.heap H locs → lvh g ls 4 lv →
      (∀ (H : Heap) (locs : List Loc) (ls : Array Slot), va_P (gD g) vwCl (wld g h2) H → va_D (gA g) (wld g h2) → va_S (gA g) s.heap H locs → lvh g ls 4 lv2 → W p l e room_1 s m #[Value.ref b] below meth c H locs 600000 7302250 (lw_Z below #[Value.ref b] s) (F0 m pc2 ls (st2.map (tr g)))) →
      W p l e room_1 s m #[Value.ref b] below meth c H locs 600000 7302250 (lw_Z below #[Value.ref b] s) (F0 m pc ls (st.map (tr g))))
    (k : LG l L xs h2 pc2 lv2 st2) : LG l L xs h pc lv st :=
  fun g p e s m b below meth c H locs ls M hP hD hS hl => q g p e s m b below meth c H locs ls M hP hD hS hl (fun H locs ls hP hD hS hl => k g p e s m b below meth c H locs ls M hP hD hS hl)
theorem LG_iconst {n : Int} (hd : decode cL_law pc = .ok (.iconst n, 1)) (k : LG l L xs h (pc + 1) lv (i_ n :: st)) : LG l L xs h pc lv st :=
  LG_w (fun g p e s m b below meth c H locs ls M hP hD hS hl kk => lv_iconst (v := I n) M.1.1 M.1.2.1 hd rfl (kk H locs ls hP hD hS hl)) k
theorem LG_bipush {n : Int} (hd : decode cL_law pc = .ok (.bipush n, 2)) (ha : decide (-128 ≤ n ∧ n ≤ 127) = true) (k : LG l L xs h (pc + 2) lv (i_ n :: st)) : LG l L xs h pc lv st :=
  LG_w (fun g p e s m b below meth c H locs ls M hP hD hS hl kk => lv_bipush (v := I n) M.1.1 M.1.2.1 hd (I_byte (of_decide_eq_true ha).1 (of_decide_eq_true ha).2) (kk H locs ls hP hD hS hl)) k
theorem LG_iload_n {q : Fin 4} {i : Nat} {x : Int} (hd : decode cL_law pc = .ok (.iload_n q, 1)) (hi : (q : Nat) = i) (hv : lv[i]? = some (some (i_ x))) (k : LG l L xs h (pc + 1) lv (i_ x :: st)) : LG l L xs h pc lv st :=
  LG_w (fun g p e s m b below meth c H locs ls M hP hD hS hl kk => lv_iload_n (x := I x) M.1.1 M.1.2.1 hd hi (lvh_at hl hv) (kk H locs ls hP hD hS hl)) k
theorem LG_aload_n {q : Fin 4} {i : Nat} {x : Nat} (hd : decode cL_law pc = .ok (.aload_n q, 1)) (hi : (q : Nat) = i) (hv : lv[i]? = some (some (r_ x))) (k : LG l L xs h (pc + 1) lv (r_ x :: st)) : LG l L xs h pc lv st :=
  LG_w (fun g p e s m b below meth c H locs ls M hP hD hS hl kk => lv_aload_n (x := gad g x) M.1.1 M.1.2.1 hd hi (lvh_at hl hv) (kk H locs ls hP hD hS hl)) k
theorem LG_istore_n {q : Fin 4} {i : Nat} {x : Int} {lv2 : List (Option PV)} (hd : decode cL_law pc = .ok (.istore_n q, 1)) (hi : (q : Nat) = i) (hn : i < 4) (hl2 : lv.set i (some (i_ x)) = lv2) (k : LG l L xs h (pc + 1) lv2 st) : LG l L xs h pc lv (i_ x :: st) :=
  LG_w (fun g p e s m b below meth c H locs ls M hP hD hS hl kk => lv_istore_n (x := I x) (nL := 4) (lv := lvl g 0 lv) M.1.1 M.1.2.1 hd hi hl hn rfl (fun ls' hl' => kk H locs ls' hP hD hS (hl2 ▸ lvh_set (v := i_ x) hl'))) k
theorem LG_iinc {i : Nat} {n x : Int} {lv2 : List (Option PV)} (hd : decode cL_law pc = .ok (.iinc i n, 3)) (hn : i < 4) (hv : lv[i]? = some (some (i_ x))) (hl2 : lv.set i (some (i_ (x + n))) = lv2) (k : LG l L xs h (pc + 3) lv2 st) : LG l L xs h pc lv st :=
  LG_w (fun g p e s m b below meth c H locs ls M hP hD hS hl kk => by
    obtain ⟨q, hq⟩ := lvl_find (g := g) hv
    exact lv_iinc (x := I x) (v := I (x + n)) (nL := 4) (lv := lvl g 0 lv) (k := q) M.1.1 M.1.2.1 hd hl hq (I_add x n) hn rfl (fun ls' hl' => kk H locs ls' hP hD hS (hl2 ▸ lvh_set (v := i_ (x + n)) hl'))) k
theorem LG_iadd {x y : Int} (hd : decode cL_law pc = .ok (.iadd, 1)) (k : LG l L xs h (pc + 1) lv (i_ (x + y) :: st)) : LG l L xs h pc lv (i_ y :: i_ x :: st) :=
  LG_w (fun g p e s m b below meth c H locs ls M hP hD hS hl kk => lv_iadd (x := I x) (y := I y) M.1.1 M.1.2.1 hd (by rw [I_add]; exact kk H locs ls hP hD hS hl)) k
theorem LG_isub {x y : Int} (hd : decode cL_law pc = .ok (.isub, 1)) (k : LG l L xs h (pc + 1) lv (i_ (x - y) :: st)) : LG l L xs h pc lv (i_ y :: i_ x :: st) :=
  LG_w (fun g p e s m b below meth c H locs ls M hP hD hS hl kk => lv_isub (x := I x) (y := I y) M.1.1 M.1.2.1 hd (by rw [I_sub]; exact kk H locs ls hP hD hS hl)) k
theorem LG_goto {off : Int} {tgt : Nat} (hd : decode cL_law pc = .ok (.goto off, 3)) (ht : (pc : Int) + off = (tgt : Int)) (k : LG l L xs h tgt lv st) : LG l L xs h pc lv st :=
  LG_w (fun g p e s m b below meth c H locs ls M hP hD hS hl kk => lv_goto M.1.1 M.1.2.1 hd ht (kk H locs ls hP hD hS hl)) k
theorem LG_icmp_gt {x y : Int} {off : Int} {tgt : Nat} (hd : decode cL_law pc = .ok (.if_icmp .gt off, 3)) (ht : (pc : Int) + off = (tgt : Int)) (hx : inR x) (hy : inR y) (kt : y < x → LG l L xs h tgt lv st) (kf : x ≤ y → LG l L xs h (pc + 3) lv st) : LG l L xs h pc lv (i_ y :: i_ x :: st) :=
  fun g p e s m b below meth c H locs ls M hP hD hS hl => lv_icmp_gt (x := I x) (y := I y) M.1.1 M.1.2.1 hd ht (fun q => kt ((I_lt hy hx).mp q) g p e s m b below meth c H locs ls M hP hD hS hl) (fun q => kf (Int.not_lt.mp (fun z => q ((I_lt hy hx).mpr z))) g p e s m b below meth c H locs ls M hP hD hS hl)
theorem LG_eqs {x : Int} {off : Int} {tgt : Nat} (hd : decode cL_law pc = .ok (.if_icmp .eq off, 3)) (ht : (pc : Int) + off = (tgt : Int)) (k : LG l L xs h tgt lv st) : LG l L xs h pc lv (i_ x :: i_ x :: st) :=
  fun g p e s m b below meth c H locs ls M hP hD hS hl => lv_icmp_eq (x := I x) (y := I x) M.1.1 M.1.2.1 hd ht (fun _ => k g p e s m b below meth c H locs ls M hP hD hS hl) (fun q => absurd rfl q)
theorem LG_and {x : Int} (hd : decode cL_law pc = .ok (.iand, 1)) (k : ∀ y : Int, 0 ≤ y → y ≤ 31 → LG l L xs h (pc + 1) lv (i_ y :: st)) : LG l L xs h pc lv (i_ 31 :: i_ x :: st) :=
  fun g p e s m b below meth c H locs ls M hP hD hS hl => lv_iand (x := I x) (y := I 31) M.1.1 M.1.2.1 hd (by
    obtain ⟨y, y0, y1, e1⟩ := and31 (I x)
    rw [e1]
    exact k y y0 y1 g p e s m b below meth c H locs ls M hP hD hS hl)
theorem LG_i2c {x : Int} (hd : decode cL_law pc = .ok (.i2c, 1)) (k : LG l L xs h (pc + 1) lv (i_ (chI x) :: st)) : LG l L xs h pc lv (i_ x :: st) :=
  LG_w (fun g p e s m b below meth c H locs ls M hP hD hS hl kk => lv_i2c (x := I x) (v := I (chI x)) M.1.1 M.1.2.1 hd (by rw [pk_char, nI_I]; rfl) (kk H locs ls hP hD hS hl)) k
theorem LG_tblIn {dflt lo hi : Int} {offs : Array Int} {len : Nat} {x : Int} {off : Int} {tgt : Nat} (hd : decode cL_law pc = .ok (.tableswitch dflt lo hi offs, len)) (hx : inR x) (h1 : lo ≤ x) (h2 : x ≤ hi) (ho : offs[(x - lo).toNat]? = some off) (ht : (pc : Int) + off = (tgt : Int)) (k : LG l L xs h tgt lv st) : LG l L xs h pc lv (i_ x :: st) :=
  LG_w (fun g p e s m b below meth c H locs ls M hP hD hS hl kk => lv_tableIn (x := I x) M.1.1 M.1.2.1 hd (by rw [I_toInt hx]; omega) (by rw [I_toInt hx]; omega) (by rw [I_toInt hx]; exact ho) ht (kk H locs ls hP hD hS hl)) k
theorem LG_tblOut {dflt lo hi : Int} {offs : Array Int} {len : Nat} {x : Int} {tgt : Nat} (hd : decode cL_law pc = .ok (.tableswitch dflt lo hi offs, len)) (hx : inR x) (h1 : x < lo ∨ hi < x) (ht : (pc : Int) + dflt = (tgt : Int)) (k : LG l L xs h tgt lv st) : LG l L xs h pc lv (i_ x :: st) :=
  LG_w (fun g p e s m b below meth c H locs ls M hP hD hS hl kk => lv_tableOut (x := I x) M.1.1 M.1.2.1 hd (by rw [I_toInt hx]; exact h1) ht (kk H locs ls hP hD hS hl)) k
theorem LG_sld {x : Int} (hd : decode cL_law pc = .ok (.iaload, 1)) (h0 : 0 ≤ x) (h1 : x < L) (k : LG l L xs h (pc + 1) lv (i_ (xI xs x) :: st)) : LG l L xs h pc lv (i_ x :: r_ rZs :: st) :=
  LG_w (fun g p e s m b below meth c H locs ls M hP hD hS hl kk => by
    obtain ⟨C0, E, hK, rfl, hL⟩ := M
    obtain ⟨hx, hb, hr, hml, hown, hts, hX, hbl, hlocks, hgv⟩ := C0
    refine va_sld (A := gA g) hx hb hX hbl (by show ¬ gK g ≤ gad g rZs; omega) hS (i := I x) (I_in h0 h1 (by omega)) hd ?_
    have e1 : xs (I x).toNatClampNeg = I (xI xs x) := by
      rw [I_clamp ⟨by omega, by omega⟩]
      exact (I_toInt' _).symm
    rw [e1]
    exact kk H locs ls hP hD hS hl) k
theorem LG_slen (hd : decode cL_law pc = .ok (.arraylength, 1)) (k : LG l L xs h (pc + 1) lv (i_ (L : Int) :: st)) : LG l L xs h pc lv (r_ rZs :: st) :=
  LG_w (fun g p e s m b below meth c H locs ls M hP hD hS hl kk => by
    obtain ⟨C0, E, hK, rfl, hL⟩ := M
    obtain ⟨hx, hb, hr, hml, hown, hts, hX, hbl, hlocks, hgv⟩ := C0
    refine va_slen (A := gA g) hx hb hX hbl (by show ¬ gK g ≤ gad g rZs; omega) hS hd ?_
    have e1 : Int32.ofNat L = I (L : Int) := nI_I L
    rw [e1]
    exact kk H locs ls hP hD hS hl) k
theorem LG_ret1 (hd : decode cL_law pc = .ok (.ireturn, 1)) : LG l L xs h pc lv [i_ 1] :=
  fun g p e s m b below meth c H locs ls M hP hD hS hl => by
    obtain ⟨C0, E, hK, hb0, hL⟩ := M
    obtain ⟨hx, hb, hr, hml, hown, hts, hX, hbl, hlocks, hgv⟩ := C0
    refine va_forget (fun q hq => ?_) (lw_ret hx hb hr hlocks hd)
    have := hS.2.2 q hq
    show s.heap.size ≤ q.base
    rw [← hK]
    exact this
theorem LG_back {posty : Option PV → List PO → Prop} {rest st0 : List PV} {a : Array Value}
    {g : GP} {p : Program} {e : Jvm.Env} {s : State} {m : MethodId} {b : Nat} {below : List Frame} {meth : Method} {c : Code} {H : Heap} {locs : List Loc} {ls : Array Slot}
    (M : Lx g p s m meth c b L xs) (hS : va_S (gA g) s.heap H locs) (hl : lvh g ls 4 lv)
    (hr : va_Run p l e room_1 s m #[Value.ref b] below meth c H locs 600000 7302250 0 0 (F0 m pc ls (st0.map (tr g))) (rest.map (tr g)) (Qcg g posty a) (gA g))
    (k : ∀ r h', posty r h' → LG l L xs h' (pc + 3) lv (r.toList ++ rest)) :
    W p l e room_1 s m #[Value.ref b] below meth c H locs 600000 7302250 (lw_Z below #[Value.ref b] s) (F0 m pc ls (st0.map (tr g))) := by
  intro T hT X
  obtain ⟨v, st₀, t, T', L2, h0, X', hL, e1, e2, ⟨⟨r, h', hv, hp, hP', hD'⟩, hz, hk⟩, hst⟩ := hr T hT X
  cases hv
  rw [h0] at hz hk
  have hS' : va_S (gA g) s.heap T'.heap (locs ++ L2) := ⟨Nat.le_trans hS.1 (by rw [e1]; exact hz), fun q h1 h2 => by rw [e1, hk q (Nat.lt_of_lt_of_le h1 hS.1) h2]; exact hS.2.1 q h1 h2, fun q hq => by
      rcases List.mem_append.mp hq with h | h
      · exact hS.2.2 q h
      · exact hL q h⟩
  obtain ⟨t2, a1, b1⟩ := k r h' hp g p e s m b below meth c T'.heap (locs ++ L2) ls M (by rw [e1]; exact hP') hD' hS' hl T' rfl X'
  refine ⟨t2, hst t2 ?_, b1⟩
  have e3 : ((r.toList ++ rest).map (tr g)) = (r.map (tr g)).toList ++ rest.map (tr g) := by
    cases r <;> rfl
  rw [e3] at a1
  exact a1
theorem rm_law {fy nLy : Nat} (hf : fy ≤ 8) (hn : nLy ≤ 14) : (rm fy).frames + 1 ≤ room_1.frames ∧ 8 + (nLy + 11) + (rm fy).locals ≤ room_1.locals := by
  refine ⟨Nat.succ_le_succ hf, ?_⟩
  show 8 + (nLy + 11) + 33 * fy ≤ 316
  omega
theorem LG_callV {fy nLy n idx b0 ci : Nat} {C : String} {y : MethodName} {cy : ByteArray} {ry : Option FieldType} {posty : Option PV → List PO → Prop} {as st0 : List PV} {fs : List PV}
    (hM : PM fy y cy nLy ry h (r_ b0 :: as) posty) (hd : decode cL_law pc = .ok (.invokevirtual idx, 3)) (hlk : Cond.methodLink RL idx y ∈ GW) (hv : CV C y cy nLy ry n)
    (hb0 : h[b0]? = some (oO ci fs)) (hc : (vwCl[ci]?).map (fun q => q.1) = some C) (hn : as.length = n) (hf : fy ≤ 8) (hs : st.length ≤ 8) (e0 : st0 = as.reverse ++ r_ b0 :: st)
    (k : ∀ r h', posty r h' → LG l L xs h' (pc + 3) lv (r.toList ++ st)) : LG l L xs h pc lv st0 := by
  subst e0
  obtain ⟨⟨v1, v2, v3, v4⟩, v5, v6, v7, v8⟩ := hv
  obtain ⟨q, hq, rfl⟩ : ∃ q : vw_C, vwCl[ci]? = some q ∧ q.1 = C := by
    cases hq : vwCl[ci]? with
    | none => rw [hq] at hc; cases hc
    | some q => rw [hq] at hc; exact ⟨q, rfl, Option.some.inj hc⟩
  intro g p e s m b below meth c H locs ls M hP hD hS hlv
  obtain ⟨C0, E, hK, hb1, hL⟩ := id M
  obtain ⟨hx, hb, hr, hml, hown, hts0, hX, hbl, hlocks, hgv⟩ := C0
  have ho : s.vm.findClass RL = some m.cls := hown
  have hts : ∀ w ∈ GW, w.before #[Value.ref b] s = true := fun w hw => hts0 w (List.mem_filter.mp hw).1
  have hm := hM l g
  refine LG_back (rest := st) M hS hlv (va_runV (As := as.map (tr g)) (rest := st.map (tr g)) ⟨hx, hb, hml, ho, hts⟩ hm (cwV n hts (gw_in (fun w hw => ?_)) rfl rfl rfl ⟨v7, v3⟩ (rm_law hf v4)) ⟨In.blind, va_recv E.1 hP hq (wld_get hb0), fun U hU hW => ⟨rfl, by rw [hU, hK]; exact hS.1, by rw [hU]; exact hP, hD, E.go hW hU hS⟩⟩ rfl (by simpa using hn) hlv.1 (by simp [tr]) (lv_room (by rw [tr_sum]; exact hs)) hd ⟨Nat.le_refl _, Nat.le_refl _⟩) k
  unfold wsV at hw
  rcases List.mem_append.mp hw with hw | hw
  · simp only [List.mem_cons, List.not_mem_nil, or_false] at hw
    rcases hw with rfl | rfl | rfl | rfl
    · exact hlk
    · exact v5
    · exact v6
    · exact v8
  · exact gw_code v2 w hw
end LGS
theorem clA.fr {h h2 : List PO} {x : Nat} {v : SV} {hv : Int → SV} {sz ks : Int} {w : SV} {tx : Int → Int} {len sn se : Int} {lo hi : Nat} (a : clA h x v hv sz ks w tx len sn se) (f : Fr h h2 lo hi) (q : x + 106 ≤ lo ∨ hi ≤ x) : clA h2 x v hv sz ks w tx len sn se := by
  obtain ⟨u, ρ, ki, fi, s2, th, p, hst, n, e, ⟨a0, a1, a2, a3, a4, a5⟩, hq⟩ := a
  exact ⟨u, ρ, ki, fi, s2, th, p, hst, n, e, ⟨f.at' a0 (by omega), a1.fr f (by omega), a2.fr f (by omega), a3.fr f (by omega), a4.fr f (by omega), a5.fr f (by omega)⟩, hq⟩
theorem mdA.fr {h h2 : List PO} {m : Nat} {v : SV} {hv : Int → SV} {sz ks : Int} {w : SV} {tx : Int → Int} {len sn se : Int} {lo hi : Nat} (a : mdA h m v hv sz ks w tx len sn se) (f : Fr h h2 lo hi) (q : m + 5 ≤ lo ∨ hi ≤ m) : mdA h2 m v hv sz ks w tx len sn se := by
  obtain ⟨s, mk, co, fi, ca, sp, le, on, tw, hM, hR, hX⟩ := a
  exact ⟨s, mk, co, fi, ca, sp, le, on, tw, hM.fr f (by omega), hR, hX⟩
section INVS
variable {v : SV} {hv : Int → SV} {sz ks : Int} {w : SV} {tx : Int → Int} {len : Int}
theorem INV.typ {c : Int} (h : INV v hv sz ks w tx len) (hc : 0 ≤ c ∧ c ≤ 65535) : INV v hv sz ks w (typT tx len c) (typL len) := by
  obtain ⟨h1, h2, h3, h4, h5, h6⟩ := h
  unfold typT typL
  by_cases q : len < 60
  · rw [if_pos q, if_pos q]; exact ⟨h1, h2, h3, h4, rg_fup h5 hc.1 hc.2, by omega⟩
  · rw [if_neg q, if_neg q]; exact ⟨h1, h2, h3, h4, h5, h6⟩
theorem INV.clr (h : INV v hv sz ks w tx len) : INV v hv sz ks w tx 0 := by
  obtain ⟨h1, h2, h3, h4, h5, h6⟩ := h
  exact ⟨h1, h2, h3, h4, h5, by omega⟩
theorem INV.und (h : INV v hv sz ks w tx len) : INV (undV v hv sz) hv (undZ sz) ks w tx len := by
  obtain ⟨h1, h2, h3, h4, h5, h6⟩ := h
  unfold undV undZ
  by_cases q : sz = 0
  · rw [if_pos q, if_pos q]; exact ⟨h1, h2, h3, h4, h5, h6⟩
  · rw [if_neg q, if_neg q]; exact ⟨h3 _ (by omega) (by omega), by omega, fun i a b => h3 i a (by omega), h4, h5, h6⟩
theorem INV.kep (h : INV v hv sz ks w tx len) : INV v hv sz 1 v tx len := by
  obtain ⟨h1, h2, h3, h4, h5, h6⟩ := h
  exact ⟨h1, h2, h3, Or.inr ⟨rfl, h1⟩, h5, h6⟩
theorem INV.rst (h : INV v hv sz ks w tx len) : OKt (rstV v ks w) := by
  obtain ⟨h1, h2, h3, h4, h5, h6⟩ := h
  unfold rstV
  by_cases q : ks = 1
  · rw [if_pos q]
    rcases h4 with z | z
    · omega
    · exact z.2
  · rw [if_neg q]; exact h1
end INVS
theorem clA.obj {h : List PO} {x : Nat} {v : SV} {hv : Int → SV} {sz ks : Int} {w : SV} {tx : Int → Int} {len sn se : Int} (a : clA h x v hv sz ks w tx len sn se) : ∃ fs, h[x]? = some (oO 5 fs) := by
  obtain ⟨u, ρ, ki, fi, s2, th, p, hst, n, e, ⟨a0, -⟩, -⟩ := a
  exact ⟨_, a0⟩
theorem mdA.obj {h : List PO} {m : Nat} {v : SV} {hv : Int → SV} {sz ks : Int} {w : SV} {tx : Int → Int} {len sn se : Int} (a : mdA h m v hv sz ks w tx len sn se) : ∃ fs, h[m]? = some (oO 6 fs) := by
  obtain ⟨s, mk, co, fi, ca, sp, le, on, tw, ⟨a0, -⟩, -⟩ := a
  exact ⟨_, a0⟩
set_option maxRecDepth 100000 in
set_option maxHeartbeats 16000000 in
theorem law_loop (l : Launch) (L : Nat) (hL : L ≤ 1536) (xs : Nat → Int32) : ∀ (fu : Nat) (i : Int) (h : List PO) (v : SV) (hv : Int → SV) (sz ks : Int) (sw : SV) (tx : Int → Int) (len sn se : Int), 0 ≤ i → i ≤ L + 2 → clA h 0 v hv sz ks sw tx len sn se → mdA h 106 v hv sz ks sw tx len sn se → INV v hv sz ks sw tx len → L + 3 - i < fu → LG l L xs h 18 [some (r_ rZs), some (r_ 0), some (r_ 106), some (i_ i)] [] := by
  intro fu
  induction fu with
  | zero => intro i h v hv sz ks sw tx len sn se i0 i1 hA hB hI hmeas; exfalso; omega
  | succ fu ih =>
    intro i h v hv sz ks sw tx len sn se i0 i1 hA hB hI hmeas
    obtain ⟨fsA, hX0⟩ := clA.obj hA
    refine LG_iload_n dL_law_18 rfl rfl ?_
    refine LG_aload_n dL_law_19 rfl rfl ?_
    refine LG_slen dL_law_20 ?_
    refine LG_iconst dL_law_21 ?_
    refine LG_isub dL_law_22 ?_
    refine LG_icmp_gt (tgt := 801) dL_law_23 (by decide) (inR_of (by omega) (by omega)) (inR_of (by omega) (by omega)) (fun hc => ?_) (fun hc => ?_)
    · refine LG_iconst dL_law_801 ?_
      exact LG_ret1 dL_law_802
    · refine LG_aload_n dL_law_26 rfl rfl ?_
      refine LG_iload_n dL_law_27 rfl rfl ?_
      refine LG_sld dL_law_28 (by omega) (by omega) ?_
      refine LG_bipush dL_law_29 rfl ?_
      refine LG_and dL_law_31 (fun y y0 y1 => ?_)
      rcases (show y = 0 ∨ y = 1 ∨ y = 2 ∨ y = 3 ∨ y = 4 ∨ y = 5 ∨ y = 6 ∨ y = 7 ∨ y = 8 ∨ y = 9 ∨ y = 10 ∨ y = 11 ∨ y = 12 ∨ y = 13 ∨ y = 14 ∨ y = 15 ∨ y = 16 ∨ y = 17 ∨ y = 18 ∨ y = 19 ∨ y = 20 ∨ y = 21 ∨ y = 22 ∨ y = 23 ∨ y = 24 ∨ 24 < y from by omega) with hy | hy | hy | hy | hy | hy | hy | hy | hy | hy | hy | hy | hy | hy | hy | hy | hy | hy | hy | hy | hy | hy | hy | hy | hy | hy
      · subst hy
        refine LG_tblIn (tgt := 148) dL_law_32 (inR_of (by omega) (by omega)) (by omega) (by omega) rfl (by decide) ?_
        refine LG_aload_n dL_law_148 rfl rfl ?_
        refine LG_aload_n dL_law_149 rfl rfl ?_
        refine LG_iload_n dL_law_150 rfl rfl ?_
        refine LG_iconst dL_law_151 ?_
        refine LG_iadd dL_law_152 ?_
        refine LG_sld dL_law_153 (by omega) (by omega) ?_
        refine LG_aload_n dL_law_154 rfl rfl ?_
        refine LG_iload_n dL_law_155 rfl rfl ?_
        refine LG_iconst dL_law_156 ?_
        refine LG_iadd dL_law_157 ?_
        refine LG_sld dL_law_158 (by omega) (by omega) ?_
        refine LG_callV (ci := 5) (as := [_, _]) (c_X5_dig _ 0 v hv sz ks sw tx len sn se (xI xs (i + 1)) (xI xs (i + 2)) hA hI (xI_in xs _) (xI_in xs _)) dL_law_159 ml_L_13 cv_X5_dig (by assumption) rfl rfl (Nat.le_of_ble_eq_true rfl) (Nat.le_of_ble_eq_true rfl) rfl (fun r h2 hp => ?_)
        obtain ⟨rfl, hF, hA2⟩ := hp
        have hB := hB.fr hF (by omega)
        have hM0 := mdA.obj hB
        obtain ⟨fsM, hM0⟩ := hM0
        refine LG_aload_n dL_law_162 rfl rfl ?_
        refine LG_aload_n dL_law_163 rfl rfl ?_
        refine LG_iload_n dL_law_164 rfl rfl ?_
        refine LG_iconst dL_law_165 ?_
        refine LG_iadd dL_law_166 ?_
        refine LG_sld dL_law_167 (by omega) (by omega) ?_
        refine LG_aload_n dL_law_168 rfl rfl ?_
        refine LG_iload_n dL_law_169 rfl rfl ?_
        refine LG_iconst dL_law_170 ?_
        refine LG_iadd dL_law_171 ?_
        refine LG_sld dL_law_172 (by omega) (by omega) ?_
        refine LG_callV (ci := 6) (as := [_, _]) (c_X6_dig _ 106 v hv sz ks sw tx len sn se (xI xs (i + 1)) (xI xs (i + 2)) hB hI (xI_in xs _) (xI_in xs _)) dL_law_173 ml_L_17 cv_X6_dig (by assumption) rfl rfl (Nat.le_of_ble_eq_true rfl) (Nat.le_of_ble_eq_true rfl) rfl (fun r h2 hp => ?_)
        obtain ⟨rfl, hF2, hB2⟩ := hp
        have hA3 := hA2.fr hF2 (by omega)
        refine LG_eqs (tgt := 795) dL_law_176 (by decide) ?_
        refine LG_iinc dL_law_795 (by decide) rfl rfl ?_
        refine LG_goto (tgt := 18) dL_law_798 (by decide) ?_
        exact ih (i + 3) _ _ _ _ _ _ _ _ _ _ (by omega) (by omega) hA3 hB2 (hI.act _ hI.1.dig) (by omega)
      · subst hy
        refine LG_tblIn (tgt := 181) dL_law_32 (inR_of (by omega) (by omega)) (by omega) (by omega) rfl (by decide) ?_
        refine LG_aload_n dL_law_181 rfl rfl ?_
        refine LG_aload_n dL_law_182 rfl rfl ?_
        refine LG_iload_n dL_law_183 rfl rfl ?_
        refine LG_iconst dL_law_184 ?_
        refine LG_iadd dL_law_185 ?_
        refine LG_sld dL_law_186 (by omega) (by omega) ?_
        refine LG_aload_n dL_law_187 rfl rfl ?_
        refine LG_iload_n dL_law_188 rfl rfl ?_
        refine LG_iconst dL_law_189 ?_
        refine LG_iadd dL_law_190 ?_
        refine LG_sld dL_law_191 (by omega) (by omega) ?_
        refine LG_callV (ci := 5) (as := [_, _]) (c_X5_build _ 0 v hv sz ks sw tx len sn se (xI xs (i + 1)) (xI xs (i + 2)) hA hI (xI_in xs _) (xI_in xs _)) dL_law_192 ml_L_18 cv_X5_build (by assumption) rfl rfl (Nat.le_of_ble_eq_true rfl) (Nat.le_of_ble_eq_true rfl) rfl (fun r h2 hp => ?_)
        obtain ⟨rfl, hF, hA2⟩ := hp
        have hB := hB.fr hF (by omega)
        have hM0 := mdA.obj hB
        obtain ⟨fsM, hM0⟩ := hM0
        refine LG_aload_n dL_law_195 rfl rfl ?_
        refine LG_aload_n dL_law_196 rfl rfl ?_
        refine LG_iload_n dL_law_197 rfl rfl ?_
        refine LG_iconst dL_law_198 ?_
        refine LG_iadd dL_law_199 ?_
        refine LG_sld dL_law_200 (by omega) (by omega) ?_
        refine LG_aload_n dL_law_201 rfl rfl ?_
        refine LG_iload_n dL_law_202 rfl rfl ?_
        refine LG_iconst dL_law_203 ?_
        refine LG_iadd dL_law_204 ?_
        refine LG_sld dL_law_205 (by omega) (by omega) ?_
        refine LG_callV (ci := 6) (as := [_, _]) (c_X6_build _ 106 v hv sz ks sw tx len sn se (xI xs (i + 1)) (xI xs (i + 2)) hB hI (xI_in xs _) (xI_in xs _)) dL_law_206 ml_L_21 cv_X6_build (by assumption) rfl rfl (Nat.le_of_ble_eq_true rfl) (Nat.le_of_ble_eq_true rfl) rfl (fun r h2 hp => ?_)
        obtain ⟨rfl, hF2, hB2⟩ := hp
        have hA3 := hA2.fr hF2 (by omega)
        refine LG_eqs (tgt := 795) dL_law_209 (by decide) ?_
        refine LG_iinc dL_law_795 (by decide) rfl rfl ?_
        refine LG_goto (tgt := 18) dL_law_798 (by decide) ?_
        exact ih (i + 3) _ _ _ _ _ _ _ _ _ _ (by omega) (by omega) hA3 hB2 (hI.act _ hI.1.build) (by omega)
      · subst hy
        refine LG_tblIn (tgt := 214) dL_law_32 (inR_of (by omega) (by omega)) (by omega) (by omega) rfl (by decide) ?_
        refine LG_aload_n dL_law_214 rfl rfl ?_
        refine LG_aload_n dL_law_215 rfl rfl ?_
        refine LG_iload_n dL_law_216 rfl rfl ?_
        refine LG_iconst dL_law_217 ?_
        refine LG_iadd dL_law_218 ?_
        refine LG_sld dL_law_219 (by omega) (by omega) ?_
        refine LG_callV (ci := 5) (as := [_]) (c_X5_flow _ 0 v hv sz ks sw tx len sn se (xI xs (i + 1)) hA hI (xI_in xs _)) dL_law_220 ml_L_22 cv_X5_flow (by assumption) rfl rfl (Nat.le_of_ble_eq_true rfl) (Nat.le_of_ble_eq_true rfl) rfl (fun r h2 hp => ?_)
        obtain ⟨rfl, hF, hA2⟩ := hp
        have hB := hB.fr hF (by omega)
        have hM0 := mdA.obj hB
        obtain ⟨fsM, hM0⟩ := hM0
        refine LG_aload_n dL_law_223 rfl rfl ?_
        refine LG_aload_n dL_law_224 rfl rfl ?_
        refine LG_iload_n dL_law_225 rfl rfl ?_
        refine LG_iconst dL_law_226 ?_
        refine LG_iadd dL_law_227 ?_
        refine LG_sld dL_law_228 (by omega) (by omega) ?_
        refine LG_callV (ci := 6) (as := [_]) (c_X6_flow _ 106 v hv sz ks sw tx len sn se (xI xs (i + 1)) hB hI (xI_in xs _)) dL_law_229 ml_L_26 cv_X6_flow (by assumption) rfl rfl (Nat.le_of_ble_eq_true rfl) (Nat.le_of_ble_eq_true rfl) rfl (fun r h2 hp => ?_)
        obtain ⟨rfl, hF2, hB2⟩ := hp
        have hA3 := hA2.fr hF2 (by omega)
        refine LG_eqs (tgt := 795) dL_law_232 (by decide) ?_
        refine LG_iinc dL_law_795 (by decide) rfl rfl ?_
        refine LG_goto (tgt := 18) dL_law_798 (by decide) ?_
        exact ih (i + 3) _ _ _ _ _ _ _ _ _ _ (by omega) (by omega) hA3 hB2 (hI.act _ hI.1.flow) (by omega)
      · subst hy
        refine LG_tblIn (tgt := 237) dL_law_32 (inR_of (by omega) (by omega)) (by omega) (by omega) rfl (by decide) ?_
        refine LG_aload_n dL_law_237 rfl rfl ?_
        refine LG_aload_n dL_law_238 rfl rfl ?_
        refine LG_iload_n dL_law_239 rfl rfl ?_
        refine LG_iconst dL_law_240 ?_
        refine LG_iadd dL_law_241 ?_
        refine LG_sld dL_law_242 (by omega) (by omega) ?_
        refine LG_aload_n dL_law_243 rfl rfl ?_
        refine LG_iload_n dL_law_244 rfl rfl ?_
        refine LG_iconst dL_law_245 ?_
        refine LG_iadd dL_law_246 ?_
        refine LG_sld dL_law_247 (by omega) (by omega) ?_
        refine LG_callV (ci := 5) (as := [_, _]) (c_X5_set _ 0 v hv sz ks sw tx len sn se (xI xs (i + 1)) (xI xs (i + 2)) hA hI (xI_in xs _) (xI_in xs _)) dL_law_248 ml_L_27 cv_X5_set (by assumption) rfl rfl (Nat.le_of_ble_eq_true rfl) (Nat.le_of_ble_eq_true rfl) rfl (fun r h2 hp => ?_)
        obtain ⟨rfl, hF, hA2⟩ := hp
        have hB := hB.fr hF (by omega)
        have hM0 := mdA.obj hB
        obtain ⟨fsM, hM0⟩ := hM0
        refine LG_aload_n dL_law_251 rfl rfl ?_
        refine LG_aload_n dL_law_252 rfl rfl ?_
        refine LG_iload_n dL_law_253 rfl rfl ?_
        refine LG_iconst dL_law_254 ?_
        refine LG_iadd dL_law_255 ?_
        refine LG_sld dL_law_256 (by omega) (by omega) ?_
        refine LG_aload_n dL_law_257 rfl rfl ?_
        refine LG_iload_n dL_law_258 rfl rfl ?_
        refine LG_iconst dL_law_259 ?_
        refine LG_iadd dL_law_260 ?_
        refine LG_sld dL_law_261 (by omega) (by omega) ?_
        refine LG_callV (ci := 6) (as := [_, _]) (c_X6_set _ 106 v hv sz ks sw tx len sn se (xI xs (i + 1)) (xI xs (i + 2)) hB hI (xI_in xs _) (xI_in xs _)) dL_law_262 ml_L_30 cv_X6_set (by assumption) rfl rfl (Nat.le_of_ble_eq_true rfl) (Nat.le_of_ble_eq_true rfl) rfl (fun r h2 hp => ?_)
        obtain ⟨rfl, hF2, hB2⟩ := hp
        have hA3 := hA2.fr hF2 (by omega)
        refine LG_eqs (tgt := 795) dL_law_265 (by decide) ?_
        refine LG_iinc dL_law_795 (by decide) rfl rfl ?_
        refine LG_goto (tgt := 18) dL_law_798 (by decide) ?_
        exact ih (i + 3) _ _ _ _ _ _ _ _ _ _ (by omega) (by omega) hA3 hB2 (hI.act _ hI.1.set) (by omega)
      · subst hy
        refine LG_tblIn (tgt := 270) dL_law_32 (inR_of (by omega) (by omega)) (by omega) (by omega) rfl (by decide) ?_
        refine LG_aload_n dL_law_270 rfl rfl ?_
        refine LG_aload_n dL_law_271 rfl rfl ?_
        refine LG_iload_n dL_law_272 rfl rfl ?_
        refine LG_iconst dL_law_273 ?_
        refine LG_iadd dL_law_274 ?_
        refine LG_sld dL_law_275 (by omega) (by omega) ?_
        refine LG_aload_n dL_law_276 rfl rfl ?_
        refine LG_iload_n dL_law_277 rfl rfl ?_
        refine LG_iconst dL_law_278 ?_
        refine LG_iadd dL_law_279 ?_
        refine LG_sld dL_law_280 (by omega) (by omega) ?_
        refine LG_callV (ci := 5) (as := [_, _]) (c_X5_sink _ 0 v hv sz ks sw tx len sn se (xI xs (i + 1)) (xI xs (i + 2)) hA hI (xI_in xs _) (xI_in xs _)) dL_law_281 ml_L_31 cv_X5_sink (by assumption) rfl rfl (Nat.le_of_ble_eq_true rfl) (Nat.le_of_ble_eq_true rfl) rfl (fun r h2 hp => ?_)
        obtain ⟨rfl, hF, hA2⟩ := hp
        have hB := hB.fr hF (by omega)
        have hM0 := mdA.obj hB
        obtain ⟨fsM, hM0⟩ := hM0
        refine LG_aload_n dL_law_284 rfl rfl ?_
        refine LG_aload_n dL_law_285 rfl rfl ?_
        refine LG_iload_n dL_law_286 rfl rfl ?_
        refine LG_iconst dL_law_287 ?_
        refine LG_iadd dL_law_288 ?_
        refine LG_sld dL_law_289 (by omega) (by omega) ?_
        refine LG_aload_n dL_law_290 rfl rfl ?_
        refine LG_iload_n dL_law_291 rfl rfl ?_
        refine LG_iconst dL_law_292 ?_
        refine LG_iadd dL_law_293 ?_
        refine LG_sld dL_law_294 (by omega) (by omega) ?_
        refine LG_callV (ci := 6) (as := [_, _]) (c_X6_sink _ 106 v hv sz ks sw tx len sn se (xI xs (i + 1)) (xI xs (i + 2)) hB hI (xI_in xs _) (xI_in xs _)) dL_law_295 ml_L_34 cv_X6_sink (by assumption) rfl rfl (Nat.le_of_ble_eq_true rfl) (Nat.le_of_ble_eq_true rfl) rfl (fun r h2 hp => ?_)
        obtain ⟨rfl, hF2, hB2⟩ := hp
        have hA3 := hA2.fr hF2 (by omega)
        refine LG_eqs (tgt := 795) dL_law_298 (by decide) ?_
        refine LG_iinc dL_law_795 (by decide) rfl rfl ?_
        refine LG_goto (tgt := 18) dL_law_798 (by decide) ?_
        exact ih (i + 3) _ _ _ _ _ _ _ _ _ _ (by omega) (by omega) hA3 hB2 (hI.act _ hI.1.sink) (by omega)
      · subst hy
        refine LG_tblIn (tgt := 303) dL_law_32 (inR_of (by omega) (by omega)) (by omega) (by omega) rfl (by decide) ?_
        refine LG_aload_n dL_law_303 rfl rfl ?_
        refine LG_aload_n dL_law_304 rfl rfl ?_
        refine LG_iload_n dL_law_305 rfl rfl ?_
        refine LG_iconst dL_law_306 ?_
        refine LG_iadd dL_law_307 ?_
        refine LG_sld dL_law_308 (by omega) (by omega) ?_
        refine LG_callV (ci := 5) (as := [_]) (c_X5_fillIn _ 0 v hv sz ks sw tx len sn se (xI xs (i + 1)) hA hI (xI_in xs _)) dL_law_309 ml_L_35 cv_X5_fillIn (by assumption) rfl rfl (Nat.le_of_ble_eq_true rfl) (Nat.le_of_ble_eq_true rfl) rfl (fun r h2 hp => ?_)
        obtain ⟨rfl, hF, hA2⟩ := hp
        have hB := hB.fr hF (by omega)
        have hM0 := mdA.obj hB
        obtain ⟨fsM, hM0⟩ := hM0
        refine LG_aload_n dL_law_312 rfl rfl ?_
        refine LG_aload_n dL_law_313 rfl rfl ?_
        refine LG_iload_n dL_law_314 rfl rfl ?_
        refine LG_iconst dL_law_315 ?_
        refine LG_iadd dL_law_316 ?_
        refine LG_sld dL_law_317 (by omega) (by omega) ?_
        refine LG_callV (ci := 6) (as := [_]) (c_X6_fillIn _ 106 v hv sz ks sw tx len sn se (xI xs (i + 1)) hB hI (xI_in xs _)) dL_law_318 ml_L_38 cv_X6_fillIn (by assumption) rfl rfl (Nat.le_of_ble_eq_true rfl) (Nat.le_of_ble_eq_true rfl) rfl (fun r h2 hp => ?_)
        obtain ⟨rfl, hF2, hB2⟩ := hp
        have hA3 := hA2.fr hF2 (by omega)
        refine LG_eqs (tgt := 795) dL_law_321 (by decide) ?_
        refine LG_iinc dL_law_795 (by decide) rfl rfl ?_
        refine LG_goto (tgt := 18) dL_law_798 (by decide) ?_
        exact ih (i + 3) _ _ _ _ _ _ _ _ _ _ (by omega) (by omega) hA3 hB2 (hI.act _ hI.1.fill) (by omega)
      · subst hy
        refine LG_tblIn (tgt := 326) dL_law_32 (inR_of (by omega) (by omega)) (by omega) (by omega) rfl (by decide) ?_
        refine LG_aload_n dL_law_326 rfl rfl ?_
        refine LG_aload_n dL_law_327 rfl rfl ?_
        refine LG_iload_n dL_law_328 rfl rfl ?_
        refine LG_iconst dL_law_329 ?_
        refine LG_iadd dL_law_330 ?_
        refine LG_sld dL_law_331 (by omega) (by omega) ?_
        refine LG_aload_n dL_law_332 rfl rfl ?_
        refine LG_iload_n dL_law_333 rfl rfl ?_
        refine LG_iconst dL_law_334 ?_
        refine LG_iadd dL_law_335 ?_
        refine LG_sld dL_law_336 (by omega) (by omega) ?_
        refine LG_callV (ci := 5) (as := [_, _]) (c_X5_setRate _ 0 v hv sz ks sw tx len sn se (xI xs (i + 1)) (xI xs (i + 2)) hA hI (xI_in xs _) (xI_in xs _)) dL_law_337 ml_L_39 cv_X5_setRate (by assumption) rfl rfl (Nat.le_of_ble_eq_true rfl) (Nat.le_of_ble_eq_true rfl) rfl (fun r h2 hp => ?_)
        obtain ⟨rfl, hF, hA2⟩ := hp
        have hB := hB.fr hF (by omega)
        have hM0 := mdA.obj hB
        obtain ⟨fsM, hM0⟩ := hM0
        refine LG_aload_n dL_law_340 rfl rfl ?_
        refine LG_aload_n dL_law_341 rfl rfl ?_
        refine LG_iload_n dL_law_342 rfl rfl ?_
        refine LG_iconst dL_law_343 ?_
        refine LG_iadd dL_law_344 ?_
        refine LG_sld dL_law_345 (by omega) (by omega) ?_
        refine LG_aload_n dL_law_346 rfl rfl ?_
        refine LG_iload_n dL_law_347 rfl rfl ?_
        refine LG_iconst dL_law_348 ?_
        refine LG_iadd dL_law_349 ?_
        refine LG_sld dL_law_350 (by omega) (by omega) ?_
        refine LG_callV (ci := 6) (as := [_, _]) (c_X6_setRate _ 106 v hv sz ks sw tx len sn se (xI xs (i + 1)) (xI xs (i + 2)) hB hI (xI_in xs _) (xI_in xs _)) dL_law_351 ml_L_42 cv_X6_setRate (by assumption) rfl rfl (Nat.le_of_ble_eq_true rfl) (Nat.le_of_ble_eq_true rfl) rfl (fun r h2 hp => ?_)
        obtain ⟨rfl, hF2, hB2⟩ := hp
        have hA3 := hA2.fr hF2 (by omega)
        refine LG_eqs (tgt := 795) dL_law_354 (by decide) ?_
        refine LG_iinc dL_law_795 (by decide) rfl rfl ?_
        refine LG_goto (tgt := 18) dL_law_798 (by decide) ?_
        exact ih (i + 3) _ _ _ _ _ _ _ _ _ _ (by omega) (by omega) hA3 hB2 (hI.act _ hI.1.rate) (by omega)
      · subst hy
        refine LG_tblIn (tgt := 359) dL_law_32 (inR_of (by omega) (by omega)) (by omega) (by omega) rfl (by decide) ?_
        refine LG_aload_n dL_law_359 rfl rfl ?_
        refine LG_aload_n dL_law_360 rfl rfl ?_
        refine LG_iload_n dL_law_361 rfl rfl ?_
        refine LG_iconst dL_law_362 ?_
        refine LG_iadd dL_law_363 ?_
        refine LG_sld dL_law_364 (by omega) (by omega) ?_
        refine LG_aload_n dL_law_365 rfl rfl ?_
        refine LG_iload_n dL_law_366 rfl rfl ?_
        refine LG_iconst dL_law_367 ?_
        refine LG_iadd dL_law_368 ?_
        refine LG_sld dL_law_369 (by omega) (by omega) ?_
        refine LG_callV (ci := 5) (as := [_, _]) (c_X5_tide _ 0 v hv sz ks sw tx len sn se (xI xs (i + 1)) (xI xs (i + 2)) hA hI (xI_in xs _) (xI_in xs _)) dL_law_370 ml_L_43 cv_X5_tide (by assumption) rfl rfl (Nat.le_of_ble_eq_true rfl) (Nat.le_of_ble_eq_true rfl) rfl (fun r h2 hp => ?_)
        obtain ⟨rfl, hF, hA2⟩ := hp
        have hB := hB.fr hF (by omega)
        have hM0 := mdA.obj hB
        obtain ⟨fsM, hM0⟩ := hM0
        refine LG_aload_n dL_law_373 rfl rfl ?_
        refine LG_aload_n dL_law_374 rfl rfl ?_
        refine LG_iload_n dL_law_375 rfl rfl ?_
        refine LG_iconst dL_law_376 ?_
        refine LG_iadd dL_law_377 ?_
        refine LG_sld dL_law_378 (by omega) (by omega) ?_
        refine LG_aload_n dL_law_379 rfl rfl ?_
        refine LG_iload_n dL_law_380 rfl rfl ?_
        refine LG_iconst dL_law_381 ?_
        refine LG_iadd dL_law_382 ?_
        refine LG_sld dL_law_383 (by omega) (by omega) ?_
        refine LG_callV (ci := 6) (as := [_, _]) (c_X6_tide _ 106 v hv sz ks sw tx len sn se (xI xs (i + 1)) (xI xs (i + 2)) hB hI (xI_in xs _) (xI_in xs _)) dL_law_384 ml_L_46 cv_X6_tide (by assumption) rfl rfl (Nat.le_of_ble_eq_true rfl) (Nat.le_of_ble_eq_true rfl) rfl (fun r h2 hp => ?_)
        obtain ⟨rfl, hF2, hB2⟩ := hp
        have hA3 := hA2.fr hF2 (by omega)
        refine LG_eqs (tgt := 795) dL_law_387 (by decide) ?_
        refine LG_iinc dL_law_795 (by decide) rfl rfl ?_
        refine LG_goto (tgt := 18) dL_law_798 (by decide) ?_
        exact ih (i + 3) _ _ _ _ _ _ _ _ _ _ (by omega) (by omega) hA3 hB2 (hI.act _ hI.1.tides) (by omega)
      · subst hy
        refine LG_tblIn (tgt := 392) dL_law_32 (inR_of (by omega) (by omega)) (by omega) (by omega) rfl (by decide) ?_
        refine LG_aload_n dL_law_392 rfl rfl ?_
        refine LG_aload_n dL_law_393 rfl rfl ?_
        refine LG_iload_n dL_law_394 rfl rfl ?_
        refine LG_iconst dL_law_395 ?_
        refine LG_iadd dL_law_396 ?_
        refine LG_sld dL_law_397 (by omega) (by omega) ?_
        refine LG_i2c dL_law_398 ?_
        refine LG_callV (ci := 5) (as := [_]) (c_X5_type _ 0 v hv sz ks sw tx len sn se (chI (xI xs (i + 1))) hA hI (chI_rng _)) dL_law_399 ml_L_47 cv_X5_type (by assumption) rfl rfl (Nat.le_of_ble_eq_true rfl) (Nat.le_of_ble_eq_true rfl) rfl (fun r h2 hp => ?_)
        obtain ⟨rfl, hF, hA2⟩ := hp
        have hB := hB.fr hF (by omega)
        have hM0 := mdA.obj hB
        obtain ⟨fsM, hM0⟩ := hM0
        refine LG_aload_n dL_law_402 rfl rfl ?_
        refine LG_aload_n dL_law_403 rfl rfl ?_
        refine LG_iload_n dL_law_404 rfl rfl ?_
        refine LG_iconst dL_law_405 ?_
        refine LG_iadd dL_law_406 ?_
        refine LG_sld dL_law_407 (by omega) (by omega) ?_
        refine LG_i2c dL_law_408 ?_
        refine LG_callV (ci := 6) (as := [_]) (c_X6_type _ 106 v hv sz ks sw tx len sn se (chI (xI xs (i + 1))) hB hI (chI_rng _)) dL_law_409 ml_L_51 cv_X6_type (by assumption) rfl rfl (Nat.le_of_ble_eq_true rfl) (Nat.le_of_ble_eq_true rfl) rfl (fun r h2 hp => ?_)
        obtain ⟨rfl, hF2, hB2⟩ := hp
        have hA3 := hA2.fr hF2 (by omega)
        refine LG_eqs (tgt := 795) dL_law_412 (by decide) ?_
        refine LG_iinc dL_law_795 (by decide) rfl rfl ?_
        refine LG_goto (tgt := 18) dL_law_798 (by decide) ?_
        exact ih (i + 3) _ _ _ _ _ _ _ _ _ _ (by omega) (by omega) hA3 hB2 (hI.typ (chI_rng _)) (by omega)
      · subst hy
        refine LG_tblIn (tgt := 417) dL_law_32 (inR_of (by omega) (by omega)) (by omega) (by omega) rfl (by decide) ?_
        refine LG_aload_n dL_law_417 rfl rfl ?_
        refine LG_callV (ci := 5) (as := []) (c_X5_clearText _ 0 v hv sz ks sw tx len sn se  hA hI ) dL_law_418 ml_L_52 cv_X5_clearText (by assumption) rfl rfl (Nat.le_of_ble_eq_true rfl) (Nat.le_of_ble_eq_true rfl) rfl (fun r h2 hp => ?_)
        obtain ⟨rfl, hF, hA2⟩ := hp
        have hB := hB.fr hF (by omega)
        have hM0 := mdA.obj hB
        obtain ⟨fsM, hM0⟩ := hM0
        refine LG_aload_n dL_law_421 rfl rfl ?_
        refine LG_callV (ci := 6) (as := []) (c_X6_clearText _ 106 v hv sz ks sw tx len sn se  hB hI ) dL_law_422 ml_L_56 cv_X6_clearText (by assumption) rfl rfl (Nat.le_of_ble_eq_true rfl) (Nat.le_of_ble_eq_true rfl) rfl (fun r h2 hp => ?_)
        obtain ⟨rfl, hF2, hB2⟩ := hp
        have hA3 := hA2.fr hF2 (by omega)
        refine LG_eqs (tgt := 795) dL_law_425 (by decide) ?_
        refine LG_iinc dL_law_795 (by decide) rfl rfl ?_
        refine LG_goto (tgt := 18) dL_law_798 (by decide) ?_
        exact ih (i + 3) _ _ _ _ _ _ _ _ _ _ (by omega) (by omega) hA3 hB2 (hI.clr) (by omega)
      · subst hy
        refine LG_tblIn (tgt := 430) dL_law_32 (inR_of (by omega) (by omega)) (by omega) (by omega) rfl (by decide) ?_
        refine LG_aload_n dL_law_430 rfl rfl ?_
        refine LG_callV (ci := 5) (as := []) (c_X5_perform _ 0 v hv sz ks sw tx len sn se  hA hI ) dL_law_431 ml_L_57 cv_X5_perform (by assumption) rfl rfl (Nat.le_of_ble_eq_true rfl) (Nat.le_of_ble_eq_true rfl) rfl (fun r h2 hp => ?_)
        obtain ⟨R, V, sn2, se2, hp1, rfl, hF, hA2⟩ := hp
        have hB := hB.fr hF (by omega)
        have hM0 := mdA.obj hB
        obtain ⟨fsM, hM0⟩ := hM0
        refine LG_aload_n dL_law_434 rfl rfl ?_
        refine LG_callV (ci := 6) (as := []) (c_X6_perform _ 106 v hv sz ks sw tx len sn se  hB hI ) dL_law_435 ml_L_60 cv_X6_perform (by assumption) rfl rfl (Nat.le_of_ble_eq_true rfl) (Nat.le_of_ble_eq_true rfl) rfl (fun r h2 hp => ?_)
        obtain ⟨R9, V9, sn9, se9, hp2, rfl, hF2, hB2⟩ := hp
        obtain ⟨rfl, rfl, rfl, rfl⟩ := PF_uniq hp1 hp2
        have hA3 := hA2.fr hF2 (by omega)
        refine LG_eqs (tgt := 795) dL_law_438 (by decide) ?_
        refine LG_iinc dL_law_795 (by decide) rfl rfl ?_
        refine LG_goto (tgt := 18) dL_law_798 (by decide) ?_
        exact ih (i + 3) _ _ _ _ _ _ _ _ _ _ (by omega) (by omega) hA3 hB2 (hI.act _ (PF_ok hp1 hI.1)) (by omega)
      · subst hy
        refine LG_tblIn (tgt := 443) dL_law_32 (inR_of (by omega) (by omega)) (by omega) (by omega) rfl (by decide) ?_
        refine LG_aload_n dL_law_443 rfl rfl ?_
        refine LG_aload_n dL_law_444 rfl rfl ?_
        refine LG_iload_n dL_law_445 rfl rfl ?_
        refine LG_iconst dL_law_446 ?_
        refine LG_iadd dL_law_447 ?_
        refine LG_sld dL_law_448 (by omega) (by omega) ?_
        refine LG_callV (ci := 5) (as := [_]) (c_X5_stopped _ 0 v hv sz ks sw tx len sn se (xI xs (i + 1)) hA hI (xI_in xs _)) dL_law_449 ml_L_61 cv_X5_stopped (by assumption) rfl rfl (Nat.le_of_ble_eq_true rfl) (Nat.le_of_ble_eq_true rfl) rfl (fun r h2 hp => ?_)
        obtain ⟨rfl, hF, hA2⟩ := hp
        have hB := hB.fr hF (by omega)
        have hM0 := mdA.obj hB
        obtain ⟨fsM, hM0⟩ := hM0
        refine LG_aload_n dL_law_452 rfl rfl ?_
        refine LG_aload_n dL_law_453 rfl rfl ?_
        refine LG_iload_n dL_law_454 rfl rfl ?_
        refine LG_iconst dL_law_455 ?_
        refine LG_iadd dL_law_456 ?_
        refine LG_sld dL_law_457 (by omega) (by omega) ?_
        refine LG_callV (ci := 6) (as := [_]) (c_X6_stopped _ 106 v hv sz ks sw tx len sn se (xI xs (i + 1)) hB hI (xI_in xs _)) dL_law_458 ml_L_64 cv_X6_stopped (by assumption) rfl rfl (Nat.le_of_ble_eq_true rfl) (Nat.le_of_ble_eq_true rfl) rfl (fun r h2 hp => ?_)
        obtain ⟨rfl, hF2, hB2⟩ := hp
        have hA3 := hA2.fr hF2 (by omega)
        refine LG_eqs (tgt := 795) dL_law_461 (by decide) ?_
        refine LG_iinc dL_law_795 (by decide) rfl rfl ?_
        refine LG_goto (tgt := 18) dL_law_798 (by decide) ?_
        exact ih (i + 3) _ _ _ _ _ _ _ _ _ _ (by omega) (by omega) hA3 hB2 (hI) (by omega)
      · subst hy
        refine LG_tblIn (tgt := 466) dL_law_32 (inR_of (by omega) (by omega)) (by omega) (by omega) rfl (by decide) ?_
        refine LG_aload_n dL_law_466 rfl rfl ?_
        refine LG_callV (ci := 5) (as := []) (c_X5_undo _ 0 v hv sz ks sw tx len sn se  hA hI ) dL_law_467 ml_L_65 cv_X5_undo (by assumption) rfl rfl (Nat.le_of_ble_eq_true rfl) (Nat.le_of_ble_eq_true rfl) rfl (fun r h2 hp => ?_)
        obtain ⟨rfl, hF, hA2⟩ := hp
        have hB := hB.fr hF (by omega)
        have hM0 := mdA.obj hB
        obtain ⟨fsM, hM0⟩ := hM0
        refine LG_aload_n dL_law_470 rfl rfl ?_
        refine LG_callV (ci := 6) (as := []) (c_X6_undo _ 106 v hv sz ks sw tx len sn se  hB hI ) dL_law_471 ml_L_68 cv_X6_undo (by assumption) rfl rfl (Nat.le_of_ble_eq_true rfl) (Nat.le_of_ble_eq_true rfl) rfl (fun r h2 hp => ?_)
        obtain ⟨rfl, hF2, hB2⟩ := hp
        have hA3 := hA2.fr hF2 (by omega)
        refine LG_eqs (tgt := 795) dL_law_474 (by decide) ?_
        refine LG_iinc dL_law_795 (by decide) rfl rfl ?_
        refine LG_goto (tgt := 18) dL_law_798 (by decide) ?_
        exact ih (i + 3) _ _ _ _ _ _ _ _ _ _ (by omega) (by omega) hA3 hB2 (hI.und) (by omega)
      · subst hy
        refine LG_tblIn (tgt := 479) dL_law_32 (inR_of (by omega) (by omega)) (by omega) (by omega) rfl (by decide) ?_
        refine LG_aload_n dL_law_479 rfl rfl ?_
        refine LG_callV (ci := 5) (as := []) (c_X5_keep _ 0 v hv sz ks sw tx len sn se  hA hI ) dL_law_480 ml_L_69 cv_X5_keep (by assumption) rfl rfl (Nat.le_of_ble_eq_true rfl) (Nat.le_of_ble_eq_true rfl) rfl (fun r h2 hp => ?_)
        obtain ⟨rfl, hF, hA2⟩ := hp
        have hB := hB.fr hF (by omega)
        have hM0 := mdA.obj hB
        obtain ⟨fsM, hM0⟩ := hM0
        refine LG_aload_n dL_law_483 rfl rfl ?_
        refine LG_callV (ci := 6) (as := []) (c_X6_keep _ 106 v hv sz ks sw tx len sn se  hB hI ) dL_law_484 ml_L_72 cv_X6_keep (by assumption) rfl rfl (Nat.le_of_ble_eq_true rfl) (Nat.le_of_ble_eq_true rfl) rfl (fun r h2 hp => ?_)
        obtain ⟨rfl, hF2, hB2⟩ := hp
        have hA3 := hA2.fr hF2 (by omega)
        refine LG_eqs (tgt := 795) dL_law_487 (by decide) ?_
        refine LG_iinc dL_law_795 (by decide) rfl rfl ?_
        refine LG_goto (tgt := 18) dL_law_798 (by decide) ?_
        exact ih (i + 3) _ _ _ _ _ _ _ _ _ _ (by omega) (by omega) hA3 hB2 (hI.kep) (by omega)
      · subst hy
        refine LG_tblIn (tgt := 492) dL_law_32 (inR_of (by omega) (by omega)) (by omega) (by omega) rfl (by decide) ?_
        refine LG_aload_n dL_law_492 rfl rfl ?_
        refine LG_callV (ci := 5) (as := []) (c_X5_restore _ 0 v hv sz ks sw tx len sn se  hA hI ) dL_law_493 ml_L_73 cv_X5_restore (by assumption) rfl rfl (Nat.le_of_ble_eq_true rfl) (Nat.le_of_ble_eq_true rfl) rfl (fun r h2 hp => ?_)
        obtain ⟨rfl, hF, hA2⟩ := hp
        have hB := hB.fr hF (by omega)
        have hM0 := mdA.obj hB
        obtain ⟨fsM, hM0⟩ := hM0
        refine LG_aload_n dL_law_496 rfl rfl ?_
        refine LG_callV (ci := 6) (as := []) (c_X6_restore _ 106 v hv sz ks sw tx len sn se  hB hI ) dL_law_497 ml_L_76 cv_X6_restore (by assumption) rfl rfl (Nat.le_of_ble_eq_true rfl) (Nat.le_of_ble_eq_true rfl) rfl (fun r h2 hp => ?_)
        obtain ⟨rfl, hF2, hB2⟩ := hp
        have hA3 := hA2.fr hF2 (by omega)
        refine LG_eqs (tgt := 795) dL_law_500 (by decide) ?_
        refine LG_iinc dL_law_795 (by decide) rfl rfl ?_
        refine LG_goto (tgt := 18) dL_law_798 (by decide) ?_
        exact ih (i + 3) _ _ _ _ _ _ _ _ _ _ (by omega) (by omega) hA3 hB2 (hI.act _ hI.rst) (by omega)
      · subst hy
        refine LG_tblIn (tgt := 505) dL_law_32 (inR_of (by omega) (by omega)) (by omega) (by omega) rfl (by decide) ?_
        refine LG_aload_n dL_law_505 rfl rfl ?_
        refine LG_aload_n dL_law_506 rfl rfl ?_
        refine LG_iload_n dL_law_507 rfl rfl ?_
        refine LG_iconst dL_law_508 ?_
        refine LG_iadd dL_law_509 ?_
        refine LG_sld dL_law_510 (by omega) (by omega) ?_
        refine LG_aload_n dL_law_511 rfl rfl ?_
        refine LG_iload_n dL_law_512 rfl rfl ?_
        refine LG_iconst dL_law_513 ?_
        refine LG_iadd dL_law_514 ?_
        refine LG_sld dL_law_515 (by omega) (by omega) ?_
        refine LG_callV (ci := 5) (as := [_, _]) (c_X5_cell _ 0 v hv sz ks sw tx len sn se (xI xs (i + 1)) (xI xs (i + 2)) hA hI (xI_in xs _) (xI_in xs _)) dL_law_516 ml_L_77 cv_X5_cell (by assumption) rfl rfl (Nat.le_of_ble_eq_true rfl) (Nat.le_of_ble_eq_true rfl) rfl (fun r h2 hp => ?_)
        obtain ⟨rfl, hF, hA2⟩ := hp
        have hB := hB.fr hF (by omega)
        have hM0 := mdA.obj hB
        obtain ⟨fsM, hM0⟩ := hM0
        refine LG_aload_n dL_law_519 rfl rfl ?_
        refine LG_aload_n dL_law_520 rfl rfl ?_
        refine LG_iload_n dL_law_521 rfl rfl ?_
        refine LG_iconst dL_law_522 ?_
        refine LG_iadd dL_law_523 ?_
        refine LG_sld dL_law_524 (by omega) (by omega) ?_
        refine LG_aload_n dL_law_525 rfl rfl ?_
        refine LG_iload_n dL_law_526 rfl rfl ?_
        refine LG_iconst dL_law_527 ?_
        refine LG_iadd dL_law_528 ?_
        refine LG_sld dL_law_529 (by omega) (by omega) ?_
        refine LG_callV (ci := 6) (as := [_, _]) (c_X6_cell _ 106 v hv sz ks sw tx len sn se (xI xs (i + 1)) (xI xs (i + 2)) hB hI (xI_in xs _) (xI_in xs _)) dL_law_530 ml_L_80 cv_X6_cell (by assumption) rfl rfl (Nat.le_of_ble_eq_true rfl) (Nat.le_of_ble_eq_true rfl) rfl (fun r h2 hp => ?_)
        obtain ⟨rfl, hF2, hB2⟩ := hp
        have hA3 := hA2.fr hF2 (by omega)
        refine LG_eqs (tgt := 795) dL_law_533 (by decide) ?_
        refine LG_iinc dL_law_795 (by decide) rfl rfl ?_
        refine LG_goto (tgt := 18) dL_law_798 (by decide) ?_
        exact ih (i + 3) _ _ _ _ _ _ _ _ _ _ (by omega) (by omega) hA3 hB2 (hI) (by omega)
      · subst hy
        refine LG_tblIn (tgt := 538) dL_law_32 (inR_of (by omega) (by omega)) (by omega) (by omega) rfl (by decide) ?_
        refine LG_aload_n dL_law_538 rfl rfl ?_
        refine LG_aload_n dL_law_539 rfl rfl ?_
        refine LG_iload_n dL_law_540 rfl rfl ?_
        refine LG_iconst dL_law_541 ?_
        refine LG_iadd dL_law_542 ?_
        refine LG_sld dL_law_543 (by omega) (by omega) ?_
        refine LG_aload_n dL_law_544 rfl rfl ?_
        refine LG_iload_n dL_law_545 rfl rfl ?_
        refine LG_iconst dL_law_546 ?_
        refine LG_iadd dL_law_547 ?_
        refine LG_sld dL_law_548 (by omega) (by omega) ?_
        refine LG_callV (ci := 5) (as := [_, _]) (c_X5_well _ 0 v hv sz ks sw tx len sn se (xI xs (i + 1)) (xI xs (i + 2)) hA hI (xI_in xs _) (xI_in xs _)) dL_law_549 ml_L_81 cv_X5_well (by assumption) rfl rfl (Nat.le_of_ble_eq_true rfl) (Nat.le_of_ble_eq_true rfl) rfl (fun r h2 hp => ?_)
        obtain ⟨rfl, hF, hA2⟩ := hp
        have hB := hB.fr hF (by omega)
        have hM0 := mdA.obj hB
        obtain ⟨fsM, hM0⟩ := hM0
        refine LG_aload_n dL_law_552 rfl rfl ?_
        refine LG_aload_n dL_law_553 rfl rfl ?_
        refine LG_iload_n dL_law_554 rfl rfl ?_
        refine LG_iconst dL_law_555 ?_
        refine LG_iadd dL_law_556 ?_
        refine LG_sld dL_law_557 (by omega) (by omega) ?_
        refine LG_aload_n dL_law_558 rfl rfl ?_
        refine LG_iload_n dL_law_559 rfl rfl ?_
        refine LG_iconst dL_law_560 ?_
        refine LG_iadd dL_law_561 ?_
        refine LG_sld dL_law_562 (by omega) (by omega) ?_
        refine LG_callV (ci := 6) (as := [_, _]) (c_X6_well _ 106 v hv sz ks sw tx len sn se (xI xs (i + 1)) (xI xs (i + 2)) hB hI (xI_in xs _) (xI_in xs _)) dL_law_563 ml_L_84 cv_X6_well (by assumption) rfl rfl (Nat.le_of_ble_eq_true rfl) (Nat.le_of_ble_eq_true rfl) rfl (fun r h2 hp => ?_)
        obtain ⟨rfl, hF2, hB2⟩ := hp
        have hA3 := hA2.fr hF2 (by omega)
        refine LG_eqs (tgt := 795) dL_law_566 (by decide) ?_
        refine LG_iinc dL_law_795 (by decide) rfl rfl ?_
        refine LG_goto (tgt := 18) dL_law_798 (by decide) ?_
        exact ih (i + 3) _ _ _ _ _ _ _ _ _ _ (by omega) (by omega) hA3 hB2 (hI) (by omega)
      · subst hy
        refine LG_tblIn (tgt := 571) dL_law_32 (inR_of (by omega) (by omega)) (by omega) (by omega) rfl (by decide) ?_
        refine LG_aload_n dL_law_571 rfl rfl ?_
        refine LG_callV (ci := 5) (as := []) (c_X5_reach _ 0 v hv sz ks sw tx len sn se  hA hI ) dL_law_572 ml_L_85 cv_X5_reach (by assumption) rfl rfl (Nat.le_of_ble_eq_true rfl) (Nat.le_of_ble_eq_true rfl) rfl (fun r h2 hp => ?_)
        obtain ⟨rfl, hF, hA2⟩ := hp
        have hB := hB.fr hF (by omega)
        have hM0 := mdA.obj hB
        obtain ⟨fsM, hM0⟩ := hM0
        refine LG_aload_n dL_law_575 rfl rfl ?_
        refine LG_callV (ci := 6) (as := []) (c_X6_reach _ 106 v hv sz ks sw tx len sn se  hB hI ) dL_law_576 ml_L_88 cv_X6_reach (by assumption) rfl rfl (Nat.le_of_ble_eq_true rfl) (Nat.le_of_ble_eq_true rfl) rfl (fun r h2 hp => ?_)
        obtain ⟨rfl, hF2, hB2⟩ := hp
        have hA3 := hA2.fr hF2 (by omega)
        refine LG_eqs (tgt := 795) dL_law_579 (by decide) ?_
        refine LG_iinc dL_law_795 (by decide) rfl rfl ?_
        refine LG_goto (tgt := 18) dL_law_798 (by decide) ?_
        exact ih (i + 3) _ _ _ _ _ _ _ _ _ _ (by omega) (by omega) hA3 hB2 (hI) (by omega)
      · subst hy
        refine LG_tblIn (tgt := 584) dL_law_32 (inR_of (by omega) (by omega)) (by omega) (by omega) rfl (by decide) ?_
        refine LG_aload_n dL_law_584 rfl rfl ?_
        refine LG_aload_n dL_law_585 rfl rfl ?_
        refine LG_iload_n dL_law_586 rfl rfl ?_
        refine LG_iconst dL_law_587 ?_
        refine LG_iadd dL_law_588 ?_
        refine LG_sld dL_law_589 (by omega) (by omega) ?_
        refine LG_aload_n dL_law_590 rfl rfl ?_
        refine LG_iload_n dL_law_591 rfl rfl ?_
        refine LG_iconst dL_law_592 ?_
        refine LG_iadd dL_law_593 ?_
        refine LG_sld dL_law_594 (by omega) (by omega) ?_
        refine LG_callV (ci := 5) (as := [_, _]) (c_X5_mark _ 0 v hv sz ks sw tx len sn se (xI xs (i + 1)) (xI xs (i + 2)) hA hI (xI_in xs _) (xI_in xs _)) dL_law_595 ml_L_89 cv_X5_mark (by assumption) rfl rfl (Nat.le_of_ble_eq_true rfl) (Nat.le_of_ble_eq_true rfl) rfl (fun r h2 hp => ?_)
        obtain ⟨rfl, hF, hA2⟩ := hp
        have hB := hB.fr hF (by omega)
        have hM0 := mdA.obj hB
        obtain ⟨fsM, hM0⟩ := hM0
        refine LG_aload_n dL_law_598 rfl rfl ?_
        refine LG_aload_n dL_law_599 rfl rfl ?_
        refine LG_iload_n dL_law_600 rfl rfl ?_
        refine LG_iconst dL_law_601 ?_
        refine LG_iadd dL_law_602 ?_
        refine LG_sld dL_law_603 (by omega) (by omega) ?_
        refine LG_aload_n dL_law_604 rfl rfl ?_
        refine LG_iload_n dL_law_605 rfl rfl ?_
        refine LG_iconst dL_law_606 ?_
        refine LG_iadd dL_law_607 ?_
        refine LG_sld dL_law_608 (by omega) (by omega) ?_
        refine LG_callV (ci := 6) (as := [_, _]) (c_X6_mark _ 106 v hv sz ks sw tx len sn se (xI xs (i + 1)) (xI xs (i + 2)) hB hI (xI_in xs _) (xI_in xs _)) dL_law_609 ml_L_92 cv_X6_mark (by assumption) rfl rfl (Nat.le_of_ble_eq_true rfl) (Nat.le_of_ble_eq_true rfl) rfl (fun r h2 hp => ?_)
        obtain ⟨rfl, hF2, hB2⟩ := hp
        have hA3 := hA2.fr hF2 (by omega)
        refine LG_eqs (tgt := 795) dL_law_612 (by decide) ?_
        refine LG_iinc dL_law_795 (by decide) rfl rfl ?_
        refine LG_goto (tgt := 18) dL_law_798 (by decide) ?_
        exact ih (i + 3) _ _ _ _ _ _ _ _ _ _ (by omega) (by omega) hA3 hB2 (hI) (by omega)
      · subst hy
        refine LG_tblIn (tgt := 617) dL_law_32 (inR_of (by omega) (by omega)) (by omega) (by omega) rfl (by decide) ?_
        refine LG_aload_n dL_law_617 rfl rfl ?_
        refine LG_aload_n dL_law_618 rfl rfl ?_
        refine LG_iload_n dL_law_619 rfl rfl ?_
        refine LG_iconst dL_law_620 ?_
        refine LG_iadd dL_law_621 ?_
        refine LG_sld dL_law_622 (by omega) (by omega) ?_
        refine LG_callV (ci := 5) (as := [_]) (c_X5_stopCell _ 0 v hv sz ks sw tx len sn se (xI xs (i + 1)) hA hI (xI_in xs _)) dL_law_623 ml_L_93 cv_X5_stopCell (by assumption) rfl rfl (Nat.le_of_ble_eq_true rfl) (Nat.le_of_ble_eq_true rfl) rfl (fun r h2 hp => ?_)
        obtain ⟨rfl, hF, hA2⟩ := hp
        have hB := hB.fr hF (by omega)
        have hM0 := mdA.obj hB
        obtain ⟨fsM, hM0⟩ := hM0
        refine LG_aload_n dL_law_626 rfl rfl ?_
        refine LG_aload_n dL_law_627 rfl rfl ?_
        refine LG_iload_n dL_law_628 rfl rfl ?_
        refine LG_iconst dL_law_629 ?_
        refine LG_iadd dL_law_630 ?_
        refine LG_sld dL_law_631 (by omega) (by omega) ?_
        refine LG_callV (ci := 6) (as := [_]) (c_X6_stopCell _ 106 v hv sz ks sw tx len sn se (xI xs (i + 1)) hB hI (xI_in xs _)) dL_law_632 ml_L_96 cv_X6_stopCell (by assumption) rfl rfl (Nat.le_of_ble_eq_true rfl) (Nat.le_of_ble_eq_true rfl) rfl (fun r h2 hp => ?_)
        obtain ⟨rfl, hF2, hB2⟩ := hp
        have hA3 := hA2.fr hF2 (by omega)
        refine LG_eqs (tgt := 795) dL_law_635 (by decide) ?_
        refine LG_iinc dL_law_795 (by decide) rfl rfl ?_
        refine LG_goto (tgt := 18) dL_law_798 (by decide) ?_
        exact ih (i + 3) _ _ _ _ _ _ _ _ _ _ (by omega) (by omega) hA3 hB2 (hI) (by omega)
      · subst hy
        refine LG_tblIn (tgt := 640) dL_law_32 (inR_of (by omega) (by omega)) (by omega) (by omega) rfl (by decide) ?_
        refine LG_aload_n dL_law_640 rfl rfl ?_
        refine LG_aload_n dL_law_641 rfl rfl ?_
        refine LG_iload_n dL_law_642 rfl rfl ?_
        refine LG_iconst dL_law_643 ?_
        refine LG_iadd dL_law_644 ?_
        refine LG_sld dL_law_645 (by omega) (by omega) ?_
        refine LG_aload_n dL_law_646 rfl rfl ?_
        refine LG_iload_n dL_law_647 rfl rfl ?_
        refine LG_iconst dL_law_648 ?_
        refine LG_iadd dL_law_649 ?_
        refine LG_sld dL_law_650 (by omega) (by omega) ?_
        refine LG_callV (ci := 5) (as := [_, _]) (c_X5_reason _ 0 v hv sz ks sw tx len sn se (xI xs (i + 1)) (xI xs (i + 2)) hA hI (xI_in xs _) (xI_in xs _)) dL_law_651 ml_L_97 cv_X5_reason (by assumption) rfl rfl (Nat.le_of_ble_eq_true rfl) (Nat.le_of_ble_eq_true rfl) rfl (fun r h2 hp => ?_)
        obtain ⟨rfl, hF, hA2⟩ := hp
        have hB := hB.fr hF (by omega)
        have hM0 := mdA.obj hB
        obtain ⟨fsM, hM0⟩ := hM0
        refine LG_aload_n dL_law_654 rfl rfl ?_
        refine LG_aload_n dL_law_655 rfl rfl ?_
        refine LG_iload_n dL_law_656 rfl rfl ?_
        refine LG_iconst dL_law_657 ?_
        refine LG_iadd dL_law_658 ?_
        refine LG_sld dL_law_659 (by omega) (by omega) ?_
        refine LG_aload_n dL_law_660 rfl rfl ?_
        refine LG_iload_n dL_law_661 rfl rfl ?_
        refine LG_iconst dL_law_662 ?_
        refine LG_iadd dL_law_663 ?_
        refine LG_sld dL_law_664 (by omega) (by omega) ?_
        refine LG_callV (ci := 6) (as := [_, _]) (c_X6_reason _ 106 v hv sz ks sw tx len sn se (xI xs (i + 1)) (xI xs (i + 2)) hB hI (xI_in xs _) (xI_in xs _)) dL_law_665 ml_L_100 cv_X6_reason (by assumption) rfl rfl (Nat.le_of_ble_eq_true rfl) (Nat.le_of_ble_eq_true rfl) rfl (fun r h2 hp => ?_)
        obtain ⟨rfl, hF2, hB2⟩ := hp
        have hA3 := hA2.fr hF2 (by omega)
        refine LG_eqs (tgt := 795) dL_law_668 (by decide) ?_
        refine LG_iinc dL_law_795 (by decide) rfl rfl ?_
        refine LG_goto (tgt := 18) dL_law_798 (by decide) ?_
        exact ih (i + 3) _ _ _ _ _ _ _ _ _ _ (by omega) (by omega) hA3 hB2 (hI) (by omega)
      · subst hy
        refine LG_tblIn (tgt := 673) dL_law_32 (inR_of (by omega) (by omega)) (by omega) (by omega) rfl (by decide) ?_
        refine LG_aload_n dL_law_673 rfl rfl ?_
        refine LG_aload_n dL_law_674 rfl rfl ?_
        refine LG_iload_n dL_law_675 rfl rfl ?_
        refine LG_iconst dL_law_676 ?_
        refine LG_iadd dL_law_677 ?_
        refine LG_sld dL_law_678 (by omega) (by omega) ?_
        refine LG_aload_n dL_law_679 rfl rfl ?_
        refine LG_iload_n dL_law_680 rfl rfl ?_
        refine LG_iconst dL_law_681 ?_
        refine LG_iadd dL_law_682 ?_
        refine LG_sld dL_law_683 (by omega) (by omega) ?_
        refine LG_callV (ci := 5) (as := [_, _]) (c_X5_restsIn _ 0 v hv sz ks sw tx len sn se (xI xs (i + 1)) (xI xs (i + 2)) hA hI (xI_in xs _) (xI_in xs _)) dL_law_684 ml_L_101 cv_X5_restsIn (by assumption) rfl rfl (Nat.le_of_ble_eq_true rfl) (Nat.le_of_ble_eq_true rfl) rfl (fun r h2 hp => ?_)
        obtain ⟨rfl, hF, hA2⟩ := hp
        have hB := hB.fr hF (by omega)
        have hM0 := mdA.obj hB
        obtain ⟨fsM, hM0⟩ := hM0
        refine LG_aload_n dL_law_687 rfl rfl ?_
        refine LG_aload_n dL_law_688 rfl rfl ?_
        refine LG_iload_n dL_law_689 rfl rfl ?_
        refine LG_iconst dL_law_690 ?_
        refine LG_iadd dL_law_691 ?_
        refine LG_sld dL_law_692 (by omega) (by omega) ?_
        refine LG_aload_n dL_law_693 rfl rfl ?_
        refine LG_iload_n dL_law_694 rfl rfl ?_
        refine LG_iconst dL_law_695 ?_
        refine LG_iadd dL_law_696 ?_
        refine LG_sld dL_law_697 (by omega) (by omega) ?_
        refine LG_callV (ci := 6) (as := [_, _]) (c_X6_restsIn _ 106 v hv sz ks sw tx len sn se (xI xs (i + 1)) (xI xs (i + 2)) hB hI (xI_in xs _) (xI_in xs _)) dL_law_698 ml_L_104 cv_X6_restsIn (by assumption) rfl rfl (Nat.le_of_ble_eq_true rfl) (Nat.le_of_ble_eq_true rfl) rfl (fun r h2 hp => ?_)
        obtain ⟨rfl, hF2, hB2⟩ := hp
        have hA3 := hA2.fr hF2 (by omega)
        refine LG_eqs (tgt := 795) dL_law_701 (by decide) ?_
        refine LG_iinc dL_law_795 (by decide) rfl rfl ?_
        refine LG_goto (tgt := 18) dL_law_798 (by decide) ?_
        exact ih (i + 3) _ _ _ _ _ _ _ _ _ _ (by omega) (by omega) hA3 hB2 (hI) (by omega)
      · subst hy
        refine LG_tblIn (tgt := 706) dL_law_32 (inR_of (by omega) (by omega)) (by omega) (by omega) rfl (by decide) ?_
        refine LG_aload_n dL_law_706 rfl rfl ?_
        refine LG_aload_n dL_law_707 rfl rfl ?_
        refine LG_iload_n dL_law_708 rfl rfl ?_
        refine LG_iconst dL_law_709 ?_
        refine LG_iadd dL_law_710 ?_
        refine LG_sld dL_law_711 (by omega) (by omega) ?_
        refine LG_aload_n dL_law_712 rfl rfl ?_
        refine LG_iload_n dL_law_713 rfl rfl ?_
        refine LG_iconst dL_law_714 ?_
        refine LG_iadd dL_law_715 ?_
        refine LG_sld dL_law_716 (by omega) (by omega) ?_
        refine LG_callV (ci := 5) (as := [_, _]) (c_X5_leastFlow _ 0 v hv sz ks sw tx len sn se (xI xs (i + 1)) (xI xs (i + 2)) hA hI (xI_in xs _) (xI_in xs _)) dL_law_717 ml_L_105 cv_X5_leastFlow (by assumption) rfl rfl (Nat.le_of_ble_eq_true rfl) (Nat.le_of_ble_eq_true rfl) rfl (fun r h2 hp => ?_)
        obtain ⟨rfl, hF, hA2⟩ := hp
        have hB := hB.fr hF (by omega)
        have hM0 := mdA.obj hB
        obtain ⟨fsM, hM0⟩ := hM0
        refine LG_aload_n dL_law_720 rfl rfl ?_
        refine LG_aload_n dL_law_721 rfl rfl ?_
        refine LG_iload_n dL_law_722 rfl rfl ?_
        refine LG_iconst dL_law_723 ?_
        refine LG_iadd dL_law_724 ?_
        refine LG_sld dL_law_725 (by omega) (by omega) ?_
        refine LG_aload_n dL_law_726 rfl rfl ?_
        refine LG_iload_n dL_law_727 rfl rfl ?_
        refine LG_iconst dL_law_728 ?_
        refine LG_iadd dL_law_729 ?_
        refine LG_sld dL_law_730 (by omega) (by omega) ?_
        refine LG_callV (ci := 6) (as := [_, _]) (c_X6_leastFlow _ 106 v hv sz ks sw tx len sn se (xI xs (i + 1)) (xI xs (i + 2)) hB hI (xI_in xs _) (xI_in xs _)) dL_law_731 ml_L_108 cv_X6_leastFlow (by assumption) rfl rfl (Nat.le_of_ble_eq_true rfl) (Nat.le_of_ble_eq_true rfl) rfl (fun r h2 hp => ?_)
        obtain ⟨rfl, hF2, hB2⟩ := hp
        have hA3 := hA2.fr hF2 (by omega)
        refine LG_eqs (tgt := 795) dL_law_734 (by decide) ?_
        refine LG_iinc dL_law_795 (by decide) rfl rfl ?_
        refine LG_goto (tgt := 18) dL_law_798 (by decide) ?_
        exact ih (i + 3) _ _ _ _ _ _ _ _ _ _ (by omega) (by omega) hA3 hB2 (hI) (by omega)
      · subst hy
        refine LG_tblIn (tgt := 739) dL_law_32 (inR_of (by omega) (by omega)) (by omega) (by omega) rfl (by decide) ?_
        refine LG_aload_n dL_law_739 rfl rfl ?_
        refine LG_aload_n dL_law_740 rfl rfl ?_
        refine LG_iload_n dL_law_741 rfl rfl ?_
        refine LG_iconst dL_law_742 ?_
        refine LG_iadd dL_law_743 ?_
        refine LG_sld dL_law_744 (by omega) (by omega) ?_
        refine LG_aload_n dL_law_745 rfl rfl ?_
        refine LG_iload_n dL_law_746 rfl rfl ?_
        refine LG_iconst dL_law_747 ?_
        refine LG_iadd dL_law_748 ?_
        refine LG_sld dL_law_749 (by omega) (by omega) ?_
        refine LG_callV (ci := 5) (as := [_, _]) (c_X5_bestSill _ 0 v hv sz ks sw tx len sn se (xI xs (i + 1)) (xI xs (i + 2)) hA hI (xI_in xs _) (xI_in xs _)) dL_law_750 ml_L_109 cv_X5_bestSill (by assumption) rfl rfl (Nat.le_of_ble_eq_true rfl) (Nat.le_of_ble_eq_true rfl) rfl (fun r h2 hp => ?_)
        obtain ⟨rfl, hF, hA2⟩ := hp
        have hB := hB.fr hF (by omega)
        have hM0 := mdA.obj hB
        obtain ⟨fsM, hM0⟩ := hM0
        refine LG_aload_n dL_law_753 rfl rfl ?_
        refine LG_aload_n dL_law_754 rfl rfl ?_
        refine LG_iload_n dL_law_755 rfl rfl ?_
        refine LG_iconst dL_law_756 ?_
        refine LG_iadd dL_law_757 ?_
        refine LG_sld dL_law_758 (by omega) (by omega) ?_
        refine LG_aload_n dL_law_759 rfl rfl ?_
        refine LG_iload_n dL_law_760 rfl rfl ?_
        refine LG_iconst dL_law_761 ?_
        refine LG_iadd dL_law_762 ?_
        refine LG_sld dL_law_763 (by omega) (by omega) ?_
        refine LG_callV (ci := 6) (as := [_, _]) (c_X6_bestSill _ 106 v hv sz ks sw tx len sn se (xI xs (i + 1)) (xI xs (i + 2)) hB hI (xI_in xs _) (xI_in xs _)) dL_law_764 ml_L_112 cv_X6_bestSill (by assumption) rfl rfl (Nat.le_of_ble_eq_true rfl) (Nat.le_of_ble_eq_true rfl) rfl (fun r h2 hp => ?_)
        obtain ⟨rfl, hF2, hB2⟩ := hp
        have hA3 := hA2.fr hF2 (by omega)
        refine LG_eqs (tgt := 795) dL_law_767 (by decide) ?_
        refine LG_iinc dL_law_795 (by decide) rfl rfl ?_
        refine LG_goto (tgt := 18) dL_law_798 (by decide) ?_
        exact ih (i + 3) _ _ _ _ _ _ _ _ _ _ (by omega) (by omega) hA3 hB2 (hI) (by omega)
      · subst hy
        refine LG_tblIn (tgt := 772) dL_law_32 (inR_of (by omega) (by omega)) (by omega) (by omega) rfl (by decide) ?_
        refine LG_aload_n dL_law_772 rfl rfl ?_
        refine LG_aload_n dL_law_773 rfl rfl ?_
        refine LG_iload_n dL_law_774 rfl rfl ?_
        refine LG_iconst dL_law_775 ?_
        refine LG_iadd dL_law_776 ?_
        refine LG_sld dL_law_777 (by omega) (by omega) ?_
        refine LG_callV (ci := 5) (as := [_]) (c_X5_count _ 0 v hv sz ks sw tx len sn se (xI xs (i + 1)) hA hI (xI_in xs _)) dL_law_778 ml_L_113 cv_X5_count (by assumption) rfl rfl (Nat.le_of_ble_eq_true rfl) (Nat.le_of_ble_eq_true rfl) rfl (fun r h2 hp => ?_)
        obtain ⟨rfl, hF, hA2⟩ := hp
        have hB := hB.fr hF (by omega)
        have hM0 := mdA.obj hB
        obtain ⟨fsM, hM0⟩ := hM0
        refine LG_aload_n dL_law_781 rfl rfl ?_
        refine LG_aload_n dL_law_782 rfl rfl ?_
        refine LG_iload_n dL_law_783 rfl rfl ?_
        refine LG_iconst dL_law_784 ?_
        refine LG_iadd dL_law_785 ?_
        refine LG_sld dL_law_786 (by omega) (by omega) ?_
        refine LG_callV (ci := 6) (as := [_]) (c_X6_count _ 106 v hv sz ks sw tx len sn se (xI xs (i + 1)) hB hI (xI_in xs _)) dL_law_787 ml_L_116 cv_X6_count (by assumption) rfl rfl (Nat.le_of_ble_eq_true rfl) (Nat.le_of_ble_eq_true rfl) rfl (fun r h2 hp => ?_)
        obtain ⟨rfl, hF2, hB2⟩ := hp
        have hA3 := hA2.fr hF2 (by omega)
        refine LG_eqs (tgt := 795) dL_law_790 (by decide) ?_
        refine LG_iinc dL_law_795 (by decide) rfl rfl ?_
        refine LG_goto (tgt := 18) dL_law_798 (by decide) ?_
        exact ih (i + 3) _ _ _ _ _ _ _ _ _ _ (by omega) (by omega) hA3 hB2 (hI) (by omega)
      · refine LG_tblOut (tgt := 795) dL_law_32 (inR_of (by omega) (by omega)) (Or.inr hy) (by decide) ?_
        refine LG_iinc dL_law_795 (by decide) rfl rfl ?_
        refine LG_goto (tgt := 18) dL_law_798 (by decide) ?_
        exact ih (i + 3) _ _ _ _ _ _ _ _ _ _ (by omega) (by omega) hA hB hI (by omega)
