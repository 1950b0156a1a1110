section GC
variable {f : Nat} {cc : ByteArray} {own : String} {nL : Nat} {rt : Option FieldType} {h : List PO} {pc : Nat} {lv : List (Option PV)} {st : List PV} {post : Option PV → List PO → Prop}
theorem G_ireturn {x : Int} (hd : decode cc pc = .ok (.ireturn, 1)) (hr : rt = some .int) (hp : post (some (i_ x)) h) : G f cc own nL rt h pc lv [i_ x] post := by
  intro g p l e s m args below meth c H locs ls M E hK hP hD hS hl
  have hlocks : meth.locks = false := M.2.2.2.2.2.2
  exact W.iret (v := I x) M.1 M.2.1 (M.2.2.2.2.2.1.trans hr) (fun t ht hW => ⟨⟨some (i_ x), h, rfl, hp, by rw [ht]; exact hP, hD⟩, hS.F ht⟩) hS.2.2 hd hlocks
theorem G_zreturn {x : Int} (hd : decode cc pc = .ok (.ireturn, 1)) (hr : rt = some .boolean) (hx : x = 0 ∨ x = 1) (hp : post (some (i_ x)) h) : G f cc own nL rt h pc lv [i_ x] post := by
  intro g p l e s m args below meth c H locs ls M E hK hP hD hS hl
  have hlocks : meth.locks = false := M.2.2.2.2.2.2
  exact W.zret (v := I x) (ty := .boolean) M.1 M.2.1 (M.2.2.2.2.2.1.trans hr) (by rcases hx with rfl | rfl <;> rfl) (fun t ht hW => ⟨⟨some (i_ x), h, rfl, hp, by rw [ht]; exact hP, hD⟩, hS.F ht⟩) hS.2.2 hd hlocks
theorem G_return (hd : decode cc pc = .ok (.return_, 1)) (hr : rt = none) (hp : post none h) : G f cc own nL rt h pc lv [] post := by
  intro g p l e s m args below meth c H locs ls M E hK hP hD hS hl
  have hlocks : meth.locks = false := M.2.2.2.2.2.2
  exact W.vret M.1 M.2.1 (M.2.2.2.2.2.1.trans hr) (fun t ht hW => ⟨⟨none, h, rfl, hp, by rw [ht]; exact hP, hD⟩, hS.F ht⟩) hS.2.2 hd hlocks
/-- what a call of y needs of the tables: y has n parameters and nLy locals -/
def CI (y : MethodName) (cy : ByteArray) (nLy : Nat) (ry : Option FieldType) (n : Nat) : Prop := Cond.initialized y.cls ∈ GW ∧ Cond.code y cy nLy ry ∈ GW ∧ (y.cls ≠ "java/lang/invoke/MethodHandle" ∧ y.cls ≠ "java/lang/invoke/VarHandle" ∧ (parseMethodDescriptor y.desc).map (fun d => d.parameters.length) = some n) ∧ nLy ≤ 14
def CV (C : String) (y : MethodName) (cy : ByteArray) (nLy : Nat) (ry : Option FieldType) (n : Nat) : Prop := CI y cy nLy ry n ∧ Cond.instanceMethod y ∈ GW ∧ Cond.selects C y y ∈ GW ∧ y.cls = C ∧ Cond.initialized C ∈ GW
def CS (y : MethodName) (cy : ByteArray) (nLy : Nat) (ry : Option FieldType) (n : Nat) : Prop := CI y cy nLy ry n ∧ Cond.static y ∈ GW
theorem In.blind {g : GP} {h : List PO} {args : List PV} : FrameBlind (Pcg g h args) := fun _ _ f mk q => ⟨q.1, q.2.1, q.2.2.1, q.2.2.2.1, q.2.2.2.2.blind f mk _⟩
theorem rm_le {fy nLy : Nat} (hf : fy + 1 ≤ f) (hn : nLy ≤ 14) : (rm fy).frames + 1 ≤ (rm f).frames ∧ 8 + (nLy + 11) + (rm fy).locals ≤ (rm f).locals := by
  refine ⟨hf, ?_⟩
  show 8 + (nLy + 11) + 33 * fy ≤ 33 * f
  omega
theorem gw_code {y : MethodName} {cy : ByteArray} {nLy : Nat} {ry : Option FieldType} (hc : Cond.code y cy nLy ry ∈ GW) : ∀ w ∈ (Cond.code y cy nLy ry :: GW), w ∈ GW := fun w hw => (List.mem_cons.mp hw).elim (fun e => by rw [e]; exact hc) id
theorem G_back {posty : Option PV → List PO → Prop} {as : List PV} {rest st0 : List PV} {a : Array Value}
    {g : GP} {p : Program} {l : Launch} {e : Jvm.Env} {s : State} {m : MethodId} {args : Array Value} {below : List Frame} {meth : Method} {c : Code} {H : Heap} {locs : List Loc} {ls : Array Slot}
    (M : Mx p s m args meth c cc own nL rt) (E : Env g s) (hK : gK g ≤ s.heap.size) (hS : va_S (gA g) s.heap H locs) (hl : lvh g ls nL lv)
    (hr : va_Run p l e (rm f) s m args below meth c H locs 0 0 0 0 (F0 m pc ls (st0.map (tr g))) (rest.map (tr g)) (Qcg g posty a) (gA g))
    (k : ∀ r h', posty r h' → G f cc own nL rt h' (pc + 3) lv (r.toList ++ rest) post) :
    W p l e (rm f) s m args below meth c H locs 0 0 (MQ below (Qcg g post) args s 0 0 (gA g)) (F0 m pc ls (st0.map (tr g))) := by
  intro T hT X
  obtain ⟨v, st₀, t, T', L, h0, X', hL, e1, e2, ⟨⟨r, h', hv, hp, hP', hD'⟩, hz, hk⟩, hst⟩ := hr T hT X
  cases hv
  rw [h0] at hz hk
  have hS' : va_S (gA g) s.heap T'.heap (locs ++ L) := ⟨Nat.le_trans hS.1 (by rw [e1]; exact hz), fun q h1 h2 => by rw [e1, hk q (Nat.lt_of_lt_of_le h1 hS.1) h2]; exact hS.2.1 q h1 h2, fun q hq => by
      rcases List.mem_append.mp hq with h | h
      · exact hS.2.2 q h
      · exact hL q h⟩
  obtain ⟨t2, a1, b1⟩ := k r h' hp g p l e s m args below meth c T'.heap (locs ++ L) ls M E hK (by rw [e1]; exact hP') hD' hS' hl T' rfl X'
  refine ⟨t2, hst t2 ?_, b1⟩
  have e3 : ((r.toList ++ rest).map (tr g)) = (r.map (tr g)).toList ++ rest.map (tr g) := by
    cases r <;> rfl
  rw [e3] at a1
  exact a1
theorem G_pre {g : GP} {p : Program} {s : State} {m : MethodId} {args : Array Value} {meth : Method} {c : Code} {H : Heap} {locs : List Loc} (M : Mx p s m args meth c cc own nL rt) (E : Env g s) (hK : gK g ≤ s.heap.size) (hP : va_P (gD g) vwCl (wld g h) H) (hD : va_D (gA g) (wld g h)) (hS : va_S (gA g) s.heap H locs) (as : List PV) (U : State) (hU : U.heap = H) (hW : s.WarmedH U.vm) : Pcg g h as (as.map (tr g)).toArray U :=
  ⟨rfl, by rw [hU]; exact Nat.le_trans hK hS.1, by rw [hU]; exact hP, hD, E.go hW hU hS⟩
theorem G_callV {fy nLy n idx b ci : Nat} {C : String} {y : MethodName} {cy : ByteArray} {ry : Option FieldType} {posty : Option PV → List PO → Prop} {as st0 : List PV} {fs : List PV}
    (hM : PM fy y cy nLy ry h (r_ b :: as) posty) (hd : decode cc pc = .ok (.invokevirtual idx, 3)) (hl : Cond.methodLink own idx y ∈ GW) (hv : CV C y cy nLy ry n)
    (hb : h[b]? = some (oO ci fs)) (hc : (vwCl[ci]?).map (fun q => q.1) = some C) (hn : as.length = n) (hf : fy + 1 ≤ f) (hs : st.length ≤ 8) (e0 : st0 = as.reverse ++ r_ b :: st)
    (k : ∀ r h', posty r h' → G f cc own nL rt h' (pc + 3) lv (r.toList ++ st) post) : G f cc own nL rt h pc lv st0 post := by
  subst e0
  obtain ⟨⟨v1, v2, v3, v4⟩, v5, v6, v7, v8⟩ := hv
  obtain ⟨q, hq, rfl⟩ : ∃ q : vw_C, vwCl[ci]? = some q ∧ q.1 = C := by
    cases hq : vwCl[ci]? with
    | none => rw [hq] at hc; cases hc
    | some q => rw [hq] at hc; exact ⟨q, rfl, Option.some.inj hc⟩
  intro g p l e s m args below meth c H locs ls M E hK hP hD hS hlv
  have hts := M.2.2.2.2.1
  have hm := hM l g
  refine G_back (rest := st) (as := as) M E hK hS hlv (va_runV (As := as.map (tr g)) (rest := st.map (tr g)) ⟨M.1, M.2.1, M.2.2.1, M.2.2.2.1, hts⟩ hm (cwV n hts (gw_in (fun w hw => ?_)) rfl rfl rfl ⟨v7, v3⟩ (rm_le hf v4)) ⟨In.blind, va_recv E.1 hP hq (wld_get hb), fun U hU hW => G_pre M E hK hP hD hS (r_ b :: as) U hU hW⟩ rfl (by simpa using hn) hlv.1 (by simp [tr]) (lv_room (by rw [tr_sum]; exact hs)) hd ⟨Nat.le_refl _, Nat.le_refl _⟩) k
  unfold wsV at hw
  rcases List.mem_append.mp hw with hw | hw
  · simp only [List.mem_cons, List.not_mem_nil, or_false] at hw
    rcases hw with rfl | rfl | rfl | rfl
    · exact hl
    · exact v5
    · exact v6
    · exact v8
  · exact gw_code v2 w hw
theorem G_callS {fy nLy n idx : Nat} {y : MethodName} {cy : ByteArray} {ry : Option FieldType} {posty : Option PV → List PO → Prop} {as st0 : List PV}
    (hM : PM fy y cy nLy ry h as posty) (hd : decode cc pc = .ok (.invokestatic idx, 3)) (hl : Cond.methodLink own idx y ∈ GW) (hv : CS y cy nLy ry n)
    (hn : as.length = n) (hf : fy + 1 ≤ f) (hs : st.length ≤ 8) (e0 : st0 = as.reverse ++ st)
    (k : ∀ r h', posty r h' → G f cc own nL rt h' (pc + 3) lv (r.toList ++ st) post) : G f cc own nL rt h pc lv st0 post := by
  subst e0
  obtain ⟨⟨v1, v2, v3, v4⟩, v5⟩ := hv
  intro g p l e s m args below meth c H locs ls M E hK hP hD hS hlv
  have hts := M.2.2.2.2.1
  have hm := hM l g
  refine G_back (rest := st) (as := as) M E hK hS hlv (va_runS (As := as.map (tr g)) (rest := st.map (tr g)) ⟨M.1, M.2.1, M.2.2.1, M.2.2.2.1, hts⟩ hm (va_cwS n hts (gw_in (fun w hw => ?_)) rfl rfl rfl v3 (rm_le hf v4)) ⟨In.blind, fun U hU hW => G_pre M E hK hP hD hS as U hU hW⟩ rfl (by simpa using hn) hlv.1 (by simp) (lv_room (by rw [tr_sum]; exact hs)) hd ⟨Nat.le_refl _, Nat.le_refl _⟩) k
  unfold va_wsS at hw
  rcases List.mem_append.mp hw with hw | hw
  · simp only [List.mem_cons, List.not_mem_nil, or_false] at hw
    rcases hw with rfl | rfl | rfl
    · exact hl
    · exact v5
    · exact v1
  · exact gw_code v2 w hw
theorem G_callSN {fy nLy n idx : Nat} {y : MethodName} {cy : ByteArray} {ry : Option FieldType} {posty : Option PV → List PO → Prop} {as st0 : List PV}
    (hM : PM fy y cy nLy ry h as posty) (hd : decode cc pc = .ok (.invokestatic idx, 3)) (hl : ∀ (g : GP) (U : State), Env g U → va_Nw (.methodLinkNest own idx y host5) U) (hv : CS y cy nLy ry n)
    (hn : as.length = n) (hf : fy + 1 ≤ f) (hs : st.length ≤ 8) (e0 : st0 = as.reverse ++ st)
    (k : ∀ r h', posty r h' → G f cc own nL rt h' (pc + 3) lv (r.toList ++ st) post) : G f cc own nL rt h pc lv st0 post := by
  subst e0
  obtain ⟨⟨v1, v2, v3, v4⟩, v5⟩ := hv
  intro g p l e s m args below meth c H locs ls M E hK hP hD hS hlv
  have hts := M.2.2.2.2.1
  have hm := hM l g
  exact G_back (rest := st) (as := as) M E hK hS hlv (va_runSN (host := host5) (As := as.map (tr g)) (rest := st.map (tr g)) ⟨M.1, M.2.1, M.2.2.1, M.2.2.2.1, hts⟩ hm ⟨va_cnB n hts (gw_in (gw_code v2)) rfl rfl rfl (hl g s E) (hts _ v1) v3 (rm_le hf v4), hts _ v5, trivial⟩ ⟨In.blind, fun U hU hW => G_pre M E hK hP hD hS as U hU hW⟩ rfl (by simpa using hn) hlv.1 (by simp) (lv_room (by rw [tr_sum]; exact hs)) hd ⟨Nat.le_refl _, Nat.le_refl _⟩) k
/-- Math.min and Math.max -/
def MM (own : String) (idx : Nat) (y : MethodName) (cy : ByteArray) : Prop := Cond.methodLink own idx y ∈ GW ∧ Cond.static y ∈ GW ∧ Cond.initialized "java/lang/Math" ∈ GW ∧ Cond.code y cy 2 (some .int) ∈ GW
theorem G_min {idx : Nat} {x y : Int} (hd : decode cc pc = .ok (.invokestatic idx, 3)) (hm : MM own idx Lib.Math.min.name Lib.Math.min.code) (hx : inR x) (hy : inR y) (hf : 1 ≤ f) (hs : st.length ≤ 8) (k : G f cc own nL rt h (pc + 3) lv (i_ (min x y) :: st) post) : G f cc own nL rt h pc lv (i_ y :: i_ x :: st) post := by
  refine G_w (fun g p l e s m args below meth c H locs ls M E hK hP hD hS hl kk => ?_) k
  have hts := M.2.2.2.2.1
  refine va_mmin (rest := st.map (tr g)) (x := I x) (y := I y) M.1 M.2.1 (M.2.2.1.trans hl.1.symm) M.2.2.2.1 (hts _ hm.1) (hts _ hm.2.1) (hts _ hm.2.2.1) (hts _ hm.2.2.2) hf (by rw [tr_sum]; show _ ≤ 33 * f; omega) (Nat.le_refl 0) (Nat.le_refl 0) hd ?_
  have e : (if I y < I x then I y else I x) = I (min x y) := by
    by_cases q : y < x
    · rw [if_pos ((I_lt hy hx).mpr q), Int.min_eq_right (by omega)]
    · rw [if_neg (fun z => q ((I_lt hy hx).mp z)), Int.min_eq_left (by omega)]
  rw [e]
  exact kk H locs ls hP hD hS hl
theorem G_max {idx : Nat} {x y : Int} (hd : decode cc pc = .ok (.invokestatic idx, 3)) (hm : MM own idx Lib.Math.max.name Lib.Math.max.code) (hx : inR x) (hy : inR y) (hf : 1 ≤ f) (hs : st.length ≤ 8) (k : G f cc own nL rt h (pc + 3) lv (i_ (max x y) :: st) post) : G f cc own nL rt h pc lv (i_ y :: i_ x :: st) post := by
  refine G_w (fun g p l e s m args below meth c H locs ls M E hK hP hD hS hl kk => ?_) k
  have hts := M.2.2.2.2.1
  refine va_mmax (rest := st.map (tr g)) (x := I x) (y := I y) M.1 M.2.1 (M.2.2.1.trans hl.1.symm) M.2.2.2.1 (hts _ hm.1) (hts _ hm.2.1) (hts _ hm.2.2.1) (hts _ hm.2.2.2) hf (by rw [tr_sum]; show _ ≤ 33 * f; omega) (Nat.le_refl 0) (Nat.le_refl 0) hd ?_
  have e : (if I x < I y then I y else I x) = I (max x y) := by
    by_cases q : x < y
    · rw [if_pos ((I_lt hx hy).mpr q), Int.max_eq_right (by omega)]
    · rw [if_neg (fun z => q ((I_lt hx hy).mp z)), Int.max_eq_left (by omega)]
  rw [e]
  exact kk H locs ls hP hD hS hl
/-- System.arraycopy of a whole row of n ints onto another -/
def MC (own : String) (idx : Nat) : Prop := Cond.methodLink own idx arraycopyName ∈ GW ∧ Cond.native arraycopyName ∈ GW ∧ Cond.static arraycopyName ∈ GW ∧ Cond.initialized "java/lang/System" ∈ GW
theorem cell_ext {cA : ClassId} {n : Nat} {q1 q2 : Nat → Int32} (hq : ∀ j, j < n → q1 j = q2 j) : vp_cell cA (n, .inl q1) = vp_cell cA (n, .inl q2) := by
  show arrV cA n (fun j => .int (q1 j)) = arrV cA n (fun j => .int (q2 j))
  unfold arrV
  congr 2
  funext j
  show Value.int (q1 j.val) = Value.int (q2 j.val)
  rw [hq j.val j.isLt]
theorem va_P_ext {D : va_G} {cl : List vw_C} {ws : va_W} {H : Heap} {a k n : Nat} {cA : ClassId} {q1 q2 : Nat → Int32} (hP : va_P D cl (ws.set k (a, .inl (cA, n, .inl q1))) H) (hq : ∀ j, j < n → q1 j = q2 j) : va_P D cl (ws.set k (a, .inl (cA, n, .inl q2))) H := by
  intro i q hi
  by_cases e : k = i
  · subst e
    have hlt : k < ws.length := by
      have := (List.getElem?_eq_some_iff.mp hi).1
      simpa using this
    rw [List.getElem?_set_self hlt] at hi
    cases hi
    have := hP k (a, .inl (cA, n, .inl q1)) (by rw [List.getElem?_set_self hlt])
    show H[a]? = some (vp_cell cA (n, .inl q2))
    rw [← cell_ext hq]
    exact this
  · rw [List.getElem?_set_ne e] at hi
    exact hP i q (by rw [List.getElem?_set_ne e]; exact hi)
theorem va_D_ext {A : Nat → Prop} {ws : va_W} {a k : Nat} {e1 e2 : va_E} (hD : va_D A (ws.set k (a, e1))) : va_D A (ws.set k (a, e2)) := by
  by_cases hk : k < ws.length
  · have h := hD.set (p := k) (a := a) (e0 := e1) (e := e2) (by rw [List.getElem?_set_self hk])
    rwa [List.set_set] at h
  · rw [List.set_eq_of_length_le (by omega)] at hD ⊢
    exact hD
theorem G_ext {a n : Nat} {q1 q2 : Int → Int} (hq : ∀ j : Int, 0 ≤ j → j < n → q1 j = q2 j) (k : G f cc own nL rt (h.set a (oI n q2)) pc lv st post) : G f cc own nL rt (h.set a (oI n q1)) pc lv st post := by
  refine G_w (fun g p l e s m args below meth c H locs ls M E hK hP hD hS hl kk => ?_) k
  rw [wld_set] at hP hD
  refine kk H locs ls ?_ ?_ hS hl
  · rw [wld_set]
    exact va_P_ext hP (fun j hj => by show I (q1 _) = I (q2 _); rw [hq _ (by omega) (by omega)])
  · rw [wld_set]
    exact va_D_ext hD
theorem nfw : nativeFrameWords "java/lang/System" "arraycopy" 5 ≤ 40 := by decide +kernel
theorem copy_room (hf : 2 ≤ f) (hs : st.length ≤ 8) : st.length + (nativeFrameWords "java/lang/System" "arraycopy" 5 + 11) ≤ 33 * f := by
  have e := nfw
  omega
theorem G_copy {idx a b n : Nat} {q1 q2 : Int → Int} {n1 : Int} (hd : decode cc pc = .ok (.invokestatic idx, 3)) (hm : MC own idx) (ha : h[a]? = some (oI n q1)) (hb : h[b]? = some (oI n q2)) (hn1 : n1 = n) (hn : n ≤ 2147483647) (hf : 2 ≤ f) (hs : st.length ≤ 8) (k : G f cc own nL rt (h.set b (oI n q1)) (pc + 3) lv st post) : G f cc own nL rt h pc lv (i_ n1 :: i_ 0 :: r_ b :: i_ 0 :: r_ a :: st) post := by
  subst hn1
  refine G_w (fun g p l e s m args below meth c H locs ls M E hK hP hD hS hl kk => ?_) k
  have hts := M.2.2.2.2.1
  have z0 : (I 0).toNatClampNeg = 0 := rfl
  have zn : (I (n : Int)).toNatClampNeg = n := by rw [I_clamp ⟨by omega, by omega⟩]; omega
  refine va_copyi (D := gD g) (cl := vwCl) (tys := gT g) (rest := st.map (tr g)) (ty := .int) (n0 := n) (n1 := n) (f := fun k => I (q1 (k : Int))) (g := fun k => I (q2 (k : Int))) M.1 M.2.1 (M.2.2.1.trans hl.1.symm) M.2.2.2.1 (hts _ hm.1) (hts _ hm.2.1) (hts _ hm.2.2.1) (hts _ hm.2.2.2) E.1 hP hD hS a b 0 0 (wld_get ha) (wld_get hb) rfl rfl rfl (sp := I 0) (dp := I 0) (n := I (n : Int)) (by decide) (by decide) (by rw [I_lt0 ⟨by omega, by omega⟩]; omega) (by rw [z0, zn]; omega) (by rw [z0, zn]; omega) (fun _ _ => rfl) (by show 1 ≤ f; omega) (by rw [tr_sum]; exact copy_room hf hs) hd (fun H1 locs1 hP1 hD1 hS1 => ?_)
  rw [z0, zn] at hP1 hD1
  refine kk H1 locs1 ls ?_ ?_ hS1 hl
  · rw [wld_set]
    exact va_P_ext hP1 (fun j hj => by
      unfold va_cpy
      rw [if_pos ⟨by omega, by omega⟩]
      simp)
  · rw [wld_set]
    exact va_D_ext hD1
/-- the two static rows -/
theorem G_getsL (own3 : own = RX3) (hd : decode cc pc = .ok (.getstatic 52, 3)) (k : G f cc own nL rt h (pc + 3) lv (r_ rZl :: st) post) : G f cc own nL rt h pc lv st post := by
  subst own3
  refine G_w (fun g p l e s m args below meth c H locs ls M E hK hP hD hS hl kk => ?_) k
  have n4 := E.2.1.2.2.2.1
  exact va_getsN M.1 M.2.1 E.2.2.1.1 hS M.2.2.2.1 (va_Nw.use rfl n4) (fun _ q => q) hd (kk H locs ls hP hD hS hl)
theorem G_getsM (own3 : own = RX3) (hd : decode cc pc = .ok (.getstatic 55, 3)) (k : G f cc own nL rt h (pc + 3) lv (r_ rZm :: st) post) : G f cc own nL rt h pc lv st post := by
  subst own3
  refine G_w (fun g p l e s m args below meth c H locs ls M E hK hP hD hS hl kk => ?_) k
  have n5 := E.2.1.2.2.2.2
  exact va_getsN M.1 M.2.1 E.2.2.1.2 hS M.2.2.2.1 (va_Nw.use rfl n5) (fun _ q => q) hd (kk H locs ls hP hD hS hl)
theorem G_sald {q : Int → Int} {z : Nat} {x : Int} (hd : decode cc pc = .ok (.iaload, 1)) (hz : z = rZl ∧ q = leastF ∨ z = rZm ∧ q = mostF) (h0 : 0 ≤ x) (h1 : x < 3) (kk : G f cc own nL rt h (pc + 1) lv (i_ (q x) :: st) post) : G f cc own nL rt h pc lv (i_ x :: r_ z :: st) post := by
  refine G_w (fun g p l e s m args below meth c H locs ls M E hK hP hD hS hl kk => ?_) kk
  have key : ∀ (z : Nat) (q : Int → Int), va_T .int (gad g z) 3 (fun k => .int (I (q (k : Int)))) (gA g) s s.heap → W p l e (rm f) s m args below meth c H locs 0 0 (MQ below (Qcg g post) args s 0 0 (gA g)) (F0 m (pc + 1) ls (.int (I (q x)) :: st.map (tr g))) → W p l e (rm f) s m args below meth c H locs 0 0 (MQ below (Qcg g post) args s 0 0 (gA g)) (F0 m pc ls (.int (I x) :: .ref (gad g z) :: st.map (tr g))) := by
    intro z q hz kk
    refine va_ti (A := gA g) M.1 M.2.1 hz hS (i := I x) (I_in h0 (by omega) (by decide)) (v := .int (I (q x))) ?_ hd kk
    show Value.int (I (q (((I x).toNatClampNeg : Nat) : Int))) = _
    rw [clampN (n := 3) h0 (by omega) (by decide)]
  rcases hz with ⟨rfl, rfl⟩ | ⟨rfl, rfl⟩
  · exact key rZl leastF E.2.2.2.1 (kk H locs ls hP hD hS hl)
  · exact key rZm mostF E.2.2.2.2.1 (kk H locs ls hP hD hS hl)
end GC
