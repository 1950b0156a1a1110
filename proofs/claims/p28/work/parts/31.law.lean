/-! THE CLAIM OUT OF ONE WALK OF THE LAW'S BODY. Your part is whole_start (and what it stands on); all else here is the same for every law, but numbers. -/
def R_law : String := "SaltWedgeLaw"
def lw_P (b : Addr) (xs : List Int32) (args : Array Value) (s : State) : Prop := args = #[.ref b] ∧ s.IntsAt b xs ∧ xs.length ≤ 260 ∧ (Jvm.Cond.and given_1 narrow_1).before args s = true
def lw_Q (_ : Array Value) (s : State) (o : Outcome) (t : State) : Prop := o = .returned (some (.int 1)) ∧ Framed s o t [] 600000 7302249
def lw_Z (below : List Frame) (a : Array Value) (s : State) : State → Prop := fun t => ∃ o, t.status = .running ∧ Ended t below o ∧ lw_Q a s o t
/-- the law's own end, with 1 on the stack, nothing written that was there before, its room as the claim has it -/
theorem lw_ret {p : Program} {l : Launch} {e : Jvm.Env} {s : State} {m : MethodId} {below : List Frame} {meth : Method} {c : Code} {b : Nat} (hx : p.tables.exec = Jvm.exec) (hb : c.code = code) (hr : meth.sig.returnType = ret) (hlocks : meth.locks = false) {pc : Nat} {H : Heap} {ls : Array Slot} (hdg : decode code pc = .ok (.ireturn, 1)) : W p l e room_1 s m #[Value.ref b] below meth c H [] 600000 7302249 (lw_Z below #[Value.ref b] s) (F0 m pc ls [.int 1]) := by
  intro T hT X
  obtain ⟨fs, hret, hrun, hended, hW, hframe⟩ := X.leave (v := some (.int 1)) (hlocks := hlocks) (fun h => by rw [hr] at h; cases h)
  have hmeth' : T.vm.method? m = some meth := X.method'
  refine ⟨T.setFrames fs, ?_, .returned (some (.int 1)), hrun, hended, rfl, ⟨_, rfl⟩, hW, hframe⟩
  jvm_step X.here [X.here.top, hx, hb, hdg, hmeth', hr, ret, narrow_b1]
  (try refine ⟨rfl, ?_⟩); (try refine ⟨rfl, ?_⟩)
  first | (intro acts; rw [hret _ acts rfl rfl rfl]) | rw [hret _ _ rfl rfl rfl]
  exact Steps.refl _
/-- what holds at the law's entry: the machine, the code, the tables' words (any of lw_tbl by 'hts w (by decide +kernel)'), the script of L ints xs at the cell b, what the Statement gives of the start (any of its parts by flat_of_before) -/
def lw_At (p : Program) (s : State) (m : MethodId) (meth : Method) (c : Code) (b L : Nat) (xs : Nat → Int32) : Prop :=
  p.tables.exec = Jvm.exec ∧ c.code = code ∧ meth.sig.returnType = ret ∧ c.maxLocals = 10 ∧ s.vm.findClass R_law = some m.cls ∧ (∀ w ∈ lw_tbl, w.before #[Value.ref b] s = true) ∧ va_X b L xs s s.heap ∧ b < s.heap.size ∧ meth.locks = false ∧ (Jvm.Cond.and given_1 narrow_1).before #[Value.ref b] s = true
/-! the law's walk: the object at 0, the script at rZs -/
def Ol (b : Nat) : GP → State → Array Value → Method → Prop := fun g s args meth => meth.sig.returnType = ret ∧ meth.locks = false ∧ args = #[Value.ref b] ∧ gK g = s.heap.size
def Zl : GP → State → Array Value → List Frame → State → Prop := fun _ s args below => lw_Z below args s
theorem ro_law : RO room_1 9 := fun fy nLy a b => ⟨a, by show 8 + (nLy + 11) + 33 * fy ≤ 354; omega⟩
theorem law_ret1 {b : Nat} {h : List PO} {pc : Nat} {lv : List (Option PW)} (hd : decode cL_law pc = .ok (.ireturn, 1)) : GL (Ol b) room_1 9 Zl cL_law 10 h pc lv [w_ 1] := by
  intro g p l e s m args below meth c H locs ls hO hR M E hK hP hD hS hl
  obtain ⟨hr, hlocks, rfl, hk⟩ := hO
  refine va_forget (fun q hq => ?_) (lw_ret M.1 M.2.1 hr hlocks hd)
  have := hS.2.2 q hq
  show s.heap.size ≤ q.base
  rw [← hk]
  exact this
/-- the act of the k-th turn -/
def tA (k x y : Int) : OP := if k < 3 then (4, lowI x 5, 1 + lowI y 30) else opA x y
theorem tA_60 (k x y : Int) : (tA k x y).2.2 ≤ 60 := by
  unfold tA
  split
  · have := lowI_rng y (n := 30) (by omega)
    show 1 + lowI y 30 ≤ 60
    omega
  · exact opA_60 x y
set_option maxRecDepth 100000 in
set_option maxHeartbeats 8000000 in
theorem law_loop (b : Nat) : ∀ (fu : Nat) (k : Nat) (hh : List PO) (v : SV) (hv : Int → SV) (sz ks : Int) (sw : SV), SYS hh v hv sz ks sw → v 11 2 ≤ 60 * (k : Int) → k ≤ 44 → 44 - k < fu → GL (Ol b) room_1 9 Zl cL_law 10 hh 31 [some (p_ rZs), some (p_ 0), some (w_ 1), some (w_ (k : Int)), none, none, none, none, none, none] [] := by
  intro fu
  induction fu with
  | zero => intro k hh v hv sz ks sw hS hT hk hmeas; exfalso; omega
  | succ fu ih =>
    intro k hh v hv sz ks sw hS hT hk hmeas
    have hS0 := hS
    have hg := hS.gen
    refine L_iload_n dL_law_31 rfl rfl ?_
    refine L_bipush dL_law_32 rfl ?_
    refine L_icmp_ge (tgt := 362) dL_law_34 (by decide) (inR_of (by omega) (by omega)) (inR_of (by omega) (by omega)) (fun hc34 => ?_) (fun hc34 => ?_)
    · skip
      refine L_iload_n dL_law_362 rfl rfl ?_
      exact law_ret1 dL_law_363
    · skip
      refine L_iload_n dL_law_37 rfl rfl ?_
      refine L_if_eq (tgt := 362) dL_law_38 (by decide) (inR_of (by omega) (by omega)) (fun hc38 => ?_) (fun hc38 => ?_)
      · skip
        exfalso; omega
      · skip
        refine L_aload_n dL_law_41 rfl rfl ?_
        refine L_iconst dL_law_42 ?_
        refine L_iload_n dL_law_43 rfl rfl ?_
        refine L_imul dL_law_44 ?_
        refine L_callS (as := [_, _]) (c_L_cell _ _ (by omega) (by omega)) dL_law_45 ml_L_103 cs_L_cell rfl (Nat.le_of_ble_eq_true rfl) (Nat.le_of_ble_eq_true rfl) rfl (fun r h2 hp => ?_)
        obtain ⟨x, hx, rfl, rfl⟩ := hp
        refine L_istore dL_law_48 (by decide) rfl rfl ?_
        refine L_aload_n dL_law_50 rfl rfl ?_
        refine L_iconst dL_law_51 ?_
        refine L_iload_n dL_law_52 rfl rfl ?_
        refine L_imul dL_law_53 ?_
        refine L_iconst dL_law_54 ?_
        refine L_iadd dL_law_55 ?_
        refine L_callS (as := [_, _]) (c_L_cell _ _ (by omega) (by omega)) dL_law_56 ml_L_103 cs_L_cell rfl (Nat.le_of_ble_eq_true rfl) (Nat.le_of_ble_eq_true rfl) rfl (fun r h2 hp => ?_)
        obtain ⟨y, hy, rfl, rfl⟩ := hp
        have hx1 := hx.1
        have hx2 := hx.2
        have q1 := lowI_rng (shrI y 3) (n := 61) (by omega)
        have q2 := lowI_rng (shrI x 5) (n := 40) (by omega)
        have q3 := lowI_rng (shrI y 6) (n := 61) (by omega)
        have q4 := lowI_rng (shrI x 8) (n := 24) (by omega)
        have q5 := lowI_rng (shrI x 7) (n := 6) (by omega)
        have q6 := lowI_rng (shrI y 5) (n := 61) (by omega)
        have q7 := lowI_rng (shrI y 5) (n := 4) (by omega)
        have q8 := lowI_rng x (n := 5) (by omega)
        have q9 := lowI_rng y (n := 30) (by omega)
        refine L_istore dL_law_59 (by decide) rfl rfl ?_
        refine L_aload_n dL_law_61 rfl rfl ?_
        refine L_bipush dL_law_62 rfl ?_
        refine L_callV (ci := 5) (as := [_]) (s_count (y := sz) hS (inR_of (by omega) (by omega)) rfl) dL_law_64 ml_L_46 cv_X5_count hS.obj rfl rfl (Nat.le_of_ble_eq_true rfl) (Nat.le_of_ble_eq_true rfl) rfl (fun r h2 hp => ?_)
        obtain ⟨rfl, hS⟩ := hp
        refine L_istore dL_law_67 (by decide) rfl rfl ?_
        refine L_aload_n dL_law_69 rfl rfl ?_
        refine L_callS (as := [_]) (c_L_print _ _ _ _ _ _ hS) dL_law_70 ml_L_64 cs_L_print rfl (Nat.le_of_ble_eq_true rfl) (Nat.le_of_ble_eq_true rfl) rfl (fun r h2 hp => ?_)
        obtain ⟨rfl, hS⟩ := hp
        refine L_lstore dL_law_73 (by decide) rfl rfl ?_
        refine L_iload_n dL_law_75 rfl rfl ?_
        refine L_iconst dL_law_76 ?_
        refine L_fork2 110 (opR v (tA (k : Int) x y)) (fun h => SYS h (opV v (tA (k : Int) x y)) (hvA hv sz v (opR v (tA (k : Int) x y))) (szA sz (opR v (tA (k : Int) x y))) ks sw) rfl (fun h2 hS => ?_) (fun J => ?_)
        · skip
          have hR := op_rng (tA (k : Int) x y) hS0.ok
          have J2 : ∀ (h4 : List PO) (hv4 : Int → SV) (sz4 : Int), SYS h4 (opV v (tA (k : Int) x y)) hv4 sz4 ks sw → GL (Ol b) room_1 9 Zl cL_law 10 h4 244 [some (p_ rZs), some (p_ 0), some (w_ 1), some (w_ (k : Int)), some (w_ x), some (w_ y), some (w_ sz), some (l_ (prnL v)), none, some (w_ (opR v (tA (k : Int) x y)))] [] := by
            intro h4 hv4 sz4 hS
            have hT2 : opV v (tA (k : Int) x y) 11 2 ≤ v 11 2 + 60 := op_tides (tA (k : Int) x y) (by omega) (tA_60 _ _ _)
            refine L_iload_n dL_law_244 rfl rfl ?_
            refine L_if_eq (tgt := 354) dL_law_245 (by decide) (inR_of (by omega) (by omega)) (fun hc245 => ?_) (fun hc245 => ?_)
            · skip
              exfalso; omega
            · skip
              refine L_aload_n dL_law_248 rfl rfl ?_
              refine L_callS (as := [_]) (c_L_hangs _ _ _ _ _ _ hS) dL_law_249 ml_L_77 cs_L_hangs rfl (Nat.le_of_ble_eq_true rfl) (Nat.le_of_ble_eq_true rfl) rfl (fun r h2 hp => ?_)
              obtain ⟨rfl, hS⟩ := hp
              refine L_if_eq (tgt := 354) dL_law_252 (by decide) (inR_of (by omega) (by omega)) (fun hc252 => ?_) (fun hc252 => ?_)
              · skip
                exfalso; omega
              · skip
                refine L_aload_n dL_law_255 rfl rfl ?_
                refine L_iload dL_law_256 rfl ?_
                refine L_iconst dL_law_258 ?_
                refine L_ishr dL_law_259 ?_
                refine L_bipush dL_law_260 rfl ?_
                refine L_callS (as := [_, _]) (c_L_low _ _ _ (by omega)) dL_law_262 ml_L_10 cs_L_low rfl (Nat.le_of_ble_eq_true rfl) (Nat.le_of_ble_eq_true rfl) rfl (fun r h2 hp => ?_)
                obtain ⟨rfl, rfl⟩ := hp
                refine L_bipush dL_law_265 rfl ?_
                refine L_isub dL_law_267 ?_
                refine L_callS (as := [_, _]) (c_L_comes _ _ _ _ _ _ _ hS (by omega) (by omega)) dL_law_268 ml_L_99 cs_L_comes rfl (Nat.le_of_ble_eq_true rfl) (Nat.le_of_ble_eq_true rfl) rfl (fun r h2 hp => ?_)
                obtain ⟨rfl, hv3, sz3, hS⟩ := hp
                refine L_if_eq (tgt := 354) dL_law_271 (by decide) (inR_of (by omega) (by omega)) (fun hc271 => ?_) (fun hc271 => ?_)
                · skip
                  exfalso; omega
                · skip
                  refine L_aload_n dL_law_274 rfl rfl ?_
                  refine L_iload dL_law_275 rfl ?_
                  refine L_iconst dL_law_277 ?_
                  refine L_ishr dL_law_278 ?_
                  refine L_bipush dL_law_279 rfl ?_
                  refine L_callS (as := [_, _]) (c_L_low _ _ _ (by omega)) dL_law_281 ml_L_10 cs_L_low rfl (Nat.le_of_ble_eq_true rfl) (Nat.le_of_ble_eq_true rfl) rfl (fun r h2 hp => ?_)
                  obtain ⟨rfl, rfl⟩ := hp
                  refine L_iload dL_law_284 rfl ?_
                  refine L_bipush dL_law_286 rfl ?_
                  refine L_ishr dL_law_288 ?_
                  refine L_bipush dL_law_289 rfl ?_
                  refine L_callS (as := [_, _]) (c_L_low _ _ _ (by omega)) dL_law_291 ml_L_10 cs_L_low rfl (Nat.le_of_ble_eq_true rfl) (Nat.le_of_ble_eq_true rfl) rfl (fun r h2 hp => ?_)
                  obtain ⟨rfl, rfl⟩ := hp
                  refine L_bipush dL_law_294 rfl ?_
                  refine L_isub dL_law_296 ?_
                  refine L_iconst dL_law_297 ?_
                  refine L_iload dL_law_298 rfl ?_
                  refine L_bipush dL_law_300 rfl ?_
                  refine L_ishr dL_law_302 ?_
                  refine L_bipush dL_law_303 rfl ?_
                  refine L_callS (as := [_, _]) (c_L_low _ _ _ (by omega)) dL_law_305 ml_L_10 cs_L_low rfl (Nat.le_of_ble_eq_true rfl) (Nat.le_of_ble_eq_true rfl) rfl (fun r h2 hp => ?_)
                  obtain ⟨rfl, rfl⟩ := hp
                  refine L_iadd dL_law_308 ?_
                  refine L_callS (as := [_, _, _, _]) (c_L_keeps _ _ _ _ _ _ _ _ _ hS (by omega) (by omega) (by omega)) dL_law_309 ml_L_110 cs_L_keeps rfl (Nat.le_of_ble_eq_true rfl) (Nat.le_of_ble_eq_true rfl) rfl (fun r h2 hp => ?_)
                  obtain ⟨rfl, hv4, sz4, hS⟩ := hp
                  refine L_if_eq (tgt := 354) dL_law_312 (by decide) (inR_of (by omega) (by omega)) (fun hc312 => ?_) (fun hc312 => ?_)
                  · skip
                    exfalso; omega
                  · skip
                    refine L_iload_n dL_law_315 rfl rfl ?_
                    refine L_iconst dL_law_316 ?_
                    refine L_irem dL_law_317 (by omega) (inR_of (by omega) (by omega)) (by omega) (inR_of (by omega) (by omega)) ?_
                    refine L_if_gt (tgt := 350) dL_law_318 (by decide) (inR_of (by omega) (by omega)) (fun hc318 => ?_) (fun hc318 => ?_)
                    · skip
                      refine L_iconst dL_law_350 ?_
                      refine L_goto (tgt := 355) dL_law_351 (by decide) ?_
                      refine L_istore_n dL_law_355 rfl (by decide) rfl rfl ?_
                      refine L_iinc dL_law_356 (by decide) rfl rfl rfl ?_
                      refine L_goto (tgt := 31) dL_law_359 (by decide) ?_
                      refine L_forget 4 rfl ?_
                      refine L_forget 5 rfl ?_
                      refine L_forget 6 rfl ?_
                      refine L_forget 7 rfl ?_
                      refine L_forget 9 rfl ?_
                      exact ih (k + 1) _ _ _ _ _ _ hS (by omega) (by omega) (by omega)
                    · skip
                      refine L_aload_n dL_law_321 rfl rfl ?_
                      refine L_iload dL_law_322 rfl ?_
                      refine L_bipush dL_law_324 rfl ?_
                      refine L_ishr dL_law_326 ?_
                      refine L_bipush dL_law_327 rfl ?_
                      refine L_callS (as := [_, _]) (c_L_low _ _ _ (by omega)) dL_law_329 ml_L_10 cs_L_low rfl (Nat.le_of_ble_eq_true rfl) (Nat.le_of_ble_eq_true rfl) rfl (fun r h2 hp => ?_)
                      obtain ⟨rfl, rfl⟩ := hp
                      refine L_iload dL_law_332 rfl ?_
                      refine L_iconst dL_law_334 ?_
                      refine L_ishr dL_law_335 ?_
                      refine L_bipush dL_law_336 rfl ?_
                      refine L_callS (as := [_, _]) (c_L_low _ _ _ (by omega)) dL_law_338 ml_L_10 cs_L_low rfl (Nat.le_of_ble_eq_true rfl) (Nat.le_of_ble_eq_true rfl) rfl (fun r h2 hp => ?_)
                      obtain ⟨rfl, rfl⟩ := hp
                      refine L_bipush dL_law_341 rfl ?_
                      refine L_isub dL_law_343 ?_
                      refine L_callS (as := [_, _, _]) (c_L_rests _ _ _ _ _ _ _ _ hS (by omega) (by omega) (by omega)) dL_law_344 ml_L_114 cs_L_rests rfl (Nat.le_of_ble_eq_true rfl) (Nat.le_of_ble_eq_true rfl) rfl (fun r h2 hp => ?_)
                      obtain ⟨rfl, hv5, sz5, ks5, sw5, hS⟩ := hp
                      refine L_if_eq (tgt := 354) dL_law_347 (by decide) (inR_of (by omega) (by omega)) (fun hc347 => ?_) (fun hc347 => ?_)
                      · skip
                        exfalso; omega
                      · skip
                        refine L_iconst dL_law_350 ?_
                        refine L_goto (tgt := 355) dL_law_351 (by decide) ?_
                        refine L_istore_n dL_law_355 rfl (by decide) rfl rfl ?_
                        refine L_iinc dL_law_356 (by decide) rfl rfl rfl ?_
                        refine L_goto (tgt := 31) dL_law_359 (by decide) ?_
                        refine L_forget 4 rfl ?_
                        refine L_forget 5 rfl ?_
                        refine L_forget 6 rfl ?_
                        refine L_forget 7 rfl ?_
                        refine L_forget 9 rfl ?_
                        exact ih (k + 1) _ _ _ _ _ _ hS (by omega) (by omega) (by omega)
          refine L_istore dL_law_110 (by decide) rfl rfl ?_
          refine L_iload dL_law_112 rfl ?_
          refine L_if_ge (tgt := 147) dL_law_114 (by decide) (inR_of (by omega) (by omega)) (fun hc114 => ?_) (fun hc114 => ?_)
          · skip
            have ua := und_act (v := v) (V := opV v (tA (k : Int) x y)) (hv := hv) (sz := sz) (R := opR v (tA (k : Int) x y)) hc114 hg.2.2.2.2.2.2.2.1 hg.2.2.2.2.2.2.2.2
            have ua4 := ua.2.2.2
            have ua2 := ua.2.1
            refine L_aload_n dL_law_147 rfl rfl ?_
            refine L_bipush dL_law_148 rfl ?_
            refine L_callV (ci := 5) (as := [_]) (s_count (y := szA sz (opR v (tA (k : Int) x y))) hS (inR_of (by omega) (by omega)) rfl) dL_law_150 ml_L_46 cv_X5_count hS.obj rfl rfl (Nat.le_of_ble_eq_true rfl) (Nat.le_of_ble_eq_true rfl) rfl (fun r h2 hp => ?_)
            obtain ⟨rfl, hS⟩ := hp
            refine L_iload dL_law_153 rfl ?_
            refine L_iconst dL_law_155 ?_
            refine L_fork2 167 (szA sz (opR v (tA (k : Int) x y))) (fun h => SYS h (opV v (tA (k : Int) x y)) (hvA hv sz v (opR v (tA (k : Int) x y))) (szA sz (opR v (tA (k : Int) x y))) ks sw) rfl (fun h2 hS => ?_) (fun J => ?_)
            · skip
              refine L_icmp_neE dL_law_167 (by decide) (rfl) ?_
              refine L_iconst dL_law_170 ?_
              refine L_goto (tgt := 175) dL_law_171 (by decide) ?_
              refine L_istore_n dL_law_175 rfl (by decide) rfl rfl ?_
              refine L_iload_n dL_law_176 rfl rfl ?_
              refine L_if_eq (tgt := 244) dL_law_177 (by decide) (inR_of (by omega) (by omega)) (fun hc177 => ?_) (fun hc177 => ?_)
              · skip
                exfalso; omega
              · skip
                refine L_iload_n dL_law_180 rfl rfl ?_
                refine L_iconst dL_law_181 ?_
                refine L_icmp_le (tgt := 244) dL_law_182 (by decide) (inR_of (by omega) (by omega)) (inR_of (by omega) (by omega)) (fun hc182 => ?_) (fun hc182 => ?_)
                · skip
                  first
                    | exact J2 _ _ _ hS
                    | exact J2 _ _ _ (by rw [et3]; exact hS)
                · skip
                  refine L_iload dL_law_185 rfl ?_
                  refine L_iconst dL_law_187 ?_
                  refine L_ishr dL_law_188 ?_
                  refine L_iconst dL_law_189 ?_
                  refine L_callS (as := [_, _]) (c_L_low _ _ _ (by omega)) dL_law_190 ml_L_10 cs_L_low rfl (Nat.le_of_ble_eq_true rfl) (Nat.le_of_ble_eq_true rfl) rfl (fun r h2 hp => ?_)
                  obtain ⟨rfl, rfl⟩ := hp
                  refine L_if_ne (tgt := 244) dL_law_193 (by decide) (inR_of (by omega) (by omega)) (fun hc193 => ?_) (fun hc193 => ?_)
                  · skip
                    first
                      | exact J2 _ _ _ hS
                      | exact J2 _ _ _ (by rw [et3]; exact hS)
                  · skip
                    refine L_aload_n dL_law_196 rfl rfl ?_
                    refine L_callV (ci := 5) (as := []) (s_undo (v := v) hS ua.1 hS0.xi) dL_law_197 ml_L_80 cv_X5_undo hS.obj rfl rfl (Nat.le_of_ble_eq_true rfl) (Nat.le_of_ble_eq_true rfl) rfl (fun r h2 hp => ?_)
                    obtain ⟨rfl, hS⟩ := hp
                    have hu := ua.2.1
                    refine L_iload dL_law_200 rfl ?_
                    refine L_iconst dL_law_202 ?_
                    refine L_fork2 212 (undR (szA sz (opR v (tA (k : Int) x y)))) (fun h => SYS h v (hvA hv sz v (opR v (tA (k : Int) x y))) (undZ (szA sz (opR v (tA (k : Int) x y)))) ks sw) rfl (fun h2 hS => ?_) (fun J => ?_)
                    · skip
                      refine L_icmp_neE dL_law_212 (by decide) (rfl) ?_
                      refine L_aload_n dL_law_215 rfl rfl ?_
                      refine L_callS (as := [_]) (c_L_print _ _ _ _ _ _ hS) dL_law_216 ml_L_64 cs_L_print rfl (Nat.le_of_ble_eq_true rfl) (Nat.le_of_ble_eq_true rfl) rfl (fun r h2 hp => ?_)
                      obtain ⟨rfl, hS⟩ := hp
                      refine L_lload dL_law_219 rfl ?_
                      refine L_lcmpE dL_law_221 rfl ?_
                      refine L_if_ne (tgt := 242) dL_law_222 (by decide) (inR_of (by omega) (by omega)) (fun hc222 => ?_) (fun hc222 => ?_)
                      · skip
                        exfalso; omega
                      · skip
                        refine L_aload_n dL_law_225 rfl rfl ?_
                        refine L_iload dL_law_226 rfl ?_
                        refine L_iload dL_law_228 rfl ?_
                        have et3 : tA (k : Int) x y = opA x y := by unfold tA; exact if_neg (by omega)
                        refine L_callS (as := [_, _, _]) (c_L_act _ _ _ _ _ _ _ _ hS) dL_law_230 ml_L_106 cs_L_act rfl (Nat.le_of_ble_eq_true rfl) (Nat.le_of_ble_eq_true rfl) rfl (fun r h2 hp => ?_)
                        obtain ⟨rfl, hS⟩ := hp
                        refine L_iload dL_law_233 rfl ?_
                        refine L_icmp_neE dL_law_235 (by decide) (by rw [et3]) ?_
                        refine L_iconst dL_law_238 ?_
                        refine L_goto (tgt := 243) dL_law_239 (by decide) ?_
                        refine L_istore_n dL_law_243 rfl (by decide) rfl rfl ?_
                        first
                          | exact J2 _ _ _ hS
                          | exact J2 _ _ _ (by rw [et3]; exact hS)
                    · skip
                      refine L_icmp_ge (tgt := 211) dL_law_203 (by decide) (inR_of (by omega) (by omega)) (inR_of (by omega) (by omega)) (fun hc203 => ?_) (fun hc203 => ?_)
                      · skip
                        refine L_iconst dL_law_211 ?_
                        exact J _ _ hS (by rw [ua2]; split <;> omega)
                      · skip
                        refine L_iload dL_law_206 rfl ?_
                        refine L_goto (tgt := 212) dL_law_208 (by decide) ?_
                        exact J _ _ hS (by rw [ua2]; split <;> omega)
            · skip
              refine L_icmp_ge (tgt := 166) dL_law_156 (by decide) (inR_of (by omega) (by omega)) (inR_of (by omega) (by omega)) (fun hc156 => ?_) (fun hc156 => ?_)
              · skip
                refine L_iconst dL_law_166 ?_
                exact J _ _ hS (by rw [ua4]; split <;> omega)
              · skip
                refine L_iload dL_law_159 rfl ?_
                refine L_iconst dL_law_161 ?_
                refine L_iadd dL_law_162 ?_
                refine L_goto (tgt := 167) dL_law_163 (by decide) ?_
                exact J _ _ hS (by rw [ua4]; split <;> omega)
          · skip
            have hne := op_neg (tA (k : Int) x y) hS0.ok hc114
            have hz : szA sz (opR v (tA (k : Int) x y)) = sz := if_neg (by omega)
            refine L_aload_n dL_law_117 rfl rfl ?_
            refine L_bipush dL_law_118 rfl ?_
            refine L_callV (ci := 5) (as := [_]) (s_count (y := szA sz (opR v (tA (k : Int) x y))) hS (inR_of (by omega) (by omega)) rfl) dL_law_120 ml_L_46 cv_X5_count hS.obj rfl rfl (Nat.le_of_ble_eq_true rfl) (Nat.le_of_ble_eq_true rfl) rfl (fun r h2 hp => ?_)
            obtain ⟨rfl, hS⟩ := hp
            refine L_iload dL_law_123 rfl ?_
            refine L_icmp_neE dL_law_125 (by decide) (hz) ?_
            refine L_aload_n dL_law_128 rfl rfl ?_
            refine L_callS (as := [_]) (c_L_print _ _ _ _ _ _ hS) dL_law_129 ml_L_64 cs_L_print rfl (Nat.le_of_ble_eq_true rfl) (Nat.le_of_ble_eq_true rfl) rfl (fun r h2 hp => ?_)
            obtain ⟨rfl, hS⟩ := hp
            refine L_lload dL_law_132 rfl ?_
            refine L_lcmpE dL_law_134 (by rw [hne]) ?_
            refine L_if_ne (tgt := 142) dL_law_135 (by decide) (inR_of (by omega) (by omega)) (fun hc135 => ?_) (fun hc135 => ?_)
            · skip
              exfalso; omega
            · skip
              refine L_iconst dL_law_138 ?_
              refine L_goto (tgt := 143) dL_law_139 (by decide) ?_
              refine L_istore_n dL_law_143 rfl (by decide) rfl rfl ?_
              refine L_goto (tgt := 244) dL_law_144 (by decide) ?_
              first
                | exact J2 _ _ _ hS
                | exact J2 _ _ _ (by rw [et3]; exact hS)
        · skip
          refine L_icmp_ge (tgt := 102) dL_law_77 (by decide) (inR_of (by omega) (by omega)) (inR_of (by omega) (by omega)) (fun hc77 => ?_) (fun hc77 => ?_)
          · skip
            refine L_aload_n dL_law_102 rfl rfl ?_
            refine L_iload dL_law_103 rfl ?_
            refine L_iload dL_law_105 rfl ?_
            refine L_callS (as := [_, _, _]) (c_L_act _ _ _ _ _ _ _ _ hS) dL_law_107 ml_L_106 cs_L_act rfl (Nat.le_of_ble_eq_true rfl) (Nat.le_of_ble_eq_true rfl) rfl (fun r h2 hp => ?_)
            obtain ⟨rfl, hS⟩ := hp
            first
              | (have et : tA (k : Int) x y = opA x y := by unfold tA; exact if_neg (by omega)
                 exact J _ _ (by rw [et]; exact hS) (by rw [et]))
              | (have et : tA (k : Int) x y = (4, lowI x 5, 1 + lowI y 30) := by unfold tA; exact if_pos (by omega)
                 exact J _ _ (by rw [et]; exact hS) (by rw [et]; rfl))
          · skip
            refine L_aload_n dL_law_80 rfl rfl ?_
            refine L_iload dL_law_81 rfl ?_
            refine L_iconst dL_law_83 ?_
            refine L_callS (as := [_, _]) (c_L_low _ _ _ (by omega)) dL_law_84 ml_L_10 cs_L_low rfl (Nat.le_of_ble_eq_true rfl) (Nat.le_of_ble_eq_true rfl) rfl (fun r h2 hp => ?_)
            obtain ⟨rfl, rfl⟩ := hp
            refine L_iconst dL_law_87 ?_
            refine L_iload dL_law_88 rfl ?_
            refine L_bipush dL_law_90 rfl ?_
            refine L_callS (as := [_, _]) (c_L_low _ _ _ (by omega)) dL_law_92 ml_L_10 cs_L_low rfl (Nat.le_of_ble_eq_true rfl) (Nat.le_of_ble_eq_true rfl) rfl (fun r h2 hp => ?_)
            obtain ⟨rfl, rfl⟩ := hp
            refine L_iadd dL_law_95 ?_
            refine L_callV (ci := 5) (as := [_, _]) (s_sink hS (inR_of (by omega) (by omega)) (inR_of (by omega) (by omega))) dL_law_96 ml_L_31 cv_X5_sink hS.obj rfl rfl (Nat.le_of_ble_eq_true rfl) (Nat.le_of_ble_eq_true rfl) rfl (fun r h2 hp => ?_)
            obtain ⟨rfl, hS⟩ := hp
            refine L_goto (tgt := 110) dL_law_99 (by decide) ?_
            first
              | (have et : tA (k : Int) x y = opA x y := by unfold tA; exact if_neg (by omega)
                 exact J _ _ (by rw [et]; exact hS) (by rw [et]))
              | (have et : tA (k : Int) x y = (4, lowI x 5, 1 + lowI y 30) := by unfold tA; exact if_pos (by omega)
                 exact J _ _ (by rw [et]; exact hS) (by rw [et]; rfl))
