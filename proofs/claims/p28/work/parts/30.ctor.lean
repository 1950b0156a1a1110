def parN (F g : Int → Int) (i : Int) : Int → Int := fun j => if 0 ≤ j ∧ j < i then F j else g j
theorem parN_0 (F g : Int → Int) : parN F g 0 = g := by
  funext j
  unfold parN
  rw [if_neg (by omega)]
theorem parN_s {F g : Int → Int} {i : Int} (h : 0 ≤ i) : fup (parN F g i) i (F i) = parN F g (i + 1) := by
  funext j
  unfold fup parN
  by_cases e : j = i
  · rw [if_pos e, if_pos (by omega), e]
  · rw [if_neg e]
    by_cases q : 0 ≤ j ∧ j < i
    · rw [if_pos q, if_pos (by omega)]
    · rw [if_neg q, if_neg (by omega)]
theorem parN_lt {F g : Int → Int} {i j : Int} (h0 : 0 ≤ j) (h1 : j < i) : parN F g i j = F j := if_pos ⟨h0, h1⟩
theorem parN_ge {F g : Int → Int} {i j : Int} (h : i ≤ j) : parN F g i j = g j := if_neg (by omega)
theorem ac_I : Cond.arrayClass .int ∈ GW := gw_at 56 (by decide +kernel) (by decide +kernel)
theorem ac_C : Cond.arrayClass .char ∈ GW := gw_at 157 (by decide +kernel) (by decide +kernel)
theorem oi_a : Cond.instanceMethod Lib.objectInit ∈ GW := gw_at 22 (by decide +kernel) (by decide +kernel)
theorem oi_b : Cond.code Lib.objectInit ⟨#[0xb1]⟩ 1 none ∈ GW := gw_at 23 (by decide +kernel) (by decide +kernel)
theorem oi_X0 : OI RX0 3 := ⟨gw_at 35 (by decide +kernel) (by decide +kernel), oi_a, oi_b⟩
theorem oi_X1 : OI RX1 3 := ⟨gw_at 119 (by decide +kernel) (by decide +kernel), oi_a, oi_b⟩
theorem oi_X2 : OI RX2 3 := ⟨gw_at 136 (by decide +kernel) (by decide +kernel), oi_a, oi_b⟩
theorem oi_X3 : OI RX3 3 := ⟨gw_at 29 (by decide +kernel) (by decide +kernel), oi_a, oi_b⟩
theorem oi_X4 : OI RX4 3 := ⟨gw_at 62 (by decide +kernel) (by decide +kernel), oi_a, oi_b⟩
theorem oi_X5 : OI RX5 3 := ⟨gw_at 21 (by decide +kernel) (by decide +kernel), oi_a, oi_b⟩
theorem ff_X0_9 : FPF RX0 9 0 0 := ⟨RX0, TX0, 4, tyX0, tyX0 0, rfl, by decide, us_X0, gw_at 39 (by decide +kernel) (by decide +kernel), tyX0_ok, nmX0, rfl, rfl, by decide +kernel, fun _ => ⟨rfl, rfl⟩⟩
theorem ff_X0_15 : FPF RX0 15 0 1 := ⟨RX0, TX0, 4, tyX0, tyX0 1, rfl, by decide, us_X0, gw_at 41 (by decide +kernel) (by decide +kernel), tyX0_ok, nmX0, rfl, rfl, by decide +kernel, fun _ => ⟨rfl, rfl⟩⟩
theorem ff_X0_18 : FPF RX0 18 0 2 := ⟨RX0, TX0, 4, tyX0, tyX0 2, rfl, by decide, us_X0, gw_at 43 (by decide +kernel) (by decide +kernel), tyX0_ok, nmX0, rfl, rfl, by decide +kernel, fun _ => ⟨rfl, rfl⟩⟩
theorem ff_X0_21 : FPF RX0 21 0 3 := ⟨RX0, TX0, 4, tyX0, tyX0 3, rfl, by decide, us_X0, gw_at 45 (by decide +kernel) (by decide +kernel), tyX0_ok, nmX0, rfl, rfl, by decide +kernel, fun _ => ⟨rfl, rfl⟩⟩
theorem ff_X1_11 : FPF RX1 11 1 0 := ⟨RX1, TX1, 2, tyX1, tyX1 0, rfl, by decide, us_X1, gw_at 123 (by decide +kernel) (by decide +kernel), tyX1_ok, nmX1, rfl, rfl, by decide +kernel, fun _ => ⟨rfl, rfl⟩⟩
theorem ff_X2_9 : FPF RX2 9 2 0 := ⟨RX2, TX2, 7, tyX2, tyX2 0, rfl, by decide, us_X2, gw_at 137 (by decide +kernel) (by decide +kernel), tyX2_ok, nmX2, rfl, rfl, by decide +kernel, fun _ => ⟨rfl, rfl⟩⟩
theorem ff_X2_15 : FPF RX2 15 2 2 := ⟨RX2, TX2, 7, tyX2, tyX2 2, rfl, by decide, us_X2, gw_at 139 (by decide +kernel) (by decide +kernel), tyX2_ok, nmX2, rfl, rfl, by decide +kernel, fun _ => ⟨rfl, rfl⟩⟩
theorem ff_X2_19 : FPF RX2 19 2 3 := ⟨RX2, TX2, 7, tyX2, tyX2 3, rfl, by decide, us_X2, gw_at 140 (by decide +kernel) (by decide +kernel), tyX2_ok, nmX2, rfl, rfl, by decide +kernel, fun _ => ⟨rfl, rfl⟩⟩
theorem ff_X2_22 : FPF RX2 22 2 4 := ⟨RX2, TX2, 7, tyX2, tyX2 4, rfl, by decide, us_X2, gw_at 141 (by decide +kernel) (by decide +kernel), tyX2_ok, nmX2, rfl, rfl, by decide +kernel, fun _ => ⟨rfl, rfl⟩⟩
theorem ff_X3_12 : FPF RX3 12 3 0 := ⟨RX3, TX3, 6, tyX3, tyX3 0, rfl, by decide, us_X3, gw_at 89 (by decide +kernel) (by decide +kernel), tyX3_ok, nmX3, rfl, rfl, by decide +kernel, fun _ => ⟨rfl, rfl⟩⟩
theorem ff_X3_21 : FPF RX3 21 3 1 := ⟨RX3, TX3, 6, tyX3, tyX3 1, rfl, by decide, us_X3, gw_at 91 (by decide +kernel) (by decide +kernel), tyX3_ok, nmX3, rfl, rfl, by decide +kernel, fun _ => ⟨rfl, rfl⟩⟩
theorem ff_X3_25 : FPF RX3 25 3 2 := ⟨RX3, TX3, 6, tyX3, tyX3 2, rfl, by decide, us_X3, gw_at 93 (by decide +kernel) (by decide +kernel), tyX3_ok, nmX3, rfl, rfl, by decide +kernel, fun _ => ⟨rfl, rfl⟩⟩
theorem ff_X4_9 : FPF RX4 9 4 0 := ⟨RX4, TX4, 7, tyX4, tyX4 0, rfl, by decide, us_X4, gw_at 63 (by decide +kernel) (by decide +kernel), tyX4_ok, nmX4, rfl, rfl, by decide +kernel, fun _ => ⟨rfl, rfl⟩⟩
theorem ff_X4_15 : FPF RX4 15 4 1 := ⟨RX4, TX4, 7, tyX4, tyX4 1, rfl, by decide, us_X4, gw_at 64 (by decide +kernel) (by decide +kernel), tyX4_ok, nmX4, rfl, rfl, by decide +kernel, fun _ => ⟨rfl, rfl⟩⟩
theorem ff_X4_18 : FPF RX4 18 4 2 := ⟨RX4, TX4, 7, tyX4, tyX4 2, rfl, by decide, us_X4, gw_at 65 (by decide +kernel) (by decide +kernel), tyX4_ok, nmX4, rfl, rfl, by decide +kernel, fun _ => ⟨rfl, rfl⟩⟩
theorem ff_X4_21 : FPF RX4 21 4 3 := ⟨RX4, TX4, 7, tyX4, tyX4 3, rfl, by decide, us_X4, gw_at 67 (by decide +kernel) (by decide +kernel), tyX4_ok, nmX4, rfl, rfl, by decide +kernel, fun _ => ⟨rfl, rfl⟩⟩
theorem ff_X4_24 : FPF RX4 24 4 4 := ⟨RX4, TX4, 7, tyX4, tyX4 4, rfl, by decide, us_X4, gw_at 69 (by decide +kernel) (by decide +kernel), tyX4_ok, nmX4, rfl, rfl, by decide +kernel, fun _ => ⟨rfl, rfl⟩⟩
theorem ff_X4_27 : FPF RX4 27 4 5 := ⟨RX4, TX4, 7, tyX4, tyX4 5, rfl, by decide, us_X4, gw_at 71 (by decide +kernel) (by decide +kernel), tyX4_ok, nmX4, rfl, rfl, by decide +kernel, fun _ => ⟨rfl, rfl⟩⟩
theorem ff_X5_12 : FPF RX5 12 5 0 := ⟨RX5, TX5, 9, tyX5, tyX5 0, rfl, by decide, us_X5, gw_at 158 (by decide +kernel) (by decide +kernel), tyX5_ok, nmX5, rfl, rfl, by decide +kernel, fun _ => ⟨rfl, rfl⟩⟩
theorem ff_X5_16 : FPF RX5 16 5 1 := ⟨RX5, TX5, 9, tyX5, tyX5 1, rfl, by decide, us_X5, gw_at 159 (by decide +kernel) (by decide +kernel), tyX5_ok, nmX5, rfl, rfl, by decide +kernel, fun _ => ⟨rfl, rfl⟩⟩
theorem ff_X5_19 : FPF RX5 19 5 2 := ⟨RX5, TX5, 9, tyX5, tyX5 2, rfl, by decide, us_X5, gw_at 160 (by decide +kernel) (by decide +kernel), tyX5_ok, nmX5, rfl, rfl, by decide +kernel, fun _ => ⟨rfl, rfl⟩⟩
theorem ff_X5_25 : FPF RX5 25 5 4 := ⟨RX5, TX5, 9, tyX5, tyX5 4, rfl, by decide, us_X5, gw_at 162 (by decide +kernel) (by decide +kernel), tyX5_ok, nmX5, rfl, rfl, by decide +kernel, fun _ => ⟨rfl, rfl⟩⟩
theorem ff_X5_32 : FPF RX5 32 5 5 := ⟨RX5, TX5, 9, tyX5, tyX5 5, rfl, by decide, us_X5, gw_at 163 (by decide +kernel) (by decide +kernel), tyX5_ok, nmX5, rfl, rfl, by decide +kernel, fun _ => ⟨rfl, rfl⟩⟩
theorem nc_X3_9 : NC RX3 9 0 [n_, n_, n_, n_] 4 := ⟨RX0, TX0, tyX0, rfl, us_X0, tyX0_ok, gw_at 30 (by decide +kernel) (by decide +kernel), gw_at 31 (by decide +kernel) (by decide +kernel), gw_at 9 (by decide +kernel) (by decide +kernel), fun g j hj => by rcases (show j = 0 ∨ j = 1 ∨ j = 2 ∨ j = 3 from by omega) with rfl | rfl | rfl | rfl <;> rfl⟩
theorem nc_X3_18 : NC RX3 18 4 [n_, n_, n_, n_, n_, n_, i_ 0] 7 := ⟨RX4, TX4, tyX4, rfl, us_X4, tyX4_ok, gw_at 57 (by decide +kernel) (by decide +kernel), gw_at 58 (by decide +kernel) (by decide +kernel), gw_at 11 (by decide +kernel) (by decide +kernel), fun g j hj => by rcases (show j = 0 ∨ j = 1 ∨ j = 2 ∨ j = 3 ∨ j = 4 ∨ j = 5 ∨ j = 6 from by omega) with rfl | rfl | rfl | rfl | rfl | rfl | rfl <;> rfl⟩
theorem nc_X1_9 : NC RX1 9 3 [n_, n_, n_, i_ 0, i_ 0, i_ 0] 6 := ⟨RX3, TX3, tyX3, rfl, us_X3, tyX3_ok, gw_at 120 (by decide +kernel) (by decide +kernel), gw_at 25 (by decide +kernel) (by decide +kernel), gw_at 8 (by decide +kernel) (by decide +kernel), fun g j hj => by rcases (show j = 0 ∨ j = 1 ∨ j = 2 ∨ j = 3 ∨ j = 4 ∨ j = 5 from by omega) with rfl | rfl | rfl | rfl | rfl | rfl <;> rfl⟩
theorem nc_X5_9 : NC RX5 9 3 [n_, n_, n_, i_ 0, i_ 0, i_ 0] 6 := ⟨RX3, TX3, tyX3, rfl, us_X3, tyX3_ok, gw_at 24 (by decide +kernel) (by decide +kernel), gw_at 25 (by decide +kernel) (by decide +kernel), gw_at 8 (by decide +kernel) (by decide +kernel), fun g j hj => by rcases (show j = 0 ∨ j = 1 ∨ j = 2 ∨ j = 3 ∨ j = 4 ∨ j = 5 from by omega) with rfl | rfl | rfl | rfl | rfl | rfl <;> rfl⟩
theorem nc_X5_22 : NC RX5 22 1 [n_, i_ 0] 2 := ⟨RX1, TX1, tyX1, rfl, us_X1, tyX1_ok, gw_at 114 (by decide +kernel) (by decide +kernel), gw_at 115 (by decide +kernel) (by decide +kernel), gw_at 12 (by decide +kernel) (by decide +kernel), fun g j hj => by rcases (show j = 0 ∨ j = 1 from by omega) with rfl | rfl <;> rfl⟩
theorem nc_X5_29 : NC RX5 29 2 [n_, i_ 0, n_, n_, n_, i_ 0, i_ 0] 7 := ⟨RX2, TX2, tyX2, rfl, us_X2, tyX2_ok, gw_at 131 (by decide +kernel) (by decide +kernel), gw_at 132 (by decide +kernel) (by decide +kernel), gw_at 13 (by decide +kernel) (by decide +kernel), fun g j hj => by rcases (show j = 0 ∨ j = 1 ∨ j = 2 ∨ j = 3 ∨ j = 4 ∨ j = 5 ∨ j = 6 from by omega) with rfl | rfl | rfl | rfl | rfl | rfl | rfl <;> rfl⟩
theorem nc_L_17 : NC RL 17 5 [n_, n_, n_, i_ 0, n_, n_, i_ 0, i_ 0, i_ 0] 9 := ⟨RX5, TX5, tyX5, rfl, us_X5, tyX5_ok, gw_at 16 (by decide +kernel) (by decide +kernel), gw_at 17 (by decide +kernel) (by decide +kernel), gw_at 7 (by decide +kernel) (by decide +kernel), fun g j hj => by rcases (show j = 0 ∨ j = 1 ∨ j = 2 ∨ j = 3 ∨ j = 4 ∨ j = 5 ∨ j = 6 ∨ j = 7 ∨ j = 8 from by omega) with rfl | rfl | rfl | rfl | rfl | rfl | rfl | rfl | rfl <;> rfl⟩
theorem cl_X1_9 : Cond.classLink RX1 9 RX3 ∈ GW := gw_at 120 (by decide +kernel) (by decide +kernel)
theorem cc_X0 : CI yX0_init cX0_init 1 none 0 ∧ Cond.instanceMethod yX0_init ∈ GW ∧ yX0_init.name = "<init>" := ⟨ci_X0_init, gw_at 33 (by decide +kernel) (by decide +kernel), rfl⟩
theorem cc_X1 : CI yX1_init cX1_init 2 none 0 ∧ Cond.instanceMethod yX1_init ∈ GW ∧ yX1_init.name = "<init>" := ⟨ci_X1_init, gw_at 117 (by decide +kernel) (by decide +kernel), rfl⟩
theorem cc_X2 : CI yX2_init cX2_init 1 none 0 ∧ Cond.instanceMethod yX2_init ∈ GW ∧ yX2_init.name = "<init>" := ⟨ci_X2_init, gw_at 134 (by decide +kernel) (by decide +kernel), rfl⟩
theorem cc_X3 : CI yX3_init cX3_init 1 none 0 ∧ Cond.instanceMethod yX3_init ∈ GW ∧ yX3_init.name = "<init>" := ⟨ci_X3_init, gw_at 27 (by decide +kernel) (by decide +kernel), rfl⟩
theorem cc_X4 : CI yX4_init cX4_init 1 none 0 ∧ Cond.instanceMethod yX4_init ∈ GW ∧ yX4_init.name = "<init>" := ⟨ci_X4_init, gw_at 60 (by decide +kernel) (by decide +kernel), rfl⟩
theorem cc_X5 : CI yX5_init cX5_init 1 none 0 ∧ Cond.instanceMethod yX5_init ∈ GW ∧ yX5_init.name = "<init>" := ⟨ci_X5_init, gw_at 19 (by decide +kernel) (by decide +kernel), rfl⟩
theorem cs_J7 : CS yJ7_fill_53178 cJ7_fill_53178 4 none 2 := ⟨⟨gw_at 10 (by decide +kernel) (by decide +kernel), gw_at 38 (by decide +kernel) (by decide +kernel), by decide +kernel, by decide⟩, gw_at 37 (by decide +kernel) (by decide +kernel)⟩
theorem ml_X0_24 : Cond.methodLink RX0 24 yJ7_fill_53178 ∈ GW := gw_at 36 (by decide +kernel) (by decide +kernel)
set_option maxRecDepth 100000 in
set_option maxHeartbeats 4000000 in
theorem c_J7_fill (h : List PO) (a : Nat) (q : Int → Int) (x : Int) (ha : h[a]? = some (oI 40 q)) : PM 0 yJ7_fill_53178 cJ7_fill_53178 4 none h [r_ a, i_ x] (fun r0 h2 => r0 = none ∧ h.set a (oI 40 (parN (fun _ => x) q 40)) = h2) := by
  refine PM_of_G RJ7 [some (r_ a), some (i_ x), none, none] rfl (by decide +kernel) (Nat.le_of_ble_eq_true rfl) rfl ?_
  have L : ∀ (fu : Nat) (i : Int), 0 ≤ i → i ≤ 40 → 40 - i < fu → G 0 cJ7_fill_53178 RJ7 4 none (h.set a (oI 40 (parN (fun _ => x) q i))) 5 [some (r_ a), some (i_ x), some (i_ i), some (i_ (40 : Nat))] [] (fun r0 h2 => r0 = none ∧ h.set a (oI 40 (parN (fun _ => x) q 40)) = h2) := by
    intro fu
    induction fu with
    | zero => intro i a1 a2 hmeas; exfalso; omega
    | succ fu ih =>
      intro i a1 a2 hmeas
      refine G_iload_n dJ7_fill_53178_5 rfl rfl ?_
      refine G_iload_n dJ7_fill_53178_6 rfl rfl ?_
      refine G_icmp_ge (tgt := 20) dJ7_fill_53178_7 (by decide) (inR_of (by omega) (by omega)) (inR_of (by omega) (by omega)) (fun hc7 => ?_) (fun hc7 => ?_)
      · skip
        have e : i = 40 := by omega
        subst e
        refine G_return dJ7_fill_53178_20 rfl ?_
        exact ⟨rfl, rfl⟩
      · skip
        refine G_aload_n dJ7_fill_53178_10 rfl rfl ?_
        refine G_iload_n dJ7_fill_53178_11 rfl rfl ?_
        refine G_iload_n dJ7_fill_53178_12 rfl rfl ?_
        refine G_iast dJ7_fill_53178_13 (set_at ha) (by omega) (by omega) (by decide) rfl ?_
        refine G_iinc dJ7_fill_53178_14 (by decide) rfl rfl ?_
        refine G_goto (tgt := 5) dJ7_fill_53178_17 (by decide) ?_
        rw [List.set_set, parN_s a1]
        exact ih (i + 1) (by omega) (by omega) (by omega)
  refine G_iconst dJ7_fill_53178_0 ?_
  refine G_istore_n dJ7_fill_53178_1 rfl (by decide) rfl ?_
  refine G_aload_n dJ7_fill_53178_2 rfl rfl ?_
  refine G_alen dJ7_fill_53178_3 (by assumption) ?_
  refine G_istore_n dJ7_fill_53178_4 rfl (by decide) rfl ?_
  have k := L 41 0 (by omega) (by omega) (by omega)
  rw [parN_0, set_same ha] at k
  exact k
def d0F : Int → Int := parN (fun _ => 20) zF 40
def s0F : Int → Int := fup (fup (fup zF 0 20) 1 1) 2 5
abbrev bedL (b : Nat) : List PO := [oO 0 [r_ (b + 1), r_ (b + 2), r_ (b + 3), r_ (b + 4)], oI 40 d0F, oI 40 zF, oI 40 zF, oI 40 zF]
abbrev welL (b : Nat) : List PO := [oO 4 [r_ (b + 1), r_ (b + 2), r_ (b + 3), r_ (b + 4), r_ (b + 5), r_ (b + 6), i_ 0], oI 6 zF, oI 6 zF, oI 6 zF, oI 6 zF, oI 6 zF, oI 6 zF]
abbrev staL (b : Nat) : List PO := [oO 3 [r_ (b + 1), r_ (b + 6), r_ (b + 13), i_ 10, i_ 0, i_ (-5)]] ++ bedL (b + 1) ++ welL (b + 6) ++ [oI 3 s0F]
abbrev scrL (b : Nat) : List PO := [oO 2 [r_ (b + 1), i_ 0, r_ (b + 2), r_ (b + 3), r_ (b + 4), i_ 0, i_ 0], oC 60 zF, oI 20 zF, oI 20 zF, oI 20 zF]
def rh0 (b : Nat) : Int → Nat := fun j => b + 2 + 14 * j.toNat
abbrev hisL (b : Nat) : List PO := [oO 1 [r_ (b + 1), i_ 0], oR 4 (rh0 b)] ++ staL (b + 2) ++ staL (b + 16) ++ staL (b + 30) ++ staL (b + 44)
abbrev clsL (b : Nat) : List PO := [oO 5 [r_ (b + 1), r_ (b + 15), r_ (b + 29), i_ 0, r_ (b + 43), r_ (b + 101), i_ 0, i_ 0, i_ 0]] ++ staL (b + 1) ++ staL (b + 15) ++ staL (b + 29) ++ hisL (b + 43) ++ scrL (b + 101)
def qh0 (b : Nat) (i : Int) : Int → Option Nat := fun j => if i ≤ j ∧ j < 4 then none else some (rh0 b j)
theorem qh0_s {b : Nat} {i : Int} {v : Nat} (hv : v = rh0 b i) (h0 : 0 ≤ i) (h1 : i < 4) : fupQ (qh0 b i) i v = qh0 b (i + 1) := by
  funext j
  unfold fupQ qh0
  by_cases e : j = i
  · rw [if_pos e, if_neg (by omega), hv, e]
  · rw [if_neg e]
    by_cases z : i ≤ j ∧ j < 4
    · rw [if_pos z, if_pos (by omega)]
    · rw [if_neg z, if_neg (by omega)]
theorem qh0_4 {b : Nat} : oQ 4 (qh0 b 4) = oR 4 (rh0 b) := by
  have e : qh0 b 4 = fun k => some (rh0 b k) := by
    funext j
    unfold qh0
    rw [if_neg (by omega)]
  rw [e]
set_option maxRecDepth 100000 in
set_option maxHeartbeats 8000000 in
theorem c_X0_init (h0 : List PO) (b : Nat) (hb : h0.length = b) (hb5 : b < 900000) : PMN 1 yX0_init cX0_init 1 none 4 160 (h0 ++ [oO 0 [n_, n_, n_, n_]]) [r_ b] (fun r h2 => r = none ∧ h2 = h0 ++ bedL b) := by
  have hb9 : ∀ n : Nat, n ≤ 400 → b + n < 1000000 := fun n hn => by omega
  refine PMN_of_GN RX0 [some (r_ b)] rfl rfl (by decide +kernel) (Nat.le_of_ble_eq_true rfl) rfl ?_
  refine N_aload_n dX0_init_0 rfl rfl ?_
  refine N_objInit dX0_init_1 oi_X0 (Nat.le_of_ble_eq_true rfl) (Nat.le_of_ble_eq_true rfl) ?_
  refine N_aload_n dX0_init_4 rfl rfl ?_
  refine N_bipush dX0_init_5 rfl ?_
  refine N_newa (n := 40) (k9 := b + 1) dX0_init_7 ac_I rfl (Nat.le_of_ble_eq_true rfl) (Nat.le_of_ble_eq_true rfl) (Nat.le_of_ble_eq_true rfl) (by rw [List.length_append, hb]; exact hb9 _ (Nat.le_of_ble_eq_true rfl)) (by rw [List.length_append, hb]; rfl) ?_
  refine N_heap (h2 := (h0 ++ ([oO 0 [n_, n_, n_, n_], oI 40 zF]))) (List.append_assoc _ _ _) ?_
  refine N_putF (fs2 := [r_ (b + 1), n_, n_, n_]) ff_X0_9 dX0_init_9 (ga (j := 0) hb rfl) (Nat.le_of_ble_eq_true rfl) rfl ?_
  refine N_heap (h2 := (h0 ++ ([oO 0 [r_ (b + 1), n_, n_, n_], oI 40 zF]))) (gs (j := 0) hb) ?_
  refine N_aload_n dX0_init_12 rfl rfl ?_
  refine N_bipush dX0_init_13 rfl ?_
  refine N_newa (n := 40) (k9 := b + 2) dX0_init_15 ac_I rfl (Nat.le_of_ble_eq_true rfl) (Nat.le_of_ble_eq_true rfl) (Nat.le_of_ble_eq_true rfl) (by rw [List.length_append, hb]; exact hb9 _ (Nat.le_of_ble_eq_true rfl)) (by rw [List.length_append, hb]; rfl) ?_
  refine N_heap (h2 := (h0 ++ ([oO 0 [r_ (b + 1), n_, n_, n_], oI 40 zF, oI 40 zF]))) (List.append_assoc _ _ _) ?_
  refine N_putF (fs2 := [r_ (b + 1), r_ (b + 2), n_, n_]) ff_X0_15 dX0_init_17 (ga (j := 0) hb rfl) (Nat.le_of_ble_eq_true rfl) rfl ?_
  refine N_heap (h2 := (h0 ++ ([oO 0 [r_ (b + 1), r_ (b + 2), n_, n_], oI 40 zF, oI 40 zF]))) (gs (j := 0) hb) ?_
  refine N_aload_n dX0_init_20 rfl rfl ?_
  refine N_bipush dX0_init_21 rfl ?_
  refine N_newa (n := 40) (k9 := b + 3) dX0_init_23 ac_I rfl (Nat.le_of_ble_eq_true rfl) (Nat.le_of_ble_eq_true rfl) (Nat.le_of_ble_eq_true rfl) (by rw [List.length_append, hb]; exact hb9 _ (Nat.le_of_ble_eq_true rfl)) (by rw [List.length_append, hb]; rfl) ?_
  refine N_heap (h2 := (h0 ++ ([oO 0 [r_ (b + 1), r_ (b + 2), n_, n_], oI 40 zF, oI 40 zF, oI 40 zF]))) (List.append_assoc _ _ _) ?_
  refine N_putF (fs2 := [r_ (b + 1), r_ (b + 2), r_ (b + 3), n_]) ff_X0_18 dX0_init_25 (ga (j := 0) hb rfl) (Nat.le_of_ble_eq_true rfl) rfl ?_
  refine N_heap (h2 := (h0 ++ ([oO 0 [r_ (b + 1), r_ (b + 2), r_ (b + 3), n_], oI 40 zF, oI 40 zF, oI 40 zF]))) (gs (j := 0) hb) ?_
  refine N_aload_n dX0_init_28 rfl rfl ?_
  refine N_bipush dX0_init_29 rfl ?_
  refine N_newa (n := 40) (k9 := b + 4) dX0_init_31 ac_I rfl (Nat.le_of_ble_eq_true rfl) (Nat.le_of_ble_eq_true rfl) (Nat.le_of_ble_eq_true rfl) (by rw [List.length_append, hb]; exact hb9 _ (Nat.le_of_ble_eq_true rfl)) (by rw [List.length_append, hb]; rfl) ?_
  refine N_heap (h2 := (h0 ++ ([oO 0 [r_ (b + 1), r_ (b + 2), r_ (b + 3), n_], oI 40 zF, oI 40 zF, oI 40 zF, oI 40 zF]))) (List.append_assoc _ _ _) ?_
  refine N_putF (fs2 := [r_ (b + 1), r_ (b + 2), r_ (b + 3), r_ (b + 4)]) ff_X0_21 dX0_init_33 (ga (j := 0) hb rfl) (Nat.le_of_ble_eq_true rfl) rfl ?_
  refine N_heap (h2 := (h0 ++ ([oO 0 [r_ (b + 1), r_ (b + 2), r_ (b + 3), r_ (b + 4)], oI 40 zF, oI 40 zF, oI 40 zF, oI 40 zF]))) (gs (j := 0) hb) ?_
  refine N_aload_n dX0_init_36 rfl rfl ?_
  refine N_getf fl_X0_9 dX0_init_37 (ga (j := 0) hb rfl) rfl ?_
  refine N_bipush dX0_init_40 rfl ?_
  refine N_callS (as := [_, _]) (c_J7_fill _ (b + 1) zF 20 (ga (j := 1) hb rfl)) dX0_init_42 ml_X0_24 cs_J7 rfl (Nat.le_of_ble_eq_true rfl) (Nat.le_of_ble_eq_true rfl) rfl (Nat.le_of_ble_eq_true rfl) (Nat.le_of_ble_eq_true rfl) (fun r h2 hp => by obtain ⟨-, rfl⟩ := hp; simp) (fun r h2 hp => ?_)
  obtain ⟨rfl, rfl⟩ := hp
  refine N_heap (h2 := (h0 ++ ([oO 0 [r_ (b + 1), r_ (b + 2), r_ (b + 3), r_ (b + 4)], oI 40 d0F, oI 40 zF, oI 40 zF, oI 40 zF]))) (gs (j := 1) hb) ?_
  refine N_return dX0_init_45 rfl (Nat.le_of_ble_eq_true rfl) (Nat.le_of_ble_eq_true rfl) ?_
  exact ⟨rfl, rfl⟩
set_option maxRecDepth 100000 in
set_option maxHeartbeats 8000000 in
theorem c_X4_init (h0 : List PO) (b : Nat) (hb : h0.length = b) (hb5 : b < 900000) : PMN 1 yX4_init cX4_init 1 none 6 36 (h0 ++ [oO 4 [n_, n_, n_, n_, n_, n_, i_ 0]]) [r_ b] (fun r h2 => r = none ∧ h2 = h0 ++ welL b) := by
  have hb9 : ∀ n : Nat, n ≤ 400 → b + n < 1000000 := fun n hn => by omega
  refine PMN_of_GN RX4 [some (r_ b)] rfl rfl (by decide +kernel) (Nat.le_of_ble_eq_true rfl) rfl ?_
  refine N_aload_n dX4_init_0 rfl rfl ?_
  refine N_objInit dX4_init_1 oi_X4 (Nat.le_of_ble_eq_true rfl) (Nat.le_of_ble_eq_true rfl) ?_
  refine N_aload_n dX4_init_4 rfl rfl ?_
  refine N_bipush dX4_init_5 rfl ?_
  refine N_newa (n := 6) (k9 := b + 1) dX4_init_7 ac_I rfl (Nat.le_of_ble_eq_true rfl) (Nat.le_of_ble_eq_true rfl) (Nat.le_of_ble_eq_true rfl) (by rw [List.length_append, hb]; exact hb9 _ (Nat.le_of_ble_eq_true rfl)) (by rw [List.length_append, hb]; rfl) ?_
  refine N_heap (h2 := (h0 ++ ([oO 4 [n_, n_, n_, n_, n_, n_, i_ 0], oI 6 zF]))) (List.append_assoc _ _ _) ?_
  refine N_putF (fs2 := [r_ (b + 1), n_, n_, n_, n_, n_, i_ 0]) ff_X4_9 dX4_init_9 (ga (j := 0) hb rfl) (Nat.le_of_ble_eq_true rfl) rfl ?_
  refine N_heap (h2 := (h0 ++ ([oO 4 [r_ (b + 1), n_, n_, n_, n_, n_, i_ 0], oI 6 zF]))) (gs (j := 0) hb) ?_
  refine N_aload_n dX4_init_12 rfl rfl ?_
  refine N_bipush dX4_init_13 rfl ?_
  refine N_newa (n := 6) (k9 := b + 2) dX4_init_15 ac_I rfl (Nat.le_of_ble_eq_true rfl) (Nat.le_of_ble_eq_true rfl) (Nat.le_of_ble_eq_true rfl) (by rw [List.length_append, hb]; exact hb9 _ (Nat.le_of_ble_eq_true rfl)) (by rw [List.length_append, hb]; rfl) ?_
  refine N_heap (h2 := (h0 ++ ([oO 4 [r_ (b + 1), n_, n_, n_, n_, n_, i_ 0], oI 6 zF, oI 6 zF]))) (List.append_assoc _ _ _) ?_
  refine N_putF (fs2 := [r_ (b + 1), r_ (b + 2), n_, n_, n_, n_, i_ 0]) ff_X4_15 dX4_init_17 (ga (j := 0) hb rfl) (Nat.le_of_ble_eq_true rfl) rfl ?_
  refine N_heap (h2 := (h0 ++ ([oO 4 [r_ (b + 1), r_ (b + 2), n_, n_, n_, n_, i_ 0], oI 6 zF, oI 6 zF]))) (gs (j := 0) hb) ?_
  refine N_aload_n dX4_init_20 rfl rfl ?_
  refine N_bipush dX4_init_21 rfl ?_
  refine N_newa (n := 6) (k9 := b + 3) dX4_init_23 ac_I rfl (Nat.le_of_ble_eq_true rfl) (Nat.le_of_ble_eq_true rfl) (Nat.le_of_ble_eq_true rfl) (by rw [List.length_append, hb]; exact hb9 _ (Nat.le_of_ble_eq_true rfl)) (by rw [List.length_append, hb]; rfl) ?_
  refine N_heap (h2 := (h0 ++ ([oO 4 [r_ (b + 1), r_ (b + 2), n_, n_, n_, n_, i_ 0], oI 6 zF, oI 6 zF, oI 6 zF]))) (List.append_assoc _ _ _) ?_
  refine N_putF (fs2 := [r_ (b + 1), r_ (b + 2), r_ (b + 3), n_, n_, n_, i_ 0]) ff_X4_18 dX4_init_25 (ga (j := 0) hb rfl) (Nat.le_of_ble_eq_true rfl) rfl ?_
  refine N_heap (h2 := (h0 ++ ([oO 4 [r_ (b + 1), r_ (b + 2), r_ (b + 3), n_, n_, n_, i_ 0], oI 6 zF, oI 6 zF, oI 6 zF]))) (gs (j := 0) hb) ?_
  refine N_aload_n dX4_init_28 rfl rfl ?_
  refine N_bipush dX4_init_29 rfl ?_
  refine N_newa (n := 6) (k9 := b + 4) dX4_init_31 ac_I rfl (Nat.le_of_ble_eq_true rfl) (Nat.le_of_ble_eq_true rfl) (Nat.le_of_ble_eq_true rfl) (by rw [List.length_append, hb]; exact hb9 _ (Nat.le_of_ble_eq_true rfl)) (by rw [List.length_append, hb]; rfl) ?_
  refine N_heap (h2 := (h0 ++ ([oO 4 [r_ (b + 1), r_ (b + 2), r_ (b + 3), n_, n_, n_, i_ 0], oI 6 zF, oI 6 zF, oI 6 zF, oI 6 zF]))) (List.append_assoc _ _ _) ?_
  refine N_putF (fs2 := [r_ (b + 1), r_ (b + 2), r_ (b + 3), r_ (b + 4), n_, n_, i_ 0]) ff_X4_21 dX4_init_33 (ga (j := 0) hb rfl) (Nat.le_of_ble_eq_true rfl) rfl ?_
  refine N_heap (h2 := (h0 ++ ([oO 4 [r_ (b + 1), r_ (b + 2), r_ (b + 3), r_ (b + 4), n_, n_, i_ 0], oI 6 zF, oI 6 zF, oI 6 zF, oI 6 zF]))) (gs (j := 0) hb) ?_
  refine N_aload_n dX4_init_36 rfl rfl ?_
  refine N_bipush dX4_init_37 rfl ?_
  refine N_newa (n := 6) (k9 := b + 5) dX4_init_39 ac_I rfl (Nat.le_of_ble_eq_true rfl) (Nat.le_of_ble_eq_true rfl) (Nat.le_of_ble_eq_true rfl) (by rw [List.length_append, hb]; exact hb9 _ (Nat.le_of_ble_eq_true rfl)) (by rw [List.length_append, hb]; rfl) ?_
  refine N_heap (h2 := (h0 ++ ([oO 4 [r_ (b + 1), r_ (b + 2), r_ (b + 3), r_ (b + 4), n_, n_, i_ 0], oI 6 zF, oI 6 zF, oI 6 zF, oI 6 zF, oI 6 zF]))) (List.append_assoc _ _ _) ?_
  refine N_putF (fs2 := [r_ (b + 1), r_ (b + 2), r_ (b + 3), r_ (b + 4), r_ (b + 5), n_, i_ 0]) ff_X4_24 dX4_init_41 (ga (j := 0) hb rfl) (Nat.le_of_ble_eq_true rfl) rfl ?_
  refine N_heap (h2 := (h0 ++ ([oO 4 [r_ (b + 1), r_ (b + 2), r_ (b + 3), r_ (b + 4), r_ (b + 5), n_, i_ 0], oI 6 zF, oI 6 zF, oI 6 zF, oI 6 zF, oI 6 zF]))) (gs (j := 0) hb) ?_
  refine N_aload_n dX4_init_44 rfl rfl ?_
  refine N_bipush dX4_init_45 rfl ?_
  refine N_newa (n := 6) (k9 := b + 6) dX4_init_47 ac_I rfl (Nat.le_of_ble_eq_true rfl) (Nat.le_of_ble_eq_true rfl) (Nat.le_of_ble_eq_true rfl) (by rw [List.length_append, hb]; exact hb9 _ (Nat.le_of_ble_eq_true rfl)) (by rw [List.length_append, hb]; rfl) ?_
  refine N_heap (h2 := (h0 ++ ([oO 4 [r_ (b + 1), r_ (b + 2), r_ (b + 3), r_ (b + 4), r_ (b + 5), n_, i_ 0], oI 6 zF, oI 6 zF, oI 6 zF, oI 6 zF, oI 6 zF, oI 6 zF]))) (List.append_assoc _ _ _) ?_
  refine N_putF (fs2 := [r_ (b + 1), r_ (b + 2), r_ (b + 3), r_ (b + 4), r_ (b + 5), r_ (b + 6), i_ 0]) ff_X4_27 dX4_init_49 (ga (j := 0) hb rfl) (Nat.le_of_ble_eq_true rfl) rfl ?_
  refine N_heap (h2 := (h0 ++ ([oO 4 [r_ (b + 1), r_ (b + 2), r_ (b + 3), r_ (b + 4), r_ (b + 5), r_ (b + 6), i_ 0], oI 6 zF, oI 6 zF, oI 6 zF, oI 6 zF, oI 6 zF, oI 6 zF]))) (gs (j := 0) hb) ?_
  refine N_return dX4_init_52 rfl (Nat.le_of_ble_eq_true rfl) (Nat.le_of_ble_eq_true rfl) ?_
  exact ⟨rfl, rfl⟩
set_option maxRecDepth 100000 in
set_option maxHeartbeats 8000000 in
theorem c_X3_init (h0 : List PO) (b : Nat) (hb : h0.length = b) (hb5 : b < 800000) : PMN 2 yX3_init cX3_init 1 none 13 210 (h0 ++ [oO 3 [n_, n_, n_, i_ 0, i_ 0, i_ 0]]) [r_ b] (fun r h2 => r = none ∧ h2 = h0 ++ staL b) := by
  have hb9 : ∀ n : Nat, n ≤ 400 → b + n < 1000000 := fun n hn => by omega
  refine PMN_of_GN RX3 [some (r_ b)] rfl rfl (by decide +kernel) (Nat.le_of_ble_eq_true rfl) rfl ?_
  refine N_aload_n dX3_init_0 rfl rfl ?_
  refine N_objInit dX3_init_1 oi_X3 (Nat.le_of_ble_eq_true rfl) (Nat.le_of_ble_eq_true rfl) ?_
  refine N_aload_n dX3_init_4 rfl rfl ?_
  refine N_new (k9 := b + 1) dX3_init_5 nc_X3_9 (Nat.le_of_ble_eq_true rfl) (Nat.le_of_ble_eq_true rfl) (by rw [List.length_append, hb]; exact hb9 _ (Nat.le_of_ble_eq_true rfl)) (by rw [List.length_append, hb]; rfl) ?_
  refine N_dup dX3_init_8 ?_
  refine N_callI (as := []) (c_X0_init (h0 ++ ([oO 3 [n_, n_, n_, i_ 0, i_ 0, i_ 0]])) (b + 1) (by rw [List.length_append, hb]; rfl) (by omega)) dX3_init_9 ml_X3_11 cc_X0 rfl (Nat.le_of_ble_eq_true rfl) (Nat.le_of_ble_eq_true rfl) (Nat.le_of_ble_eq_true rfl) (Nat.le_of_ble_eq_true rfl) (by rw [List.length_append, List.length_append, hb, Nat.add_assoc]; exact hb9 _ (Nat.le_of_ble_eq_true rfl)) rfl (fun r h2 hp => by obtain ⟨-, rfl⟩ := hp; rw [List.length_append, List.length_append (as := h0 ++ ([oO 3 [n_, n_, n_, i_ 0, i_ 0, i_ 0]]))]; rfl) (fun r h2 hp => ?_)
  obtain ⟨rfl, rfl⟩ := hp
  refine N_heap (h2 := (h0 ++ ([oO 3 [n_, n_, n_, i_ 0, i_ 0, i_ 0]] ++ bedL (b + 1)))) (List.append_assoc _ _ _) ?_
  refine N_putF (fs2 := [r_ (b + 1), n_, n_, i_ 0, i_ 0, i_ 0]) ff_X3_12 dX3_init_12 (ga (j := 0) hb rfl) (Nat.le_of_ble_eq_true rfl) rfl ?_
  refine N_heap (h2 := (h0 ++ ([oO 3 [r_ (b + 1), n_, n_, i_ 0, i_ 0, i_ 0]] ++ bedL (b + 1)))) (gs (j := 0) hb) ?_
  refine N_aload_n dX3_init_15 rfl rfl ?_
  refine N_new (k9 := b + 6) dX3_init_16 nc_X3_18 (Nat.le_of_ble_eq_true rfl) (Nat.le_of_ble_eq_true rfl) (by rw [List.length_append, hb]; exact hb9 _ (Nat.le_of_ble_eq_true rfl)) (by rw [List.length_append, hb]; rfl) ?_
  refine N_dup dX3_init_19 ?_
  refine N_callIN (as := []) (c_X4_init (h0 ++ ([oO 3 [r_ (b + 1), n_, n_, i_ 0, i_ 0, i_ 0]] ++ bedL (b + 1))) (b + 6) (by rw [List.length_append, hb]; rfl) (by omega)) dX3_init_20 (fun s h => h.2.1) cc_X4 rfl (Nat.le_of_ble_eq_true rfl) (Nat.le_of_ble_eq_true rfl) (Nat.le_of_ble_eq_true rfl) (Nat.le_of_ble_eq_true rfl) (by rw [List.length_append, List.length_append, hb, Nat.add_assoc]; exact hb9 _ (Nat.le_of_ble_eq_true rfl)) rfl (fun r h2 hp => by obtain ⟨-, rfl⟩ := hp; rw [List.length_append, List.length_append (as := h0 ++ ([oO 3 [r_ (b + 1), n_, n_, i_ 0, i_ 0, i_ 0]] ++ bedL (b + 1)))]; rfl) (fun r h2 hp => ?_)
  obtain ⟨rfl, rfl⟩ := hp
  refine N_heap (h2 := (h0 ++ ([oO 3 [r_ (b + 1), n_, n_, i_ 0, i_ 0, i_ 0]] ++ bedL (b + 1) ++ welL (b + 6)))) (List.append_assoc _ _ _) ?_
  refine N_putF (fs2 := [r_ (b + 1), r_ (b + 6), n_, i_ 0, i_ 0, i_ 0]) ff_X3_21 dX3_init_23 (ga (j := 0) hb rfl) (Nat.le_of_ble_eq_true rfl) rfl ?_
  refine N_heap (h2 := (h0 ++ ([oO 3 [r_ (b + 1), r_ (b + 6), n_, i_ 0, i_ 0, i_ 0]] ++ bedL (b + 1) ++ welL (b + 6)))) (gs (j := 0) hb) ?_
  refine N_aload_n dX3_init_26 rfl rfl ?_
  refine N_iconst dX3_init_27 ?_
  refine N_newa (n := 3) (k9 := b + 13) dX3_init_28 ac_I rfl (Nat.le_of_ble_eq_true rfl) (Nat.le_of_ble_eq_true rfl) (Nat.le_of_ble_eq_true rfl) (by rw [List.length_append, hb]; exact hb9 _ (Nat.le_of_ble_eq_true rfl)) (by rw [List.length_append, hb]; rfl) ?_
  refine N_heap (h2 := (h0 ++ ([oO 3 [r_ (b + 1), r_ (b + 6), n_, i_ 0, i_ 0, i_ 0]] ++ bedL (b + 1) ++ welL (b + 6) ++ [oI 3 zF]))) (List.append_assoc _ _ _) ?_
  refine N_dup dX3_init_30 ?_
  refine N_iconst dX3_init_31 ?_
  refine N_bipush dX3_init_32 rfl ?_
  refine N_iast (q2 := (fup zF 0 20)) dX3_init_34 (ga (j := 13) hb rfl) (by omega) (by omega) (by decide) rfl ?_
  refine N_heap (h2 := (h0 ++ ([oO 3 [r_ (b + 1), r_ (b + 6), n_, i_ 0, i_ 0, i_ 0]] ++ bedL (b + 1) ++ welL (b + 6) ++ [oI 3 (fup zF 0 20)]))) (gs (j := 13) hb) ?_
  refine N_dup dX3_init_35 ?_
  refine N_iconst dX3_init_36 ?_
  refine N_iconst dX3_init_37 ?_
  refine N_iast (q2 := (fup (fup zF 0 20) 1 1)) dX3_init_38 (ga (j := 13) hb rfl) (by omega) (by omega) (by decide) rfl ?_
  refine N_heap (h2 := (h0 ++ ([oO 3 [r_ (b + 1), r_ (b + 6), n_, i_ 0, i_ 0, i_ 0]] ++ bedL (b + 1) ++ welL (b + 6) ++ [oI 3 (fup (fup zF 0 20) 1 1)]))) (gs (j := 13) hb) ?_
  refine N_dup dX3_init_39 ?_
  refine N_iconst dX3_init_40 ?_
  refine N_iconst dX3_init_41 ?_
  refine N_iast (q2 := (fup (fup (fup zF 0 20) 1 1) 2 5)) dX3_init_42 (ga (j := 13) hb rfl) (by omega) (by omega) (by decide) rfl ?_
  refine N_heap (h2 := (h0 ++ ([oO 3 [r_ (b + 1), r_ (b + 6), n_, i_ 0, i_ 0, i_ 0]] ++ bedL (b + 1) ++ welL (b + 6) ++ [oI 3 (fup (fup (fup zF 0 20) 1 1) 2 5)]))) (gs (j := 13) hb) ?_
  refine N_putF (fs2 := [r_ (b + 1), r_ (b + 6), r_ (b + 13), i_ 0, i_ 0, i_ 0]) ff_X3_25 dX3_init_43 (ga (j := 0) hb rfl) (Nat.le_of_ble_eq_true rfl) rfl ?_
  refine N_heap (h2 := (h0 ++ ([oO 3 [r_ (b + 1), r_ (b + 6), r_ (b + 13), i_ 0, i_ 0, i_ 0]] ++ bedL (b + 1) ++ welL (b + 6) ++ [oI 3 (fup (fup (fup zF 0 20) 1 1) 2 5)]))) (gs (j := 0) hb) ?_
  refine N_aload_n dX3_init_46 rfl rfl ?_
  refine N_bipush dX3_init_47 rfl ?_
  refine N_putI (fs2 := [r_ (b + 1), r_ (b + 6), r_ (b + 13), i_ 10, i_ 0, i_ 0]) fp_X3_29 dX3_init_49 (ga (j := 0) hb rfl) (Nat.le_of_ble_eq_true rfl) rfl ?_
  refine N_heap (h2 := (h0 ++ ([oO 3 [r_ (b + 1), r_ (b + 6), r_ (b + 13), i_ 10, i_ 0, i_ 0]] ++ bedL (b + 1) ++ welL (b + 6) ++ [oI 3 (fup (fup (fup zF 0 20) 1 1) 2 5)]))) (gs (j := 0) hb) ?_
  refine N_aload_n dX3_init_52 rfl rfl ?_
  refine N_bipush dX3_init_53 rfl ?_
  refine N_putI (fs2 := [r_ (b + 1), r_ (b + 6), r_ (b + 13), i_ 10, i_ 0, i_ (-5)]) fp_X3_33 dX3_init_55 (ga (j := 0) hb rfl) (Nat.le_of_ble_eq_true rfl) rfl ?_
  refine N_heap (h2 := (h0 ++ ([oO 3 [r_ (b + 1), r_ (b + 6), r_ (b + 13), i_ 10, i_ 0, i_ (-5)]] ++ bedL (b + 1) ++ welL (b + 6) ++ [oI 3 (fup (fup (fup zF 0 20) 1 1) 2 5)]))) (gs (j := 0) hb) ?_
  refine N_return dX3_init_58 rfl (Nat.le_of_ble_eq_true rfl) (Nat.le_of_ble_eq_true rfl) ?_
  exact ⟨rfl, rfl⟩
set_option maxRecDepth 100000 in
set_option maxHeartbeats 8000000 in
theorem c_X1_init (h0 : List PO) (b : Nat) (hb : h0.length = b) (hb5 : b < 700000) : PMN 3 yX1_init cX1_init 2 none 57 868 (h0 ++ [oO 1 [n_, i_ 0]]) [r_ b] (fun r h2 => r = none ∧ h2 = h0 ++ hisL b) := by
  have hb9 : ∀ n : Nat, n ≤ 400 → b + n < 1000000 := fun n hn => by omega
  refine PMN_of_GN RX1 [some (r_ b), none] rfl rfl (by decide +kernel) (Nat.le_of_ble_eq_true rfl) rfl ?_
  refine N_aload_n dX1_init_0 rfl rfl ?_
  refine N_objInit dX1_init_1 oi_X1 (Nat.le_of_ble_eq_true rfl) (Nat.le_of_ble_eq_true rfl) ?_
  refine N_aload_n dX1_init_4 rfl rfl ?_
  refine N_iconst dX1_init_5 ?_
  refine N_newq (n := 4) (q := qh0 b 0) (k9 := b + 1) dX1_init_6 cl_X1_9 rfl (Nat.le_of_ble_eq_true rfl) (Nat.le_of_ble_eq_true rfl) (Nat.le_of_ble_eq_true rfl) (by rw [List.length_append, hb]; exact hb9 _ (Nat.le_of_ble_eq_true rfl)) (fun j j0 j1 => by unfold qh0; exact if_pos ⟨j0, by omega⟩) (by rw [List.length_append, hb]; rfl) ?_
  refine N_heap (h2 := (h0 ++ ([oO 1 [n_, i_ 0], oQ 4 (qh0 b 0)]))) (List.append_assoc _ _ _) ?_
  refine N_putF (fs2 := [r_ (b + 1), i_ 0]) ff_X1_11 dX1_init_9 (ga (j := 0) hb rfl) (Nat.le_of_ble_eq_true rfl) rfl ?_
  refine N_heap (h2 := (h0 ++ ([oO 1 [r_ (b + 1), i_ 0], oQ 4 (qh0 b 0)]))) (gs (j := 0) hb) ?_
  refine N_iconst dX1_init_12 ?_
  refine N_istore_n (lv2 := [some (r_ b), some (i_ 0)]) dX1_init_13 rfl (by decide) rfl ?_
  refine N_iload_n dX1_init_14 rfl rfl ?_
  refine N_iconst dX1_init_15 ?_
  refine N_icmp_ge (tgt := 38) dX1_init_16 (by decide) (inR_of (by omega) (by omega)) (inR_of (by omega) (by omega)) (fun hc => by exfalso; omega) (fun _ => ?_)
  refine N_aload_n dX1_init_19 rfl rfl ?_
  refine N_getf fl_X1_11 dX1_init_20 (ga (j := 0) hb rfl) rfl ?_
  refine N_iload_n dX1_init_23 rfl rfl ?_
  refine N_new (k9 := b + 2) dX1_init_24 nc_X1_9 (Nat.le_of_ble_eq_true rfl) (Nat.le_of_ble_eq_true rfl) (by rw [List.length_append, hb]; exact hb9 _ (Nat.le_of_ble_eq_true rfl)) (by rw [List.length_append, hb]; rfl) ?_
  refine N_dup dX1_init_27 ?_
  refine N_callIN (as := []) (c_X3_init (h0 ++ ([oO 1 [r_ (b + 1), i_ 0], oQ 4 (qh0 b 0)])) (b + 2) (by rw [List.length_append, hb]; rfl) (by omega)) dX1_init_28 (fun s h => h.2.2.1) cc_X3 rfl (Nat.le_of_ble_eq_true rfl) (Nat.le_of_ble_eq_true rfl) (Nat.le_of_ble_eq_true rfl) (Nat.le_of_ble_eq_true rfl) (by rw [List.length_append, List.length_append, hb, Nat.add_assoc]; exact hb9 _ (Nat.le_of_ble_eq_true rfl)) rfl (fun r h2 hp => by obtain ⟨-, rfl⟩ := hp; rw [List.length_append, List.length_append (as := h0 ++ ([oO 1 [r_ (b + 1), i_ 0], oQ 4 (qh0 b 0)]))]; rfl) (fun r h2 hp => ?_)
  obtain ⟨rfl, rfl⟩ := hp
  refine N_heap (h2 := (h0 ++ ([oO 1 [r_ (b + 1), i_ 0], oQ 4 (qh0 b 0)] ++ staL (b + 2)))) (List.append_assoc _ _ _) ?_
  refine N_aast (vs := [r_ (b + 3), r_ (b + 8), r_ (b + 15), i_ 10, i_ 0, i_ (-5)]) dX1_init_31 (ga (j := 1) hb rfl) (ga (j := 2) hb rfl) (by omega) (by omega) (by decide) ?_
  rw [qh0_s (show b + 2 = rh0 b 0 from rfl) (by omega) (by omega)]
  refine N_heap (h2 := (h0 ++ ([oO 1 [r_ (b + 1), i_ 0], oQ 4 (qh0 b 1)] ++ staL (b + 2)))) (gs (j := 1) hb) ?_
  refine N_iinc (lv2 := [some (r_ b), some (i_ 1)]) dX1_init_32 (by decide) rfl rfl ?_
  refine N_goto (tgt := 14) dX1_init_35 (by decide) ?_
  refine N_iload_n dX1_init_14 rfl rfl ?_
  refine N_iconst dX1_init_15 ?_
  refine N_icmp_ge (tgt := 38) dX1_init_16 (by decide) (inR_of (by omega) (by omega)) (inR_of (by omega) (by omega)) (fun hc => by exfalso; omega) (fun _ => ?_)
  refine N_aload_n dX1_init_19 rfl rfl ?_
  refine N_getf fl_X1_11 dX1_init_20 (ga (j := 0) hb rfl) rfl ?_
  refine N_iload_n dX1_init_23 rfl rfl ?_
  refine N_new (k9 := b + 16) dX1_init_24 nc_X1_9 (Nat.le_of_ble_eq_true rfl) (Nat.le_of_ble_eq_true rfl) (by rw [List.length_append, hb]; exact hb9 _ (Nat.le_of_ble_eq_true rfl)) (by rw [List.length_append, hb]; rfl) ?_
  refine N_dup dX1_init_27 ?_
  refine N_callIN (as := []) (c_X3_init (h0 ++ ([oO 1 [r_ (b + 1), i_ 0], oQ 4 (qh0 b 1)] ++ staL (b + 2))) (b + 16) (by rw [List.length_append, hb]; rfl) (by omega)) dX1_init_28 (fun s h => h.2.2.1) cc_X3 rfl (Nat.le_of_ble_eq_true rfl) (Nat.le_of_ble_eq_true rfl) (Nat.le_of_ble_eq_true rfl) (Nat.le_of_ble_eq_true rfl) (by rw [List.length_append, List.length_append, hb, Nat.add_assoc]; exact hb9 _ (Nat.le_of_ble_eq_true rfl)) rfl (fun r h2 hp => by obtain ⟨-, rfl⟩ := hp; rw [List.length_append, List.length_append (as := h0 ++ ([oO 1 [r_ (b + 1), i_ 0], oQ 4 (qh0 b 1)] ++ staL (b + 2)))]; rfl) (fun r h2 hp => ?_)
  obtain ⟨rfl, rfl⟩ := hp
  refine N_heap (h2 := (h0 ++ ([oO 1 [r_ (b + 1), i_ 0], oQ 4 (qh0 b 1)] ++ staL (b + 2) ++ staL (b + 16)))) (List.append_assoc _ _ _) ?_
  refine N_aast (vs := [r_ (b + 17), r_ (b + 22), r_ (b + 29), i_ 10, i_ 0, i_ (-5)]) dX1_init_31 (ga (j := 1) hb rfl) (ga (j := 16) hb rfl) (by omega) (by omega) (by decide) ?_
  rw [qh0_s (show b + 16 = rh0 b 1 from rfl) (by omega) (by omega)]
  refine N_heap (h2 := (h0 ++ ([oO 1 [r_ (b + 1), i_ 0], oQ 4 (qh0 b 2)] ++ staL (b + 2) ++ staL (b + 16)))) (gs (j := 1) hb) ?_
  refine N_iinc (lv2 := [some (r_ b), some (i_ 2)]) dX1_init_32 (by decide) rfl rfl ?_
  refine N_goto (tgt := 14) dX1_init_35 (by decide) ?_
  refine N_iload_n dX1_init_14 rfl rfl ?_
  refine N_iconst dX1_init_15 ?_
  refine N_icmp_ge (tgt := 38) dX1_init_16 (by decide) (inR_of (by omega) (by omega)) (inR_of (by omega) (by omega)) (fun hc => by exfalso; omega) (fun _ => ?_)
  refine N_aload_n dX1_init_19 rfl rfl ?_
  refine N_getf fl_X1_11 dX1_init_20 (ga (j := 0) hb rfl) rfl ?_
  refine N_iload_n dX1_init_23 rfl rfl ?_
  refine N_new (k9 := b + 30) dX1_init_24 nc_X1_9 (Nat.le_of_ble_eq_true rfl) (Nat.le_of_ble_eq_true rfl) (by rw [List.length_append, hb]; exact hb9 _ (Nat.le_of_ble_eq_true rfl)) (by rw [List.length_append, hb]; rfl) ?_
  refine N_dup dX1_init_27 ?_
  refine N_callIN (as := []) (c_X3_init (h0 ++ ([oO 1 [r_ (b + 1), i_ 0], oQ 4 (qh0 b 2)] ++ staL (b + 2) ++ staL (b + 16))) (b + 30) (by rw [List.length_append, hb]; rfl) (by omega)) dX1_init_28 (fun s h => h.2.2.1) cc_X3 rfl (Nat.le_of_ble_eq_true rfl) (Nat.le_of_ble_eq_true rfl) (Nat.le_of_ble_eq_true rfl) (Nat.le_of_ble_eq_true rfl) (by rw [List.length_append, List.length_append, hb, Nat.add_assoc]; exact hb9 _ (Nat.le_of_ble_eq_true rfl)) rfl (fun r h2 hp => by obtain ⟨-, rfl⟩ := hp; rw [List.length_append, List.length_append (as := h0 ++ ([oO 1 [r_ (b + 1), i_ 0], oQ 4 (qh0 b 2)] ++ staL (b + 2) ++ staL (b + 16)))]; rfl) (fun r h2 hp => ?_)
  obtain ⟨rfl, rfl⟩ := hp
  refine N_heap (h2 := (h0 ++ ([oO 1 [r_ (b + 1), i_ 0], oQ 4 (qh0 b 2)] ++ staL (b + 2) ++ staL (b + 16) ++ staL (b + 30)))) (List.append_assoc _ _ _) ?_
  refine N_aast (vs := [r_ (b + 31), r_ (b + 36), r_ (b + 43), i_ 10, i_ 0, i_ (-5)]) dX1_init_31 (ga (j := 1) hb rfl) (ga (j := 30) hb rfl) (by omega) (by omega) (by decide) ?_
  rw [qh0_s (show b + 30 = rh0 b 2 from rfl) (by omega) (by omega)]
  refine N_heap (h2 := (h0 ++ ([oO 1 [r_ (b + 1), i_ 0], oQ 4 (qh0 b 3)] ++ staL (b + 2) ++ staL (b + 16) ++ staL (b + 30)))) (gs (j := 1) hb) ?_
  refine N_iinc (lv2 := [some (r_ b), some (i_ 3)]) dX1_init_32 (by decide) rfl rfl ?_
  refine N_goto (tgt := 14) dX1_init_35 (by decide) ?_
  refine N_iload_n dX1_init_14 rfl rfl ?_
  refine N_iconst dX1_init_15 ?_
  refine N_icmp_ge (tgt := 38) dX1_init_16 (by decide) (inR_of (by omega) (by omega)) (inR_of (by omega) (by omega)) (fun hc => by exfalso; omega) (fun _ => ?_)
  refine N_aload_n dX1_init_19 rfl rfl ?_
  refine N_getf fl_X1_11 dX1_init_20 (ga (j := 0) hb rfl) rfl ?_
  refine N_iload_n dX1_init_23 rfl rfl ?_
  refine N_new (k9 := b + 44) dX1_init_24 nc_X1_9 (Nat.le_of_ble_eq_true rfl) (Nat.le_of_ble_eq_true rfl) (by rw [List.length_append, hb]; exact hb9 _ (Nat.le_of_ble_eq_true rfl)) (by rw [List.length_append, hb]; rfl) ?_
  refine N_dup dX1_init_27 ?_
  refine N_callIN (as := []) (c_X3_init (h0 ++ ([oO 1 [r_ (b + 1), i_ 0], oQ 4 (qh0 b 3)] ++ staL (b + 2) ++ staL (b + 16) ++ staL (b + 30))) (b + 44) (by rw [List.length_append, hb]; rfl) (by omega)) dX1_init_28 (fun s h => h.2.2.1) cc_X3 rfl (Nat.le_of_ble_eq_true rfl) (Nat.le_of_ble_eq_true rfl) (Nat.le_of_ble_eq_true rfl) (Nat.le_of_ble_eq_true rfl) (by rw [List.length_append, List.length_append, hb, Nat.add_assoc]; exact hb9 _ (Nat.le_of_ble_eq_true rfl)) rfl (fun r h2 hp => by obtain ⟨-, rfl⟩ := hp; rw [List.length_append, List.length_append (as := h0 ++ ([oO 1 [r_ (b + 1), i_ 0], oQ 4 (qh0 b 3)] ++ staL (b + 2) ++ staL (b + 16) ++ staL (b + 30)))]; rfl) (fun r h2 hp => ?_)
  obtain ⟨rfl, rfl⟩ := hp
  refine N_heap (h2 := (h0 ++ ([oO 1 [r_ (b + 1), i_ 0], oQ 4 (qh0 b 3)] ++ staL (b + 2) ++ staL (b + 16) ++ staL (b + 30) ++ staL (b + 44)))) (List.append_assoc _ _ _) ?_
  refine N_aast (vs := [r_ (b + 45), r_ (b + 50), r_ (b + 57), i_ 10, i_ 0, i_ (-5)]) dX1_init_31 (ga (j := 1) hb rfl) (ga (j := 44) hb rfl) (by omega) (by omega) (by decide) ?_
  rw [qh0_s (show b + 44 = rh0 b 3 from rfl) (by omega) (by omega)]
  refine N_heap (h2 := (h0 ++ ([oO 1 [r_ (b + 1), i_ 0], oQ 4 (qh0 b 4)] ++ staL (b + 2) ++ staL (b + 16) ++ staL (b + 30) ++ staL (b + 44)))) (gs (j := 1) hb) ?_
  refine N_iinc (lv2 := [some (r_ b), some (i_ 4)]) dX1_init_32 (by decide) rfl rfl ?_
  refine N_goto (tgt := 14) dX1_init_35 (by decide) ?_
  refine N_iload_n dX1_init_14 rfl rfl ?_
  refine N_iconst dX1_init_15 ?_
  refine N_icmp_ge (tgt := 38) dX1_init_16 (by decide) (inR_of (by omega) (by omega)) (inR_of (by omega) (by omega)) (fun _ => ?_) (fun hc => by exfalso; omega)
  refine N_return dX1_init_38 rfl (Nat.le_of_ble_eq_true rfl) (Nat.le_of_ble_eq_true rfl) ?_
  exact ⟨rfl, by rw [qh0_4]⟩
set_option maxRecDepth 100000 in
set_option maxHeartbeats 8000000 in
theorem c_X2_init (h0 : List PO) (b : Nat) (hb : h0.length = b) (hb5 : b < 900000) : PMN 1 yX2_init cX2_init 1 none 4 120 (h0 ++ [oO 2 [n_, i_ 0, n_, n_, n_, i_ 0, i_ 0]]) [r_ b] (fun r h2 => r = none ∧ h2 = h0 ++ scrL b) := by
  have hb9 : ∀ n : Nat, n ≤ 400 → b + n < 1000000 := fun n hn => by omega
  refine PMN_of_GN RX2 [some (r_ b)] rfl rfl (by decide +kernel) (Nat.le_of_ble_eq_true rfl) rfl ?_
  refine N_aload_n dX2_init_0 rfl rfl ?_
  refine N_objInit dX2_init_1 oi_X2 (Nat.le_of_ble_eq_true rfl) (Nat.le_of_ble_eq_true rfl) ?_
  refine N_aload_n dX2_init_4 rfl rfl ?_
  refine N_bipush dX2_init_5 rfl ?_
  refine N_newc (n := 60) (k9 := b + 1) dX2_init_7 ac_C rfl (Nat.le_of_ble_eq_true rfl) (Nat.le_of_ble_eq_true rfl) (Nat.le_of_ble_eq_true rfl) (by rw [List.length_append, hb]; exact hb9 _ (Nat.le_of_ble_eq_true rfl)) (by rw [List.length_append, hb]; rfl) ?_
  refine N_heap (h2 := (h0 ++ ([oO 2 [n_, i_ 0, n_, n_, n_, i_ 0, i_ 0], oC 60 zF]))) (List.append_assoc _ _ _) ?_
  refine N_putF (fs2 := [r_ (b + 1), i_ 0, n_, n_, n_, i_ 0, i_ 0]) ff_X2_9 dX2_init_9 (ga (j := 0) hb rfl) (Nat.le_of_ble_eq_true rfl) rfl ?_
  refine N_heap (h2 := (h0 ++ ([oO 2 [r_ (b + 1), i_ 0, n_, n_, n_, i_ 0, i_ 0], oC 60 zF]))) (gs (j := 0) hb) ?_
  refine N_aload_n dX2_init_12 rfl rfl ?_
  refine N_bipush dX2_init_13 rfl ?_
  refine N_newa (n := 20) (k9 := b + 2) dX2_init_15 ac_I rfl (Nat.le_of_ble_eq_true rfl) (Nat.le_of_ble_eq_true rfl) (Nat.le_of_ble_eq_true rfl) (by rw [List.length_append, hb]; exact hb9 _ (Nat.le_of_ble_eq_true rfl)) (by rw [List.length_append, hb]; rfl) ?_
  refine N_heap (h2 := (h0 ++ ([oO 2 [r_ (b + 1), i_ 0, n_, n_, n_, i_ 0, i_ 0], oC 60 zF, oI 20 zF]))) (List.append_assoc _ _ _) ?_
  refine N_putF (fs2 := [r_ (b + 1), i_ 0, r_ (b + 2), n_, n_, i_ 0, i_ 0]) ff_X2_15 dX2_init_17 (ga (j := 0) hb rfl) (Nat.le_of_ble_eq_true rfl) rfl ?_
  refine N_heap (h2 := (h0 ++ ([oO 2 [r_ (b + 1), i_ 0, r_ (b + 2), n_, n_, i_ 0, i_ 0], oC 60 zF, oI 20 zF]))) (gs (j := 0) hb) ?_
  refine N_aload_n dX2_init_20 rfl rfl ?_
  refine N_bipush dX2_init_21 rfl ?_
  refine N_newa (n := 20) (k9 := b + 3) dX2_init_23 ac_I rfl (Nat.le_of_ble_eq_true rfl) (Nat.le_of_ble_eq_true rfl) (Nat.le_of_ble_eq_true rfl) (by rw [List.length_append, hb]; exact hb9 _ (Nat.le_of_ble_eq_true rfl)) (by rw [List.length_append, hb]; rfl) ?_
  refine N_heap (h2 := (h0 ++ ([oO 2 [r_ (b + 1), i_ 0, r_ (b + 2), n_, n_, i_ 0, i_ 0], oC 60 zF, oI 20 zF, oI 20 zF]))) (List.append_assoc _ _ _) ?_
  refine N_putF (fs2 := [r_ (b + 1), i_ 0, r_ (b + 2), r_ (b + 3), n_, i_ 0, i_ 0]) ff_X2_19 dX2_init_25 (ga (j := 0) hb rfl) (Nat.le_of_ble_eq_true rfl) rfl ?_
  refine N_heap (h2 := (h0 ++ ([oO 2 [r_ (b + 1), i_ 0, r_ (b + 2), r_ (b + 3), n_, i_ 0, i_ 0], oC 60 zF, oI 20 zF, oI 20 zF]))) (gs (j := 0) hb) ?_
  refine N_aload_n dX2_init_28 rfl rfl ?_
  refine N_bipush dX2_init_29 rfl ?_
  refine N_newa (n := 20) (k9 := b + 4) dX2_init_31 ac_I rfl (Nat.le_of_ble_eq_true rfl) (Nat.le_of_ble_eq_true rfl) (Nat.le_of_ble_eq_true rfl) (by rw [List.length_append, hb]; exact hb9 _ (Nat.le_of_ble_eq_true rfl)) (by rw [List.length_append, hb]; rfl) ?_
  refine N_heap (h2 := (h0 ++ ([oO 2 [r_ (b + 1), i_ 0, r_ (b + 2), r_ (b + 3), n_, i_ 0, i_ 0], oC 60 zF, oI 20 zF, oI 20 zF, oI 20 zF]))) (List.append_assoc _ _ _) ?_
  refine N_putF (fs2 := [r_ (b + 1), i_ 0, r_ (b + 2), r_ (b + 3), r_ (b + 4), i_ 0, i_ 0]) ff_X2_22 dX2_init_33 (ga (j := 0) hb rfl) (Nat.le_of_ble_eq_true rfl) rfl ?_
  refine N_heap (h2 := (h0 ++ ([oO 2 [r_ (b + 1), i_ 0, r_ (b + 2), r_ (b + 3), r_ (b + 4), i_ 0, i_ 0], oC 60 zF, oI 20 zF, oI 20 zF, oI 20 zF]))) (gs (j := 0) hb) ?_
  refine N_return dX2_init_36 rfl (Nat.le_of_ble_eq_true rfl) (Nat.le_of_ble_eq_true rfl) ?_
  exact ⟨rfl, rfl⟩
set_option maxRecDepth 100000 in
set_option maxHeartbeats 8000000 in
theorem c_X5_init (h0 : List PO) (b : Nat) (hb : h0.length = b) (hb5 : b < 600000) : PMN 4 yX5_init cX5_init 1 none 105 1645 (h0 ++ [oO 5 [n_, n_, n_, i_ 0, n_, n_, i_ 0, i_ 0, i_ 0]]) [r_ b] (fun r h2 => r = none ∧ h2 = h0 ++ clsL b) := by
  have hb9 : ∀ n : Nat, n ≤ 400 → b + n < 1000000 := fun n hn => by omega
  refine PMN_of_GN RX5 [some (r_ b)] rfl rfl (by decide +kernel) (Nat.le_of_ble_eq_true rfl) rfl ?_
  refine N_aload_n dX5_init_0 rfl rfl ?_
  refine N_objInit dX5_init_1 oi_X5 (Nat.le_of_ble_eq_true rfl) (Nat.le_of_ble_eq_true rfl) ?_
  refine N_aload_n dX5_init_4 rfl rfl ?_
  refine N_new (k9 := b + 1) dX5_init_5 nc_X5_9 (Nat.le_of_ble_eq_true rfl) (Nat.le_of_ble_eq_true rfl) (by rw [List.length_append, hb]; exact hb9 _ (Nat.le_of_ble_eq_true rfl)) (by rw [List.length_append, hb]; rfl) ?_
  refine N_dup dX5_init_8 ?_
  refine N_callIN (as := []) (c_X3_init (h0 ++ ([oO 5 [n_, n_, n_, i_ 0, n_, n_, i_ 0, i_ 0, i_ 0]])) (b + 1) (by rw [List.length_append, hb]; rfl) (by omega)) dX5_init_9 (fun s h => h.1) cc_X3 rfl (Nat.le_of_ble_eq_true rfl) (Nat.le_of_ble_eq_true rfl) (Nat.le_of_ble_eq_true rfl) (Nat.le_of_ble_eq_true rfl) (by rw [List.length_append, List.length_append, hb, Nat.add_assoc]; exact hb9 _ (Nat.le_of_ble_eq_true rfl)) rfl (fun r h2 hp => by obtain ⟨-, rfl⟩ := hp; rw [List.length_append, List.length_append (as := h0 ++ ([oO 5 [n_, n_, n_, i_ 0, n_, n_, i_ 0, i_ 0, i_ 0]]))]; rfl) (fun r h2 hp => ?_)
  obtain ⟨rfl, rfl⟩ := hp
  refine N_heap (h2 := (h0 ++ ([oO 5 [n_, n_, n_, i_ 0, n_, n_, i_ 0, i_ 0, i_ 0]] ++ staL (b + 1)))) (List.append_assoc _ _ _) ?_
  refine N_putF (fs2 := [r_ (b + 1), n_, n_, i_ 0, n_, n_, i_ 0, i_ 0, i_ 0]) ff_X5_12 dX5_init_12 (ga (j := 0) hb rfl) (Nat.le_of_ble_eq_true rfl) rfl ?_
  refine N_heap (h2 := (h0 ++ ([oO 5 [r_ (b + 1), n_, n_, i_ 0, n_, n_, i_ 0, i_ 0, i_ 0]] ++ staL (b + 1)))) (gs (j := 0) hb) ?_
  refine N_aload_n dX5_init_15 rfl rfl ?_
  refine N_new (k9 := b + 15) dX5_init_16 nc_X5_9 (Nat.le_of_ble_eq_true rfl) (Nat.le_of_ble_eq_true rfl) (by rw [List.length_append, hb]; exact hb9 _ (Nat.le_of_ble_eq_true rfl)) (by rw [List.length_append, hb]; rfl) ?_
  refine N_dup dX5_init_19 ?_
  refine N_callIN (as := []) (c_X3_init (h0 ++ ([oO 5 [r_ (b + 1), n_, n_, i_ 0, n_, n_, i_ 0, i_ 0, i_ 0]] ++ staL (b + 1))) (b + 15) (by rw [List.length_append, hb]; rfl) (by omega)) dX5_init_20 (fun s h => h.1) cc_X3 rfl (Nat.le_of_ble_eq_true rfl) (Nat.le_of_ble_eq_true rfl) (Nat.le_of_ble_eq_true rfl) (Nat.le_of_ble_eq_true rfl) (by rw [List.length_append, List.length_append, hb, Nat.add_assoc]; exact hb9 _ (Nat.le_of_ble_eq_true rfl)) rfl (fun r h2 hp => by obtain ⟨-, rfl⟩ := hp; rw [List.length_append, List.length_append (as := h0 ++ ([oO 5 [r_ (b + 1), n_, n_, i_ 0, n_, n_, i_ 0, i_ 0, i_ 0]] ++ staL (b + 1)))]; rfl) (fun r h2 hp => ?_)
  obtain ⟨rfl, rfl⟩ := hp
  refine N_heap (h2 := (h0 ++ ([oO 5 [r_ (b + 1), n_, n_, i_ 0, n_, n_, i_ 0, i_ 0, i_ 0]] ++ staL (b + 1) ++ staL (b + 15)))) (List.append_assoc _ _ _) ?_
  refine N_putF (fs2 := [r_ (b + 1), r_ (b + 15), n_, i_ 0, n_, n_, i_ 0, i_ 0, i_ 0]) ff_X5_16 dX5_init_23 (ga (j := 0) hb rfl) (Nat.le_of_ble_eq_true rfl) rfl ?_
  refine N_heap (h2 := (h0 ++ ([oO 5 [r_ (b + 1), r_ (b + 15), n_, i_ 0, n_, n_, i_ 0, i_ 0, i_ 0]] ++ staL (b + 1) ++ staL (b + 15)))) (gs (j := 0) hb) ?_
  refine N_aload_n dX5_init_26 rfl rfl ?_
  refine N_new (k9 := b + 29) dX5_init_27 nc_X5_9 (Nat.le_of_ble_eq_true rfl) (Nat.le_of_ble_eq_true rfl) (by rw [List.length_append, hb]; exact hb9 _ (Nat.le_of_ble_eq_true rfl)) (by rw [List.length_append, hb]; rfl) ?_
  refine N_dup dX5_init_30 ?_
  refine N_callIN (as := []) (c_X3_init (h0 ++ ([oO 5 [r_ (b + 1), r_ (b + 15), n_, i_ 0, n_, n_, i_ 0, i_ 0, i_ 0]] ++ staL (b + 1) ++ staL (b + 15))) (b + 29) (by rw [List.length_append, hb]; rfl) (by omega)) dX5_init_31 (fun s h => h.1) cc_X3 rfl (Nat.le_of_ble_eq_true rfl) (Nat.le_of_ble_eq_true rfl) (Nat.le_of_ble_eq_true rfl) (Nat.le_of_ble_eq_true rfl) (by rw [List.length_append, List.length_append, hb, Nat.add_assoc]; exact hb9 _ (Nat.le_of_ble_eq_true rfl)) rfl (fun r h2 hp => by obtain ⟨-, rfl⟩ := hp; rw [List.length_append, List.length_append (as := h0 ++ ([oO 5 [r_ (b + 1), r_ (b + 15), n_, i_ 0, n_, n_, i_ 0, i_ 0, i_ 0]] ++ staL (b + 1) ++ staL (b + 15)))]; rfl) (fun r h2 hp => ?_)
  obtain ⟨rfl, rfl⟩ := hp
  refine N_heap (h2 := (h0 ++ ([oO 5 [r_ (b + 1), r_ (b + 15), n_, i_ 0, n_, n_, i_ 0, i_ 0, i_ 0]] ++ staL (b + 1) ++ staL (b + 15) ++ staL (b + 29)))) (List.append_assoc _ _ _) ?_
  refine N_putF (fs2 := [r_ (b + 1), r_ (b + 15), r_ (b + 29), i_ 0, n_, n_, i_ 0, i_ 0, i_ 0]) ff_X5_19 dX5_init_34 (ga (j := 0) hb rfl) (Nat.le_of_ble_eq_true rfl) rfl ?_
  refine N_heap (h2 := (h0 ++ ([oO 5 [r_ (b + 1), r_ (b + 15), r_ (b + 29), i_ 0, n_, n_, i_ 0, i_ 0, i_ 0]] ++ staL (b + 1) ++ staL (b + 15) ++ staL (b + 29)))) (gs (j := 0) hb) ?_
  refine N_aload_n dX5_init_37 rfl rfl ?_
  refine N_new (k9 := b + 43) dX5_init_38 nc_X5_22 (Nat.le_of_ble_eq_true rfl) (Nat.le_of_ble_eq_true rfl) (by rw [List.length_append, hb]; exact hb9 _ (Nat.le_of_ble_eq_true rfl)) (by rw [List.length_append, hb]; rfl) ?_
  refine N_dup dX5_init_41 ?_
  refine N_callI (as := []) (c_X1_init (h0 ++ ([oO 5 [r_ (b + 1), r_ (b + 15), r_ (b + 29), i_ 0, n_, n_, i_ 0, i_ 0, i_ 0]] ++ staL (b + 1) ++ staL (b + 15) ++ staL (b + 29))) (b + 43) (by rw [List.length_append, hb]; rfl) (by omega)) dX5_init_42 ml_X5_24 cc_X1 rfl (Nat.le_of_ble_eq_true rfl) (Nat.le_of_ble_eq_true rfl) (Nat.le_of_ble_eq_true rfl) (Nat.le_of_ble_eq_true rfl) (by rw [List.length_append, List.length_append, hb, Nat.add_assoc]; exact hb9 _ (Nat.le_of_ble_eq_true rfl)) rfl (fun r h2 hp => by obtain ⟨-, rfl⟩ := hp; rw [List.length_append, List.length_append (as := h0 ++ ([oO 5 [r_ (b + 1), r_ (b + 15), r_ (b + 29), i_ 0, n_, n_, i_ 0, i_ 0, i_ 0]] ++ staL (b + 1) ++ staL (b + 15) ++ staL (b + 29)))]; rfl) (fun r h2 hp => ?_)
  obtain ⟨rfl, rfl⟩ := hp
  refine N_heap (h2 := (h0 ++ ([oO 5 [r_ (b + 1), r_ (b + 15), r_ (b + 29), i_ 0, n_, n_, i_ 0, i_ 0, i_ 0]] ++ staL (b + 1) ++ staL (b + 15) ++ staL (b + 29) ++ hisL (b + 43)))) (List.append_assoc _ _ _) ?_
  refine N_putF (fs2 := [r_ (b + 1), r_ (b + 15), r_ (b + 29), i_ 0, r_ (b + 43), n_, i_ 0, i_ 0, i_ 0]) ff_X5_25 dX5_init_45 (ga (j := 0) hb rfl) (Nat.le_of_ble_eq_true rfl) rfl ?_
  refine N_heap (h2 := (h0 ++ ([oO 5 [r_ (b + 1), r_ (b + 15), r_ (b + 29), i_ 0, r_ (b + 43), n_, i_ 0, i_ 0, i_ 0]] ++ staL (b + 1) ++ staL (b + 15) ++ staL (b + 29) ++ hisL (b + 43)))) (gs (j := 0) hb) ?_
  refine N_aload_n dX5_init_48 rfl rfl ?_
  refine N_new (k9 := b + 101) dX5_init_49 nc_X5_29 (Nat.le_of_ble_eq_true rfl) (Nat.le_of_ble_eq_true rfl) (by rw [List.length_append, hb]; exact hb9 _ (Nat.le_of_ble_eq_true rfl)) (by rw [List.length_append, hb]; rfl) ?_
  refine N_dup dX5_init_52 ?_
  refine N_callIN (as := []) (c_X2_init (h0 ++ ([oO 5 [r_ (b + 1), r_ (b + 15), r_ (b + 29), i_ 0, r_ (b + 43), n_, i_ 0, i_ 0, i_ 0]] ++ staL (b + 1) ++ staL (b + 15) ++ staL (b + 29) ++ hisL (b + 43))) (b + 101) (by rw [List.length_append, hb]; rfl) (by omega)) dX5_init_53 (fun s h => h.2.2.2.1) cc_X2 rfl (Nat.le_of_ble_eq_true rfl) (Nat.le_of_ble_eq_true rfl) (Nat.le_of_ble_eq_true rfl) (Nat.le_of_ble_eq_true rfl) (by rw [List.length_append, List.length_append, hb, Nat.add_assoc]; exact hb9 _ (Nat.le_of_ble_eq_true rfl)) rfl (fun r h2 hp => by obtain ⟨-, rfl⟩ := hp; rw [List.length_append, List.length_append (as := h0 ++ ([oO 5 [r_ (b + 1), r_ (b + 15), r_ (b + 29), i_ 0, r_ (b + 43), n_, i_ 0, i_ 0, i_ 0]] ++ staL (b + 1) ++ staL (b + 15) ++ staL (b + 29) ++ hisL (b + 43)))]; rfl) (fun r h2 hp => ?_)
  obtain ⟨rfl, rfl⟩ := hp
  refine N_heap (h2 := (h0 ++ ([oO 5 [r_ (b + 1), r_ (b + 15), r_ (b + 29), i_ 0, r_ (b + 43), n_, i_ 0, i_ 0, i_ 0]] ++ staL (b + 1) ++ staL (b + 15) ++ staL (b + 29) ++ hisL (b + 43) ++ scrL (b + 101)))) (List.append_assoc _ _ _) ?_
  refine N_putF (fs2 := [r_ (b + 1), r_ (b + 15), r_ (b + 29), i_ 0, r_ (b + 43), r_ (b + 101), i_ 0, i_ 0, i_ 0]) ff_X5_32 dX5_init_56 (ga (j := 0) hb rfl) (Nat.le_of_ble_eq_true rfl) rfl ?_
  refine N_heap (h2 := (h0 ++ ([oO 5 [r_ (b + 1), r_ (b + 15), r_ (b + 29), i_ 0, r_ (b + 43), r_ (b + 101), i_ 0, i_ 0, i_ 0]] ++ staL (b + 1) ++ staL (b + 15) ++ staL (b + 29) ++ hisL (b + 43) ++ scrL (b + 101)))) (gs (j := 0) hb) ?_
  refine N_return dX5_init_59 rfl (Nat.le_of_ble_eq_true rfl) (Nat.le_of_ble_eq_true rfl) ?_
  exact ⟨rfl, rfl⟩
