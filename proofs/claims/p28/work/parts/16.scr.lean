abbrev oScr (z : Nat) (len th p : Int) : PO := oO 2 [r_ (z + 1), i_ len, r_ (z + 2), r_ (z + 3), r_ (z + 4), i_ th, i_ p]
def scAt (h : List PO) (z : Nat) (tx : Int → Int) (len : Int) (ki fi se : Int → Int) (th p : Int) : Prop := h[z]? = some (oScr z len th p) ∧ h[z + 1]? = some (oC 60 tx) ∧ h[z + 2]? = some (oI 20 ki) ∧ h[z + 3]? = some (oI 20 fi) ∧ h[z + 4]? = some (oI 20 se)
theorem scAt.fr {h h2 : List PO} {z lo hi : Nat} {tx ki fi se : Int → Int} {len th p : Int} (a : scAt h z tx len ki fi se th p) (f : Fr h h2 lo hi) (q : z + 5 ≤ lo ∨ hi ≤ z) : scAt h2 z tx len ki fi se th p := by
  obtain ⟨a0, a1, a2, a3, a4⟩ := a
  exact ⟨f.at' a0 (by omega), f.at' a1 (by omega), f.at' a2 (by omega), f.at' a3 (by omega), f.at' a4 (by omega)⟩
