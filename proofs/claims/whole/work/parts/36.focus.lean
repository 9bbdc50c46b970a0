theorem cv_C1 {L : Nat} {n : List ab_M} {su : Bool} {sn : Int32} {sg : Bool} {se : Int32} {pg : Nat → Nat → Int32} {md : Nat → Nat → Nat} {en : Nat → Nat → Int32} {sd : Nat → Option ab_M} {ln : Nat → List ab_M} {C : Nat → ab_C} {h : ha_H} {c : Nat} {x : ab_C} (H : CV L n su sn sg se pg md en sd ln (fu C c x) h) (hl : c < 3) : cv_Ct c x h := by
  have hz := H.2.2.2.2.2.2.2.2.2.2.2.2 c hl
  rw [fu_at] at hz
  exact hz
theorem cv_P1 {c f : Nat} {up : Bool} {nw nu : Int32} {op : Option ab_M} {si : Int32} {cp : Nat → ab_P} {wr : List ab_W} {y : ab_P} {h : ha_H} (H : cv_C c up nw nu op si (fu cp f y) wr h) (hf : f < 4) : cv_P (32 + 11 * c + 2 * f) y h := by
  have hz := H.2.2.2.2.2.2.1 f hf
  rw [fu_at] at hz
  exact hz
