/-! the reference: farWay, leaving, middleWay, depth, way -/
theorem RD.lt {J : Nat → Nat → Int32} {N : Nat → Nat → Int32} {j : Nat} (hmi : MI J N) (hj : MR J N j) : (nI j).toNatClampNeg = j := n_cl (by have := hj.lt hmi; omega)
theorem MD.lt {J N : Nat → Nat → Int32} {d : Nat} (hms : MS J) (h : MD J N d) : d < 40 := Nat.lt_of_lt_of_le h.1 hms.2.1.2
theorem MT.lt {J N : Nat → Nat → Int32} {d : Nat} (hms : MS J) (h : MT J N d) : d < 10 := Nat.lt_of_lt_of_le h.1 hms.2.2.2.2
theorem ES.md {J J2 N N2 : Nat → Nat → Int32} (h : ES J J2 N N2) : MD J2 N2 = MD J N := by funext d; unfold MD; rw [h.nd, h.n (by decide)]
theorem ES.mt {J J2 N N2 : Nat → Nat → Int32} (h : ES J J2 N N2) : MT J2 N2 = MT J N := by funext d; unfold MT; rw [h.ns, h.n (by decide)]

