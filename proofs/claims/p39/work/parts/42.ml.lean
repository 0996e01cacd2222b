/-! the reference: what is told of faults; means; what would be -/
def fqL (L : zk_F3) (i w : Nat) : Int32 := match L[i]? with
  | some p => if w = 0 then p.1 else if w = 1 then p.2.1 else p.2.2
  | none => 0
def a_fq (J N : Nat → Nat → Int32) (i w : Nat) : Int32 := fqL (a_fl J N 10) i w
theorem ES.fq {J J2 N N2 : Nat → Nat → Int32} (h : ES J J2 N N2) : a_fq J2 N2 = a_fq J N := by funext i w; unfold a_fq; rw [h.fl]
theorem FTL.at {F : Nat → Int32} {L : zk_F3} {i w : Nat} (h : FTL F L) (hi : i < L.length) (hw : w < 3) : F (3 * i + w) = fqL L i w := by
  obtain ⟨h0, h1, h2⟩ := h i hi
  unfold fqL
  rw [List.getElem?_eq_getElem hi]
  generalize L[i] = p at h0 h1 h2
  have : w = 0 ∨ w = 1 ∨ w = 2 := by omega
  rcases this with rfl | rfl | rfl
  · exact h0
  · exact h1
  · exact h2
theorem a_faults_le (J N : Nat → Nat → Int32) : a_faults J N ≤ 400 := a_fl_len J N 10
def a_brk (J N : Nat → Nat → Int32) (rule : Int32) : Nat := (a_fl J N 10).countP (fun p => decide (p.1 = rule))
theorem ES.brk {J J2 N N2 : Nat → Nat → Int32} (h : ES J J2 N N2) : a_brk J2 N2 = a_brk J N := by funext r; unfold a_brk; rw [h.fl]

