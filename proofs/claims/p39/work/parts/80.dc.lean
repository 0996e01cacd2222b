/-! the class: removeDoor -/
theorem vaup_self (f : Nat → Option Nat) (k : Nat) (x : Option Nat) : va_up f k x k = x := by unfold va_up; rw [if_pos rfl]
theorem vaup_ne (f : Nat → Option Nat) {k j : Nat} (x : Option Nat) (h : j ≠ k) : va_up f k x j = f j := by unfold va_up; rw [if_neg h]
section XRS
variable {E : zk_E} {sz : Nat} {J N J1 N1 : Nat → Nat → Int32} {Q : Nat → Nat → Option Nat} {O : zk_Hp} {U : zk_U} {fl : Nat → Int32}
theorem XR.rmD (h : XR E sz (J1, N1, Q, O, U) J N fl) {J2 : Nat → Nat → Int32} (h1 : J2 1 = J1 1) (j : Nat) : XR E sz (J2, N1, zk_un Q 3 (va_up (Q 3) j none), O, U) J (uN_rmD N j) fl := by
  obtain ⟨⟨a1, a2, a3, a4, a5⟩, hB, hC, hD, hT, hG⟩ := h
  have hC : XC E sz Q O J N fl := hC
  refine ⟨⟨?_, ?_, ?_, ?_, a5⟩, hB, ?_, hD, hT, ?_⟩
  · rw [← a1]; show J2 1 5 = J1 1 5; rw [h1]
  · rw [← a2]; show J2 1 6 = J1 1 6; rw [h1]
  · rw [← a3]; show J2 1 7 = J1 1 7; rw [h1]
  · rw [← a4]; show J2 1 8 = J1 1 8; rw [h1]
  · intro i hi
    show (∃ a p, MD J (uN_rmD N j) i ∧ va_up (Q 3) j none i = some a ∧ _) ∨ (¬ MD J (uN_rmD N j) i ∧ va_up (Q 3) j none i = none)
    by_cases w : i = j
    · subst w
      refine Or.inr ⟨fun z => z.2 ?_, vaup_self _ _ _⟩
      show upd (N 30) i (-2) i = -2
      rw [upd_self]
    · have e30 : uN_rmD N j 30 i = N 30 i := upd_ne _ _ w
      rw [vaup_ne _ _ w]
      have em : MD J (uN_rmD N j) i = MD J N i := by unfold MD; rw [e30]
      rw [em]
      rcases hC i hi with ⟨a, p2, b1, b2, b3, b4, b5, b6⟩ | ⟨b1, b2⟩
      · refine Or.inl ⟨a, p2, b1, b2, b3, b4, ?_, ?_⟩
        · refine b5.trans ?_
          unfold xdr
          rw [e30]
          rfl
        · refine b6.trans ?_
          unfold xdp
          rw [e30]
          rfl
      · exact Or.inr ⟨b1, b2⟩
  · intro d d2 a hd hd2 e1 e2
    have e1 : va_up (Q 3) j none d = some a := e1
    have e2 : va_up (Q 3) j none d2 = some a := e2
    unfold va_up at e1 e2
    split at e1
    · cases e1
    · split at e2
      · cases e2
      · exact hG d d2 a hd hd2 e1 e2
end XRS

