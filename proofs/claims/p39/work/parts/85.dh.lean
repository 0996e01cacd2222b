/-! the class: addWindow -/
section XRS
variable {E : zk_E} {sz : Nat} {J N J1 N1 : Nat → Nat → Int32} {Q : Nat → Nat → Option Nat} {O : zk_Hp} {U : zk_U} {fl : Nat → Int32}
end XRS

