/-- are r and s a pair? -/
def arB (kd p q : Nat) (W : Nat → Nat) (sa : Nat → Option Nat) (L : Nat → List Nat) (r s : Nat) : Bool := (sa r).isSome && ((sa s).isSome && reachN kd p q (amL W (L r)) (amL W (L s)) (shL W (L r) (L s)))
theorem arB_yes {kd p q : Nat} {W : Nat → Nat} {sa : Nat → Option Nat} {L : Nat → List Nat} {r s q1 q2 : Nat} (h1 : sa r = some q1) (h2 : sa s = some q2) : arB kd p q W sa L r s = reachN kd p q (amL W (L r)) (amL W (L s)) (shL W (L r) (L s)) := by unfold arB; rw [h1, h2]; rfl
theorem arB_no1 {kd p q : Nat} {W : Nat → Nat} {sa : Nat → Option Nat} {L : Nat → List Nat} {r s : Nat} (h1 : sa r = none) : arB kd p q W sa L r s = false := by unfold arB; rw [h1]; rfl
theorem arB_no2 {kd p q : Nat} {W : Nat → Nat} {sa : Nat → Option Nat} {L : Nat → List Nat} {r s : Nat} (h1 : sa s = none) : arB kd p q W sa L r s = false := by unfold arB; rw [h1]; cases (sa r).isSome <;> rfl
