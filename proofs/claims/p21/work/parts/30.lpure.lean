/-! what a number chooses, done to both -/
def acR (x : Int) : Int := blw x 5
def acP (x : Int) : Int := blw (shr x 2) 8
def acO (x : Int) : Int := blw (shr x 4) 6
def acH (x : Int) : Int := blw (shr x 7) 8
def acS (x : Int) : Int := acR x * 8 + acP x
def acV (x : Int) : Int := 1 + blw (shr x 3) 9
def acC (x : Int) : Int := 1 + blw (shr x 5) (if blw x 2 = 0 then 9 else 3)
def acM (σ : St) (x : Int) : Int := min 400 (σ 2 (acO x))
def acL (σ : St) (x : Int) : Int := min 200 (blw (shr x 1) (acM σ x + 1))
def acQ (σ : St) (x : Int) : Int := min 200 (blw (shr x 5) (acM σ x - acL σ x + 1))
def actS (σ : St) (x : Int) : St :=
  if acH x < 3 then xPlant (xPlant σ (acS x) (acO x) (acV x)) (mir (acS x)) (acO x) (acV x)
  else if acH x < 5 then xPrune (xPrune σ (acS x) (acC x)) (mir (acS x)) (acC x)
  else if acH x = 5 then xGraft (xGraft σ (acS x) (acO x)) (mir (acS x)) (acO x)
  else if acH x = 6 then (if 0 < blw (shr x 5) 3 then σ else xFell (xFell σ (acS x)) (mir (acS x)))
  else if acM σ x = 0 then σ else if acL σ x + acQ σ x = 0 then σ else xCarry σ (acO x) (acL σ x) (acQ σ x)
theorem carry_e (σ : St) (a x y : Int) : su (su σ 2 a (σ 2 a - (x + y))) 9 1 (σ 9 1 + (σ 0 a * x - σ 0 a * y)) = xCarry σ a x y := by
  unfold xCarry
  rw [Int.sub_mul, Int.mul_comm x, Int.mul_comm y]
theorem whoR (a b : Int) : inR (who a b) := by
  unfold who inR
  split <;> split <;> omega
