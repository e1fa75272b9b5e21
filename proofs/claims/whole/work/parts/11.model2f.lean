/-- unread ones among the first lines, by the bits of what is read -/
def unr (m : Int32) : Nat → Nat
  | 0 => 0
  | j + 1 => unr m j + (if (m >>> (nI j &&& 31)) &&& 1 = 0 then 1 else 0)
/-- the pile of findMost, level by level: its next column is 0 .. 4, its unread lines and its depth are 8 at most together -/
def fmI (n : Int32) (pile : Nat → Int32) (deep : Int32) : Prop := ∀ i : Nat, (i : Int) ≤ deep.toInt → (0 ≤ (pile (6 * i + 5)).toInt ∧ (pile (6 * i + 5)).toInt ≤ 4) ∧ unr (pile (6 * i + 3)) n.toInt.toNat + i ≤ 8
def fmS (pile : Nat → Int32) : Nat → Nat
  | 0 => 0
  | i + 1 => fmS pile i + (5 - (pile (6 * i + 5)).toInt.toNat) * 6 ^ (8 - i)
/-- how much of the walk is left -/
def fmM (pile : Nat → Int32) (deep : Int32) : Nat := fmS pile (deep.toInt + 1).toNat
