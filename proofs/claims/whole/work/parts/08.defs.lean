/-! the small heap at the start; its size -/
def zS0 (L : Nat) : zSh := [(99, 0), (30, L), (30, 9), (30, 9), (30, 9), (31, 2), (31, 2), (31, 2), (31, 2), (32, 4), (32, 5), (32, 4), (32, 3)]
def zP0 (a : Nat) (i : Int) : Nat := if (5 ≤ a ∧ a ≤ 8) ∧ i = 0 then a + 4 else 0
def zK0 : List (List Int) := [[], [], [0, 0, 0, 0, 1, 1, 0, 0, 1], [9, 9, 23, 15, 9, 9, 9, 10, 9], [0, 0, 12, 8, 3, 3, 1, 2, 8], [], [], [], [], [116, 117, 114, 110], [115, 104, 97, 107, 101], [108, 111, 111, 112], [101, 110, 100]]
def zM0 (xs : Nat → Int32) (a : Nat) (i : Int) : Int := if a = 1 then (xs i.toNat).toInt else (zK0.getD a []).getD i.toNat 0
def zSm (sh : zSh) : Nat := (sh.map Prod.snd).sum
theorem zSm_app (sh : zSh) (q : Nat × Nat) : zSm (sh ++ [q]) = zSm sh + q.2 := by unfold zSm; simp
