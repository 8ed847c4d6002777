abbrev mPwC : Nat := 0
abbrev mRdC : Nat := 1
abbrev mRLC : Nat := 2
abbrev mEvC : Nat := 3
abbrev mPtC : Nat := 4
abbrev mElC : Nat := 5
abbrev mRunC : Nat := 6
abbrev mMdC : Nat := 7
def sMd : List Nat := [0, 0, 129, 0, 0, 0, 130, 131, 132, 133, 134, 135, 0, 0, 0, 0, 0, 136, 0, 0, 137, 138, 139, 140, 0, 0, 0, 141, 142, 143, 0, 144, 145, 0, 0, 0, 0]
def sK (i : Nat) : Nat × Nat × List Nat :=
  if i = 0 then (0, mPwC, [3, 5, 7, 9, 1, 1, 0, 0, 0, 0, 0, 0])
  else if i = 1 then (0, mRdC, [4, 0, 0])
  else if i = 2 then (1, 2, [40])
  else if i = 3 then (0, mRLC, [6, 0])
  else if i = 4 then (2, 4, [24, 0])
  else if i = 5 then (0, mRLC, [8, 0])
  else if i = 6 then (2, 4, [24, 0])
  else if i = 7 then (0, mEvC, [0, 0, 0, 0, 0])
  else if i = 8 then (0, mPtC, [11, 12, 0, 0, 0, 0])
  else if i = 9 then (2, 5, [8, 15])
  else if i = 10 then (1, 0, [8])
  else if i = 11 then (0, mPtC, [14, 15, 0, 0, 0, 0])
  else if i = 12 then (2, 5, [8, 23])
  else if i = 13 then (1, 0, [8])
  else if i < 30 then (0, mElC, [0, 0, 0, 0, 0, 0])
  else if i < 78 then (0, mRunC, [i + 50, 0, 0, 0, 0, 0, 0, 0])
  else if i < 126 then (1, 0, [19])
  else if i = 126 then (0, mMdC, sMd)
  else if i = 127 then (1, 2, [40])
  else if i = 128 then (1, 2, [16])
  else if i = 129 then (1, 3, [16])
  else if i = 130 then (1, 3, [16])
  else if i = 131 then (1, 0, [16])
  else if i = 132 then (1, 3, [16])
  else if i = 133 then (1, 0, [16])
  else if i = 134 then (1, 0, [8])
  else if i = 135 then (1, 2, [520])
  else if i = 136 then (1, 0, [520])
  else if i = 137 then (1, 0, [520])
  else if i = 138 then (1, 0, [520])
  else if i = 139 then (1, 0, [75])
  else if i = 140 then (1, 0, [75])
  else if i = 141 then (1, 0, [1800])
  else if i = 142 then (1, 0, [26])
  else if i = 143 then (1, 0, [624])
  else (3, 0, [])
theorem sK_el {e : Nat} (h1 : 14 ≤ e) (h2 : e < 30) : sK e = (0, mElC, [0, 0, 0, 0, 0, 0]) := by
  unfold sK
  rw [if_neg (by omega), if_neg (by omega), if_neg (by omega), if_neg (by omega), if_neg (by omega), if_neg (by omega), if_neg (by omega), if_neg (by omega), if_neg (by omega), if_neg (by omega), if_neg (by omega), if_neg (by omega), if_neg (by omega), if_neg (by omega), if_pos (by omega)]
theorem sK_run {r : Nat} (h1 : 30 ≤ r) (h2 : r < 78) : sK r = (0, mRunC, [r + 50, 0, 0, 0, 0, 0, 0, 0]) := by
  unfold sK
  rw [if_neg (by omega), if_neg (by omega), if_neg (by omega), if_neg (by omega), if_neg (by omega), if_neg (by omega), if_neg (by omega), if_neg (by omega), if_neg (by omega), if_neg (by omega), if_neg (by omega), if_neg (by omega), if_neg (by omega), if_neg (by omega), if_neg (by omega), if_pos (by omega)]
theorem sK_tk {r : Nat} (h1 : 78 ≤ r) (h2 : r < 126) : sK r = (1, 0, [19]) := by
  unfold sK
  rw [if_neg (by omega), if_neg (by omega), if_neg (by omega), if_neg (by omega), if_neg (by omega), if_neg (by omega), if_neg (by omega), if_neg (by omega), if_neg (by omega), if_neg (by omega), if_neg (by omega), if_neg (by omega), if_neg (by omega), if_neg (by omega), if_neg (by omega), if_neg (by omega), if_pos (by omega)]
