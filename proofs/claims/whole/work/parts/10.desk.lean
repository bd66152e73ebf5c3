/-! THE DESK's CELLS: 44 of them, their numbers out of M by row and place -/
abbrev dM : Type := Nat → Nat → Int32
def up2 (M : dM) (r j : Nat) (x : Int32) : dM := fun a b => if a = r ∧ b = j then x else M a b
theorem up2_s (M : dM) (r j : Nat) (x : Int32) : up2 M r j x r j = x := by simp [up2]
theorem up2_r {M : dM} {r j a b : Nat} {x : Int32} (h : a ≠ r) : up2 M r j x a b = M a b := by simp [up2, h]
theorem up2_j {M : dM} {r j a b : Nat} {x : Int32} (h : b ≠ j) : up2 M r j x a b = M a b := by simp [up2, h]
def iaF (M : dM) (r n : Nat) : List Value := (List.range n).map (fun j => Value.int (M r j))
theorem iaF_len (M : dM) (r n : Nat) : (iaF M r n).length = n := by simp [iaF]
theorem iaF_get {M : dM} {r n j : Nat} (h : j < n) : (iaF M r n)[j]? = some (.int (M r j)) := by simp [iaF, h]
theorem iaF_set {M : dM} {r n j : Nat} {x : Int32} : (iaF M r n).set j (.int x) = iaF (up2 M r j x) r n := by
  apply List.ext_getElem?
  intro i
  by_cases hi : i < n
  · by_cases hj : i = j
    · subst hj
      rw [List.getElem?_set_self (by rw [iaF_len]; exact hi), iaF_get hi, up2_s]
    · rw [List.getElem?_set_ne (Ne.symm hj), iaF_get hi, iaF_get hi, up2_j hj]
  · rw [List.getElem?_eq_none (by rw [List.length_set, iaF_len]; omega), List.getElem?_eq_none (by rw [iaF_len]; omega)]
theorem iaF_congr {M M' : dM} {r n : Nat} (h : ∀ j, M r j = M' r j) : iaF M r n = iaF M' r n := by
  simp only [iaF, h]
def dkF (M : dM) : List Value := [.ref 1, .ref 26, .ref 32, .ref 41, .ref 42, .int (M 39 5), .int (M 39 6)]
def lnA : List Value := (List.range 24).map (fun i => Value.ref (2 + i))
def lnF (M : dM) (l : Nat) : List Value := [.int (nI l), .int (M l 1), .int (M l 2), .int (M l 3), .int (M l 4), .int (M l 5), .int (M l 6), .int (M l 7), .int (M l 8), .int (M l 9), .int (M l 10)]
def gpF (M : dM) (g : Nat) : List Value := [.ref (34 + 2 * g), .int (M (28 + g) 1), .int (M (28 + g) 2), .int (M (28 + g) 3)]
def bkF (M : dM) : List Value := [.ref 43, .int (M 37 1)]
def dcell (M : dM) (k : Nat) : pC :=
  if k < 26 then (if k = 0 then (4, dkF M) else if k = 1 then (103, lnA) else (2, lnF M (k - 2)))
  else if k < 33 then (if k = 26 then (3, [.ref 27]) else if k = 27 then (105, [.ref 28, .ref 29, .ref 30, .ref 31]) else if k = 32 then (104, [.ref 33, .ref 35, .ref 37, .ref 39]) else (100, iaF M (k - 4) 8))
  else if k < 41 then (if k % 2 = 1 then (1, gpF M ((k - 33) / 2)) else (100, iaF M (32 + (k - 34) / 2) 6))
  else if k = 41 then (100, iaF M 36 4) else if k = 42 then (0, bkF M) else (100, iaF M 38 240)
def SM (M : dM) : pM := (List.range 44).map (dcell M)
def drow (k : Nat) : Nat := if k = 0 then 39 else if k = 1 then 1001 else if k < 26 then k - 2 else if k = 26 then 1026 else if k = 27 then 1027 else if k = 32 then 1032 else if k < 33 then k - 4 else if k < 41 then (if k % 2 = 1 then 28 + (k - 33) / 2 else 32 + (k - 34) / 2) else if k = 41 then 36 else if k = 42 then 37 else 38
theorem drow_inj : ∀ k, k < 44 → ∀ q, q < 44 → k ≠ q → drow k ≠ drow q := by decide +kernel
theorem SM_len (M : dM) : (SM M).length = 44 := by simp [SM]
theorem SM_get {M : dM} {R : pM} {k : Nat} (h : k < 44) : (SM M ++ R)[k]? = some (dcell M k) := by
  rw [List.getElem?_append_left (by rw [SM_len]; exact h)]
  simp [SM, h]
theorem dcell_congr {M M' : dM} {k : Nat} (hk : k < 44) (h : ∀ j, M (drow k) j = M' (drow k) j) : dcell M k = dcell M' k := by
  unfold dcell
  split
  · split
    · next h0 => subst h0; have h5 := h 5; have h6 := h 6; simp only [drow] at h5 h6; simp at h5 h6; simp [dkF, h5, h6]
    · split
      · rfl
      · next h0 h1 h2 =>
        have hd : drow k = k - 2 := by simp only [drow, if_neg h1, if_neg h2, if_pos h0]
        rw [hd] at h
        simp only [lnF, h]
  · split
    · split
      · rfl
      · split
        · rfl
        · split
          · rfl
          · next h0 h1 h2 h3 h4 =>
            have hd : drow k = k - 4 := by
              simp only [drow]
              rw [if_neg (by omega), if_neg (by omega), if_neg (by omega), if_neg (by omega), if_neg (by omega), if_neg (by omega), if_pos (by omega)]
            rw [hd] at h
            rw [iaF_congr h]
    · split
      · split
        · next h0 h1 h2 h3 =>
          have hd : drow k = 28 + (k - 33) / 2 := by
            simp only [drow]
            rw [if_neg (by omega), if_neg (by omega), if_neg (by omega), if_neg (by omega), if_neg (by omega), if_neg (by omega), if_neg (by omega), if_pos (by omega), if_pos h3]
          rw [hd] at h
          simp only [gpF, h]
        · next h0 h1 h2 h3 =>
          have hd : drow k = 32 + (k - 34) / 2 := by
            simp only [drow]
            rw [if_neg (by omega), if_neg (by omega), if_neg (by omega), if_neg (by omega), if_neg (by omega), if_neg (by omega), if_neg (by omega), if_pos (by omega), if_neg h3]
          rw [hd] at h
          rw [iaF_congr h]
      · split
        · next h0 => subst h0; have hd : drow 41 = 36 := by decide
                     rw [hd] at h; rw [iaF_congr h]
        · split
          · next h0 => subst h0; have hd : drow 42 = 37 := by decide
                       rw [hd] at h; simp only [bkF, h]
          · next h0 h1 h2 h3 h4 =>
            have hd : drow k = 38 := by
              have : k = 43 := by omega
              subst this; decide
            rw [hd] at h
            rw [iaF_congr h]
theorem SM_put {M : dM} {R : pM} {k r j : Nat} {x : Int32} {c : pC} (hk : k < 44) (hr : drow k = r) (hc : dcell (up2 M r j x) k = c) : (SM M ++ R).set k c = SM (up2 M r j x) ++ R := by
  rw [List.set_append_left _ _ (by rw [SM_len]; exact hk)]
  congr 1
  apply List.ext_getElem?
  intro i
  by_cases hi : i < 44
  · by_cases hik : i = k
    · subst hik
      rw [List.getElem?_set_self (by rw [SM_len]; exact hi)]
      simp [SM, hi, hc]
    · rw [List.getElem?_set_ne (Ne.symm hik)]
      simp only [SM, List.getElem?_map, List.getElem?_range hi, Option.map_some]
      congr 1
      apply dcell_congr hi
      intro q
      rw [up2_r]
      rw [← hr]
      exact drow_inj i hi k hk hik
  · rw [List.getElem?_eq_none (by rw [List.length_set, SM_len]; omega), List.getElem?_eq_none (by rw [SM_len]; omega)]
section SMG
variable {M : dM} {R : pM} {x : Int32}
theorem sm_desk : (SM M ++ R)[0]? = some (4, dkF M) := SM_get (by decide)
theorem sm_lines : (SM M ++ R)[1]? = some (103, lnA) := SM_get (by decide)
theorem sm_sw : (SM M ++ R)[26]? = some (3, [.ref 27]) := SM_get (by decide)
theorem sm_car : (SM M ++ R)[27]? = some (105, [.ref 28, .ref 29, .ref 30, .ref 31]) := SM_get (by decide)
theorem sm_grs : (SM M ++ R)[32]? = some (104, [.ref 33, .ref 35, .ref 37, .ref 39]) := SM_get (by decide)
theorem sm_plc : (SM M ++ R)[41]? = some (100, iaF M 36 4) := SM_get (by decide)
theorem sm_book : (SM M ++ R)[42]? = some (0, bkF M) := SM_get (by decide)
theorem sm_ent : (SM M ++ R)[43]? = some (100, iaF M 38 240) := SM_get (by decide)
theorem dc_line {l : Nat} (h : l < 24) : dcell M (2 + l) = (2, lnF M l) := by
  unfold dcell
  rw [if_pos (by omega), if_neg (by omega), if_neg (by omega), Nat.add_sub_cancel_left]
theorem dc_row {u : Nat} (h : u < 4) : dcell M (28 + u) = (100, iaF M (24 + u) 8) := by
  unfold dcell
  rw [if_neg (by omega), if_pos (by omega), if_neg (by omega), if_neg (by omega), if_neg (by omega), show 28 + u - 4 = 24 + u by omega]
theorem dc_grp {g : Nat} (h : g < 4) : dcell M (33 + 2 * g) = (1, gpF M g) := by
  unfold dcell
  rw [if_neg (by omega), if_neg (by omega), if_pos (by omega), if_pos (by omega), show (33 + 2 * g - 33) / 2 = g by omega]
theorem dc_grw {g : Nat} (h : g < 4) : dcell M (34 + 2 * g) = (100, iaF M (32 + g) 6) := by
  unfold dcell
  rw [if_neg (by omega), if_neg (by omega), if_pos (by omega), if_neg (by omega), show (34 + 2 * g - 34) / 2 = g by omega]
theorem sm_line {l : Nat} (h : l < 24) : (SM M ++ R)[2 + l]? = some (2, lnF M l) := by rw [SM_get (by omega), dc_line h]
theorem sm_row {u : Nat} (h : u < 4) : (SM M ++ R)[28 + u]? = some (100, iaF M (24 + u) 8) := by rw [SM_get (by omega), dc_row h]
theorem sm_grp {g : Nat} (h : g < 4) : (SM M ++ R)[33 + 2 * g]? = some (1, gpF M g) := by rw [SM_get (by omega), dc_grp h]
theorem sm_grw {g : Nat} (h : g < 4) : (SM M ++ R)[34 + 2 * g]? = some (100, iaF M (32 + g) 6) := by rw [SM_get (by omega), dc_grw h]
theorem dr_line {l : Nat} (h : l < 24) : drow (2 + l) = l := by
  simp only [drow]
  rw [if_neg (by omega), if_neg (by omega), if_pos (by omega), Nat.add_sub_cancel_left]
theorem dr_row : ∀ u, u < 4 → drow (28 + u) = 24 + u := by decide
theorem dr_grp : ∀ g, g < 4 → drow (33 + 2 * g) = 28 + g := by decide
theorem dr_grw : ∀ g, g < 4 → drow (34 + 2 * g) = 32 + g := by decide
theorem lnF_set {l j : Nat} (h1 : 1 ≤ j) (h2 : j ≤ 10) : lnF (up2 M l j x) l = (lnF M l).set j (.int x) := by
  rcases (show j = 1 ∨ j = 2 ∨ j = 3 ∨ j = 4 ∨ j = 5 ∨ j = 6 ∨ j = 7 ∨ j = 8 ∨ j = 9 ∨ j = 10 by omega) with rfl | rfl | rfl | rfl | rfl | rfl | rfl | rfl | rfl | rfl <;> simp [lnF, up2]
theorem pu_line {l j : Nat} (h : l < 24) (h1 : 1 ≤ j) (h2 : j ≤ 10) : (SM M ++ R).set (2 + l) (2, (lnF M l).set j (.int x)) = SM (up2 M l j x) ++ R := SM_put (by omega) (dr_line h) (by rw [dc_line h, lnF_set h1 h2])
theorem pu_time : (SM M ++ R).set 0 (4, (dkF M).set 5 (.int x)) = SM (up2 M 39 5 x) ++ R := SM_put (by decide) (by decide) (by show (4, dkF _) = _; simp [dkF, up2])
theorem pu_blk : (SM M ++ R).set 0 (4, (dkF M).set 6 (.int x)) = SM (up2 M 39 6 x) ++ R := SM_put (by decide) (by decide) (by show (4, dkF _) = _; simp [dkF, up2])
theorem pu_row {u j : Nat} (h : u < 4) : (SM M ++ R).set (28 + u) (100, (iaF M (24 + u) 8).set j (.int x)) = SM (up2 M (24 + u) j x) ++ R := SM_put (by omega) (dr_row u h) (by rw [dc_row h, iaF_set])
theorem pu_grp {g j : Nat} (h : g < 4) (h1 : 1 ≤ j) (h2 : j ≤ 3) : (SM M ++ R).set (33 + 2 * g) (1, (gpF M g).set j (.int x)) = SM (up2 M (28 + g) j x) ++ R := SM_put (by omega) (dr_grp g h) (by
  rw [dc_grp h]
  rcases (show j = 1 ∨ j = 2 ∨ j = 3 by omega) with rfl | rfl | rfl <;> simp [gpF, up2])
theorem pu_grw {g j : Nat} (h : g < 4) : (SM M ++ R).set (34 + 2 * g) (100, (iaF M (32 + g) 6).set j (.int x)) = SM (up2 M (32 + g) j x) ++ R := SM_put (by omega) (dr_grw g h) (by rw [dc_grw h, iaF_set])
theorem pu_plc {j : Nat} : (SM M ++ R).set 41 (100, (iaF M 36 4).set j (.int x)) = SM (up2 M 36 j x) ++ R := SM_put (by decide) (by decide) (by show (100, iaF _ 36 4) = _; rw [iaF_set])
theorem pu_book : (SM M ++ R).set 42 (0, (bkF M).set 1 (.int x)) = SM (up2 M 37 1 x) ++ R := SM_put (by decide) (by decide) (by show (0, bkF _) = _; simp [bkF, up2])
theorem pu_ent {j : Nat} : (SM M ++ R).set 43 (100, (iaF M 38 240).set j (.int x)) = SM (up2 M 38 j x) ++ R := SM_put (by decide) (by decide) (by show (100, iaF _ 38 240) = _; rw [iaF_set])
theorem lnA_get {l : Nat} (h : l < 24) : lnA[l]? = some (.ref (2 + l)) := by simp [lnA, h]
theorem car_get : ∀ u, u < 4 → ([.ref 28, .ref 29, .ref 30, .ref 31] : List Value)[u]? = some (.ref (28 + u)) := by decide
theorem grs_get : ∀ g, g < 4 → ([.ref 33, .ref 35, .ref 37, .ref 39] : List Value)[g]? = some (.ref (33 + 2 * g)) := by decide
end SMG
