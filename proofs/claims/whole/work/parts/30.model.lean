/-! THE MODEL'S MEMORY: the same rows as the desk's; a column of the lines is an array -/
def mpos (c k : Nat) : Nat × Nat := match c with
  | 0 => (k, 1)
  | 1 => (k, 2)
  | 2 => (k, 11)
  | 3 => (k, 6)
  | 4 => (k, 3)
  | 5 => (k, 4)
  | 6 => (k, 12)
  | 7 => (k, 5)
  | 8 => (k, 9)
  | 9 => (k, 8)
  | 10 => (k, 7)
  | 11 => (k, 13)
  | 12 => (k, 10)
  | 13 => (36, k)
  | 14 => (24 + k / 8, k % 8)
  | 15 => (32 + k / 6, k % 6)
  | 16 => (28 + k, 1)
  | 17 => (28 + k, 2)
  | 18 => (28 + k, 3)
  | _ => (38, k)
def mlen (c : Nat) : Nat := if c < 13 then 24 else if c = 14 then 32 else if c = 15 then 24 else if c = 19 then 240 else 4
def mtag (c : Nat) : Nat := if c = 8 ∨ c = 10 then 102 else 100
def mdF (N : dM) : List Value := [.int (N 39 7), .int (N 39 5), .ref 45, .ref 46, .ref 47, .ref 48, .ref 49, .ref 50, .ref 51, .int (N 39 8), .ref 52, .ref 53, .ref 54, .ref 55, .ref 56, .ref 57, .ref 58, .ref 59, .ref 60, .ref 61, .ref 62, .ref 63, .int (N 39 6), .int (N 37 1), .ref 64]
def maF (N : dM) (c : Nat) : List Value := (List.range (mlen c)).map (fun k => .int (N (mpos c k).1 (mpos c k).2))
def MM (N : dM) : pM := (5, mdF N) :: (List.range 20).map (fun c => (mtag c, maF N c))
def minv (r j : Nat) : Nat × Nat :=
  if r < 24 then (if j = 1 then (0, r) else if j = 2 then (1, r) else if j = 11 then (2, r) else if j = 6 then (3, r) else if j = 3 then (4, r) else if j = 4 then (5, r) else if j = 12 then (6, r) else if j = 5 then (7, r) else if j = 9 then (8, r) else if j = 8 then (9, r) else if j = 7 then (10, r) else if j = 13 then (11, r) else (12, r))
  else if r = 36 then (13, j) else if r < 28 then (14, 8 * (r - 24) + j) else if r < 32 then (if j = 1 then (16, r - 28) else if j = 2 then (17, r - 28) else (18, r - 28)) else if r < 36 then (15, 6 * (r - 32) + j) else (19, j)
theorem minv_ok : ∀ c, c < 20 → ∀ k, k < mlen c → minv (mpos c k).1 (mpos c k).2 = (c, k) := by decide +kernel
theorem mpos_ne : ∀ c, c < 20 → ∀ k, k < mlen c → (mpos c k).1 ≠ 39 ∧ (mpos c k).1 ≠ 37 := by decide +kernel
theorem maF_len (N : dM) (c : Nat) : (maF N c).length = mlen c := by simp [maF]
theorem maF_get {N : dM} {c k : Nat} (h : k < mlen c) : (maF N c)[k]? = some (.int (N (mpos c k).1 (mpos c k).2)) := by simp [maF, h]
theorem maF_up {N : dM} {c c' k : Nat} {x : Int32} (hc : c < 20) (hc' : c' < 20) (hk : k < mlen c) : maF (up2 N (mpos c k).1 (mpos c k).2 x) c' = if c' = c then (maF N c).set k (.int x) else maF N c' := by
  by_cases e : c' = c
  · subst e
    rw [if_pos rfl]
    apply List.ext_getElem?
    intro i
    by_cases hi : i < mlen c'
    · rw [maF_get hi]
      by_cases ik : i = k
      · subst ik
        rw [up2_s, List.getElem?_set_self (by rw [maF_len]; exact hi)]
      · rw [List.getElem?_set_ne (Ne.symm ik), maF_get hi]
        congr 2
        unfold up2
        rw [if_neg]
        rintro ⟨a, b⟩
        have h1 := minv_ok c' hc' i hi
        rw [a, b, minv_ok c' hc' k hk] at h1
        exact ik (Prod.mk.inj h1).2.symm
    · rw [List.getElem?_eq_none (by rw [maF_len]; omega), List.getElem?_eq_none (by rw [List.length_set, maF_len]; omega)]
  · rw [if_neg e]
    apply List.ext_getElem?
    intro i
    by_cases hi : i < mlen c'
    · rw [maF_get hi, maF_get hi]
      congr 2
      unfold up2
      rw [if_neg]
      rintro ⟨a, b⟩
      have h1 := minv_ok c' hc' i hi
      rw [a, b, minv_ok c hc k hk] at h1
      exact e (Prod.mk.inj h1).1.symm
    · rw [List.getElem?_eq_none (by rw [maF_len]; omega), List.getElem?_eq_none (by rw [maF_len]; omega)]
theorem mdF_up {N : dM} {r j : Nat} {x : Int32} (h1 : r ≠ 39) (h2 : r ≠ 37) : mdF (up2 N r j x) = mdF N := by
  have e1 : ∀ q, up2 N r j x 39 q = N 39 q := fun q => up2_r (Ne.symm h1)
  have e2 : ∀ q, up2 N r j x 37 q = N 37 q := fun q => up2_r (Ne.symm h2)
  simp only [mdF, e1, e2]
theorem MM_len (N : dM) : (MM N).length = 21 := by simp [MM]
section MMG
variable {M N : dM} {R : pM} {x : Int32}
theorem MM_obj : (SM M ++ (MM N ++ R))[44]? = some (5, mdF N) := by
  rw [List.getElem?_append_right (by rw [SM_len]; exact Nat.le_refl _), SM_len]
  rfl
theorem MM_arr {c : Nat} (h : c < 20) : (SM M ++ (MM N ++ R))[45 + c]? = some (mtag c, maF N c) := by
  rw [List.getElem?_append_right (by rw [SM_len]; omega), SM_len, List.getElem?_append_left (by rw [MM_len]; omega), show 45 + c - 44 = c + 1 by omega, MM, List.getElem?_cons_succ]
  simp [h]
theorem MM_put {c k : Nat} (h : c < 20) (hk : k < mlen c) : (SM M ++ (MM N ++ R)).set (45 + c) (mtag c, (maF N c).set k (.int x)) = SM M ++ (MM (up2 N (mpos c k).1 (mpos c k).2 x) ++ R) := by
  rw [List.set_append_right _ _ (by rw [SM_len]; omega), SM_len, List.set_append_left _ _ (by rw [MM_len]; omega), show 45 + c - 44 = c + 1 by omega]
  congr 2
  unfold MM
  rw [mdF_up (mpos_ne c h k hk).1 (mpos_ne c h k hk).2, List.set_cons_succ]
  congr 1
  apply List.ext_getElem?
  intro i
  by_cases hi : i < 20
  · by_cases ic : i = c
    · subst ic
      rw [List.getElem?_set_self (by simpa using hi)]
      simp [hi, maF_up h h hk]
    · rw [List.getElem?_set_ne (Ne.symm ic)]
      simp [hi, maF_up h hi hk, ic]
  · rw [List.getElem?_eq_none (by simp; omega), List.getElem?_eq_none (by simp; omega)]
theorem MM_putF {j r q : Nat} (h : r = 39 ∨ r = 37) (e : mdF (up2 N r q x) = (mdF N).set j (.int x)) : (SM M ++ (MM N ++ R)).set 44 (5, (mdF N).set j (.int x)) = SM M ++ (MM (up2 N r q x) ++ R) := by
  rw [List.set_append_right _ _ (by rw [SM_len]; exact Nat.le_refl _), SM_len, List.set_append_left _ _ (by rw [MM_len]; omega)]
  congr 2
  unfold MM
  rw [e, show (44 - 44 : Nat) = 0 from rfl, List.set_cons_zero]
  congr 1
  apply List.map_congr_left
  intro c hc
  have hc : c < 20 := List.mem_range.mp hc
  congr 1
  apply List.ext_getElem?
  intro i
  by_cases hi : i < mlen c
  · rw [maF_get hi, maF_get hi, up2_r]
    rcases h with rfl | rfl
    · exact (mpos_ne c hc i hi).1
    · exact (mpos_ne c hc i hi).2
  · rw [List.getElem?_eq_none (by rw [maF_len]; omega), List.getElem?_eq_none (by rw [maF_len]; omega)]
theorem sm_mod : (SM M ++ (MM N ++ R))[44]? = some (5, mdF N) := MM_obj
theorem pm_thrown : (SM M ++ (MM N ++ R)).set 44 (5, (mdF N).set 0 (.int x)) = SM M ++ (MM (up2 N 39 7 x) ++ R) := MM_putF (by decide) (by simp [mdF, up2])
theorem pm_now : (SM M ++ (MM N ++ R)).set 44 (5, (mdF N).set 1 (.int x)) = SM M ++ (MM (up2 N 39 5 x) ++ R) := MM_putF (by decide) (by simp [mdF, up2])
theorem pm_ranks : (SM M ++ (MM N ++ R)).set 44 (5, (mdF N).set 9 (.int x)) = SM M ++ (MM (up2 N 39 8 x) ++ R) := MM_putF (by decide) (by simp [mdF, up2])
theorem pm_blocked : (SM M ++ (MM N ++ R)).set 44 (5, (mdF N).set 22 (.int x)) = SM M ++ (MM (up2 N 39 6 x) ++ R) := MM_putF (by decide) (by simp [mdF, up2])
theorem pm_entries : (SM M ++ (MM N ++ R)).set 44 (5, (mdF N).set 23 (.int x)) = SM M ++ (MM (up2 N 37 1 x) ++ R) := MM_putF (by decide) (by simp [mdF, up2])
theorem ma_state : (SM M ++ (MM N ++ R))[45]? = some (100, maF N 0) := MM_arr (c := 0) (by decide)
theorem mg_state {k : Nat} (h : k < 24) : (maF N 0)[k]? = some (.int (N k (1))) := maF_get (c := 0) h
theorem pm_state {k : Nat} (h : k < 24) : (SM M ++ (MM N ++ R)).set 45 (100, (maF N 0).set k (.int x)) = SM M ++ (MM (up2 N k (1) x) ++ R) := MM_put (c := 0) (by decide) h
theorem ma_since : (SM M ++ (MM N ++ R))[46]? = some (100, maF N 1) := MM_arr (c := 1) (by decide)
theorem mg_since {k : Nat} (h : k < 24) : (maF N 1)[k]? = some (.int (N k (2))) := maF_get (c := 1) h
theorem pm_since {k : Nat} (h : k < 24) : (SM M ++ (MM N ++ R)).set 46 (100, (maF N 1).set k (.int x)) = SM M ++ (MM (up2 N k (2) x) ++ R) := MM_put (c := 1) (by decide) h
theorem ma_idleSince : (SM M ++ (MM N ++ R))[47]? = some (100, maF N 2) := MM_arr (c := 2) (by decide)
theorem mg_idleSince {k : Nat} (h : k < 24) : (maF N 2)[k]? = some (.int (N k (11))) := maF_get (c := 2) h
theorem pm_idleSince {k : Nat} (h : k < 24) : (SM M ++ (MM N ++ R)).set 47 (100, (maF N 2).set k (.int x)) = SM M ++ (MM (up2 N k (11) x) ++ R) := MM_put (c := 2) (by decide) h
theorem ma_digits : (SM M ++ (MM N ++ R))[48]? = some (100, maF N 3) := MM_arr (c := 3) (by decide)
theorem mg_digits {k : Nat} (h : k < 24) : (maF N 3)[k]? = some (.int (N k (6))) := maF_get (c := 3) h
theorem pm_digits {k : Nat} (h : k < 24) : (SM M ++ (MM N ++ R)).set 48 (100, (maF N 3).set k (.int x)) = SM M ++ (MM (up2 N k (6) x) ++ R) := MM_put (c := 3) (by decide) h
theorem ma_other : (SM M ++ (MM N ++ R))[49]? = some (100, maF N 4) := MM_arr (c := 4) (by decide)
theorem mg_other {k : Nat} (h : k < 24) : (maF N 4)[k]? = some (.int (N k (3))) := maF_get (c := 4) h
theorem pm_other {k : Nat} (h : k < 24) : (SM M ++ (MM N ++ R)).set 49 (100, (maF N 4).set k (.int x)) = SM M ++ (MM (up2 N k (3) x) ++ R) := MM_put (c := 4) (by decide) h
theorem ma_slotOf : (SM M ++ (MM N ++ R))[50]? = some (100, maF N 5) := MM_arr (c := 5) (by decide)
theorem mg_slotOf {k : Nat} (h : k < 24) : (maF N 5)[k]? = some (.int (N k (4))) := maF_get (c := 5) h
theorem pm_slotOf {k : Nat} (h : k < 24) : (SM M ++ (MM N ++ R)).set 50 (100, (maF N 5).set k (.int x)) = SM M ++ (MM (up2 N k (4) x) ++ R) := MM_put (c := 5) (by decide) h
theorem ma_rank : (SM M ++ (MM N ++ R))[51]? = some (100, maF N 6) := MM_arr (c := 6) (by decide)
theorem mg_rank {k : Nat} (h : k < 24) : (maF N 6)[k]? = some (.int (N k (12))) := maF_get (c := 6) h
theorem pm_rank {k : Nat} (h : k < 24) : (SM M ++ (MM N ++ R)).set 51 (100, (maF N 6).set k (.int x)) = SM M ++ (MM (up2 N k (12) x) ++ R) := MM_put (c := 6) (by decide) h
theorem ma_late : (SM M ++ (MM N ++ R))[52]? = some (100, maF N 7) := MM_arr (c := 7) (by decide)
theorem mg_late {k : Nat} (h : k < 24) : (maF N 7)[k]? = some (.int (N k (5))) := maF_get (c := 7) h
theorem pm_late {k : Nat} (h : k < 24) : (SM M ++ (MM N ++ R)).set 52 (100, (maF N 7).set k (.int x)) = SM M ++ (MM (up2 N k (5) x) ++ R) := MM_put (c := 7) (by decide) h
theorem ma_quiet : (SM M ++ (MM N ++ R))[53]? = some (102, maF N 8) := MM_arr (c := 8) (by decide)
theorem mg_quiet {k : Nat} (h : k < 24) : (maF N 8)[k]? = some (.int (N k (9))) := maF_get (c := 8) h
theorem pm_quiet {k : Nat} (h : k < 24) : (SM M ++ (MM N ++ R)).set 53 (102, (maF N 8).set k (.int x)) = SM M ++ (MM (up2 N k (9) x) ++ R) := MM_put (c := 8) (by decide) h
theorem ma_paid : (SM M ++ (MM N ++ R))[54]? = some (100, maF N 9) := MM_arr (c := 9) (by decide)
theorem mg_paid {k : Nat} (h : k < 24) : (maF N 9)[k]? = some (.int (N k (8))) := maF_get (c := 9) h
theorem pm_paid {k : Nat} (h : k < 24) : (SM M ++ (MM N ++ R)).set 54 (100, (maF N 9).set k (.int x)) = SM M ++ (MM (up2 N k (8) x) ++ R) := MM_put (c := 9) (by decide) h
theorem ma_pays : (SM M ++ (MM N ++ R))[55]? = some (102, maF N 10) := MM_arr (c := 10) (by decide)
theorem mg_pays {k : Nat} (h : k < 24) : (maF N 10)[k]? = some (.int (N k (7))) := maF_get (c := 10) h
theorem pm_pays {k : Nat} (h : k < 24) : (SM M ++ (MM N ++ R)).set 55 (102, (maF N 10).set k (.int x)) = SM M ++ (MM (up2 N k (7) x) ++ R) := MM_put (c := 10) (by decide) h
theorem ma_begun : (SM M ++ (MM N ++ R))[56]? = some (100, maF N 11) := MM_arr (c := 11) (by decide)
theorem mg_begun {k : Nat} (h : k < 24) : (maF N 11)[k]? = some (.int (N k (13))) := maF_get (c := 11) h
theorem pm_begun {k : Nat} (h : k < 24) : (SM M ++ (MM N ++ R)).set 56 (100, (maF N 11).set k (.int x)) = SM M ++ (MM (up2 N k (13) x) ++ R) := MM_put (c := 11) (by decide) h
theorem ma_camper : (SM M ++ (MM N ++ R))[57]? = some (100, maF N 12) := MM_arr (c := 12) (by decide)
theorem mg_camper {k : Nat} (h : k < 24) : (maF N 12)[k]? = some (.int (N k (10))) := maF_get (c := 12) h
theorem pm_camper {k : Nat} (h : k < 24) : (SM M ++ (MM N ++ R)).set 57 (100, (maF N 12).set k (.int x)) = SM M ++ (MM (up2 N k (10) x) ++ R) := MM_put (c := 12) (by decide) h
theorem ma_parked : (SM M ++ (MM N ++ R))[58]? = some (100, maF N 13) := MM_arr (c := 13) (by decide)
theorem mg_parked {k : Nat} (h : k < 4) : (maF N 13)[k]? = some (.int (N 36 k)) := maF_get (c := 13) h
theorem pm_parked {k : Nat} (h : k < 4) : (SM M ++ (MM N ++ R)).set 58 (100, (maF N 13).set k (.int x)) = SM M ++ (MM (up2 N 36 k x) ++ R) := MM_put (c := 13) (by decide) h
theorem ma_slots : (SM M ++ (MM N ++ R))[59]? = some (100, maF N 14) := MM_arr (c := 14) (by decide)
theorem mg_slots {u t : Nat} (hu : u < 4) (ht : t < 8) : (maF N 14)[8 * u + t]? = some (.int (N (24 + u) t)) := by
  rw [maF_get (show 8 * u + t < 32 by omega)]
  show some (Value.int (N (24 + (8 * u + t) / 8) ((8 * u + t) % 8))) = _
  rw [show (8 * u + t) / 8 = u by omega, show (8 * u + t) % 8 = t by omega]
theorem pm_slots {u t : Nat} (hu : u < 4) (ht : t < 8) : (SM M ++ (MM N ++ R)).set 59 (100, (maF N 14).set (8 * u + t) (.int x)) = SM M ++ (MM (up2 N (24 + u) t x) ++ R) := by
  have h := MM_put (M := M) (N := N) (R := R) (x := x) (c := 14) (k := 8 * u + t) (by decide) (show 8 * u + t < 32 by omega)
  have e : mpos 14 (8 * u + t) = (24 + u, t) := by
    show (24 + (8 * u + t) / 8, (8 * u + t) % 8) = _
    rw [show (8 * u + t) / 8 = u by omega, show (8 * u + t) % 8 = t by omega]
  rw [e] at h
  exact h
theorem ma_members : (SM M ++ (MM N ++ R))[60]? = some (100, maF N 15) := MM_arr (c := 15) (by decide)
theorem mg_members {u t : Nat} (hu : u < 4) (ht : t < 6) : (maF N 15)[6 * u + t]? = some (.int (N (32 + u) t)) := by
  rw [maF_get (show 6 * u + t < 24 by omega)]
  show some (Value.int (N (32 + (6 * u + t) / 6) ((6 * u + t) % 6))) = _
  rw [show (6 * u + t) / 6 = u by omega, show (6 * u + t) % 6 = t by omega]
theorem pm_members {u t : Nat} (hu : u < 4) (ht : t < 6) : (SM M ++ (MM N ++ R)).set 60 (100, (maF N 15).set (6 * u + t) (.int x)) = SM M ++ (MM (up2 N (32 + u) t x) ++ R) := by
  have h := MM_put (M := M) (N := N) (R := R) (x := x) (c := 15) (k := 6 * u + t) (by decide) (show 6 * u + t < 24 by omega)
  have e : mpos 15 (6 * u + t) = (32 + u, t) := by
    show (32 + (6 * u + t) / 6, (6 * u + t) % 6) = _
    rw [show (6 * u + t) / 6 = u by omega, show (6 * u + t) % 6 = t by omega]
  rw [e] at h
  exact h
theorem ma_many : (SM M ++ (MM N ++ R))[61]? = some (100, maF N 16) := MM_arr (c := 16) (by decide)
theorem mg_many {k : Nat} (h : k < 4) : (maF N 16)[k]? = some (.int (N (28 + k) (1))) := maF_get (c := 16) h
theorem pm_many {k : Nat} (h : k < 4) : (SM M ++ (MM N ++ R)).set 61 (100, (maF N 16).set k (.int x)) = SM M ++ (MM (up2 N (28 + k) (1) x) ++ R) := MM_put (c := 16) (by decide) h
theorem ma_orders : (SM M ++ (MM N ++ R))[62]? = some (100, maF N 17) := MM_arr (c := 17) (by decide)
theorem mg_orders {k : Nat} (h : k < 4) : (maF N 17)[k]? = some (.int (N (28 + k) (2))) := maF_get (c := 17) h
theorem pm_orders {k : Nat} (h : k < 4) : (SM M ++ (MM N ++ R)).set 62 (100, (maF N 17).set k (.int x)) = SM M ++ (MM (up2 N (28 + k) (2) x) ++ R) := MM_put (c := 17) (by decide) h
theorem ma_taken : (SM M ++ (MM N ++ R))[63]? = some (100, maF N 18) := MM_arr (c := 18) (by decide)
theorem mg_taken {k : Nat} (h : k < 4) : (maF N 18)[k]? = some (.int (N (28 + k) (3))) := maF_get (c := 18) h
theorem pm_taken {k : Nat} (h : k < 4) : (SM M ++ (MM N ++ R)).set 63 (100, (maF N 18).set k (.int x)) = SM M ++ (MM (up2 N (28 + k) (3) x) ++ R) := MM_put (c := 18) (by decide) h
theorem ma_entry : (SM M ++ (MM N ++ R))[64]? = some (100, maF N 19) := MM_arr (c := 19) (by decide)
theorem mg_entry {k : Nat} (h : k < 240) : (maF N 19)[k]? = some (.int (N 38 k)) := maF_get (c := 19) h
theorem pm_entry {k : Nat} (h : k < 240) : (SM M ++ (MM N ++ R)).set 64 (100, (maF N 19).set k (.int x)) = SM M ++ (MM (up2 N 38 k x) ++ R) := MM_put (c := 19) (by decide) h
end MMG
theorem ix8 {a t : Nat} (ha : a < 24) : 8 * (nI a / 6) + nI t = nI (8 * (a / 6) + t) := by rw [div6 ha, show (8 : Int32) = nI 8 from rfl, pk_mul, nI_add]
theorem ix6 (g i : Nat) : 6 * nI g + nI i = nI (6 * g + i) := by rw [show (6 : Int32) = nI 6 from rfl, pk_mul, nI_add]
theorem ix8u (u t : Nat) : 8 * nI u + nI t = nI (8 * u + t) := by rw [show (8 : Int32) = nI 8 from rfl, pk_mul, nI_add]
