section R4
variable {k : pK} {al : Bool} {n0 : Nat} {P : pP} {T : pT} {pc : Nat} {L : pL} {st : List Value} {mem : pM} {cells slots : Nat}
theorem PW.mmin {idx : Nat} {x y : Int32} (d : decode k.cc pc = .ok (.invokestatic idx, 3)) (h1 : Cond.methodLink k.own idx Lib.Math.min.name ∈ k.Ts) (h2 : Cond.static Lib.Math.min.name ∈ k.Ts) (h3 : Cond.initialized "java/lang/Math" ∈ k.Ts) (h4 : Cond.code Lib.Math.min.name Lib.Math.min.code 2 (some .int) ∈ k.Ts) (hf : 1 ≤ k.R.frames) (hst : (st.map fun v => v.category).sum + 13 ≤ k.R.locals) (hc : cells ≤ k.R.cells) (hs : slots ≤ k.R.slots) (kk : PW k al n0 P T (pc + 3) L (.int (if y < x then y else x) :: st) mem cells slots) : PW k al n0 P T pc L (.int y :: .int x :: st) mem cells slots :=
  fun p l e s m args below meth c D cA ad A X H locs ls hH hl => va_mmin X.1 X.2.1 (X.2.2.1.trans hl.1.symm) X.2.2.2.1 (X.2.2.2.2.1 _ h1) (X.2.2.2.2.1 _ h2) (X.2.2.2.2.1 _ h3) (X.2.2.2.2.1 _ h4) hf (by rw [pz_cats]; exact hst) hc hs d (kk p l e s m args below meth c D cA ad A X H locs ls hH hl)
theorem PW.mmax {idx : Nat} {x y : Int32} (d : decode k.cc pc = .ok (.invokestatic idx, 3)) (h1 : Cond.methodLink k.own idx Lib.Math.max.name ∈ k.Ts) (h2 : Cond.static Lib.Math.max.name ∈ k.Ts) (h3 : Cond.initialized "java/lang/Math" ∈ k.Ts) (h4 : Cond.code Lib.Math.max.name Lib.Math.max.code 2 (some .int) ∈ k.Ts) (hf : 1 ≤ k.R.frames) (hst : (st.map fun v => v.category).sum + 13 ≤ k.R.locals) (hc : cells ≤ k.R.cells) (hs : slots ≤ k.R.slots) (kk : PW k al n0 P T (pc + 3) L (.int (if x < y then y else x) :: st) mem cells slots) : PW k al n0 P T pc L (.int y :: .int x :: st) mem cells slots :=
  fun p l e s m args below meth c D cA ad A X H locs ls hH hl => va_mmax X.1 X.2.1 (X.2.2.1.trans hl.1.symm) X.2.2.2.1 (X.2.2.2.2.1 _ h1) (X.2.2.2.2.1 _ h2) (X.2.2.2.2.1 _ h3) (X.2.2.2.2.1 _ h4) hf (by rw [pz_cats]; exact hst) hc hs d (kk p l e s m args below meth c D cA ad A X H locs ls hH hl)
end R4
theorem div6 {a : Nat} (h : a < 24) : nI a / 6 = nI (a / 6) := pk_div (d := 6) (by omega) (by decide) (by decide)
theorem u6 {a : Nat} (h : a < 24) : a / 6 < 4 := by omega
theorem rem60 {a : Nat} (h : a < 2 ^ 31) : nI a - nI a / 60 * 60 = nI (a % 60) := pk_rem (d := 60) h (by decide) (by decide)
theorem nI_mul4 (a : Nat) : nI a * 4 = nI (a * 4) := pk_mul a 4
section R5
variable {k : pK} {al : Bool} {n0 : Nat} {P : pP} {T : pT} {pc : Nat} {L : pL} {st : List Value} {mem : pM} {cells slots : Nat}
theorem PW.ldcw {i : Nat} {v : Int32} (d : decode k.cc pc = .ok (.ldc_w i, 3)) (hw : Cond.constant k.own i v ∈ k.Ts) (kk : PW k al n0 P T (pc + 3) L (.int v :: st) mem cells slots) : PW k al n0 P T pc L st mem cells slots :=
  fun p l e s m args below meth c D cA ad A X H locs ls hH hl => lv_ldcw X.1 X.2.1 X.2.2.2.1 (X.2.2.2.2.1 _ hw) d (kk p l e s m args below meth c D cA ad A X H locs ls hH hl)
end R5
