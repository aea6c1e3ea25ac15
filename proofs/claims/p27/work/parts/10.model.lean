section MR
variable {p : Program} {l : Launch} {e : Env} {R : Room} {s : State} {m : MethodId} {args : Array Value} {below : List Frame} {meth : Method} {c : Code} {H : Heap} {locs : List Loc} {cells slots : Nat} {Q : State → Prop}
variable {cc : ByteArray} {pc : Nat} {ls : Array Slot} {rest : List Value} {D : va_G} {A : Nat → Prop} {o : Nat} {P S V T F : Nat → Int32} {h : Int64} {H0 : Heap} {own : String} {idx : Nat}
/-! numbers that are indices -/
theorem iaddN {a b : Nat} (hx : p.tables.exec = Jvm.exec) (hb : c.code = cc) (hdg : decode cc pc = .ok (.iadd, 1)) (kk : W p l e R s m args below meth c H locs cells slots Q (F0 m (pc + 1) ls (.int (nI (a + b)) :: rest))) : W p l e R s m args below meth c H locs cells slots Q (F0 m pc ls (.int (nI b) :: .int (nI a) :: rest)) :=
  lv_iadd hx hb hdg (by rw [nI_add]; exact kk)
theorem imulN {a b : Nat} (hx : p.tables.exec = Jvm.exec) (hb : c.code = cc) (hdg : decode cc pc = .ok (.imul, 1)) (kk : W p l e R s m args below meth c H locs cells slots Q (F0 m (pc + 1) ls (.int (nI (a * b)) :: rest))) : W p l e R s m args below meth c H locs cells slots Q (F0 m pc ls (.int (nI b) :: .int (nI a) :: rest)) :=
  lv_imul hx hb hdg (by rw [pk_mul]; exact kk)
theorem isubN {a b : Nat} (hle : b ≤ a) (hx : p.tables.exec = Jvm.exec) (hb : c.code = cc) (hdg : decode cc pc = .ok (.isub, 1)) (kk : W p l e R s m args below meth c H locs cells slots Q (F0 m (pc + 1) ls (.int (nI (a - b)) :: rest))) : W p l e R s m args below meth c H locs cells slots Q (F0 m pc ls (.int (nI b) :: .int (nI a) :: rest)) :=
  lv_isub hx hb hdg (by rw [pk_sub hle]; exact kk)
theorem topN {x : Int32} {n : Nat} (hn : x = nI n) (kk : W p l e R s m args below meth c H locs cells slots Q (F0 m pc ls (.int (nI n) :: rest))) : W p l e R s m args below meth c H locs cells slots Q (F0 m pc ls (.int x :: rest)) := by
  rw [hn]; exact kk
theorem topE {x y : Int32} (hn : x = y) (kk : W p l e R s m args below meth c H locs cells slots Q (F0 m pc ls (.int y :: rest))) : W p l e R s m args below meth c H locs cells slots Q (F0 m pc ls (.int x :: rest)) := by
  rw [hn]; exact kk
end MR
/-- nothing that was there is written -/
def noA : Nat → Prop := fun _ => False
/-- a street's priority, as a number; that it is one of three -/
def pr (P : Nat → Int32) (i : Nat) : Nat := (P (9 + 8 * i + 1)).toNatClampNeg
def okR (P : Nat → Int32) (i : Nat) : Prop := P (9 + 8 * i + 1) = nI (pr P i) ∧ pr P i < 3
/-- streets, plows, as numbers -/
def ns (P : Nat → Int32) : Nat := (P 1).toNatClampNeg
def np (P : Nat → Int32) : Nat := (P 2).toNatClampNeg
def okN (P : Nat → Int32) : Prop := P 1 = nI (ns P) ∧ ns P ≤ 20 ∧ P 2 = nI (np P) ∧ np P ≤ 3
/-- a plow's places, its place, the street at a place -/
def nc (P : Nat → Int32) (q : Nat) : Nat := (P (169 + 20 * q + 3)).toNatClampNeg
def pa (P : Nat → Int32) (q : Nat) : Nat := (P (169 + 20 * q + 4)).toNatClampNeg
def rt (P : Nat → Int32) (q j : Nat) : Nat := (P (169 + 20 * q + 8 + j)).toNatClampNeg
/-- a plow with a route can work -/
def okW (P : Nat → Int32) (q : Nat) : Prop := P (169 + 20 * q + 3) = nI (nc P q) ∧ nc P q ≤ 12 ∧ P (169 + 20 * q + 4) = nI (pa P q) ∧ pa P q < nc P q ∧ ∀ j, j < nc P q → P (169 + 20 * q + 8 + j) = nI (rt P q j) ∧ rt P q j < 20 ∧ okR P (rt P q j)
