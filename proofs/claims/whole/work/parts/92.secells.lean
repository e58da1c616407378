/-! The cells of a search: Points at u, Outcomes at y, Search at s (made by gen/serows.py). -/
def po_fs (u : Nat) (c : Int) : List Value := [.int (iI c), .ref (u + 1), .ref (u + 2)]
theorem po_fs_len {u : Nat} {c : Int} : (po_fs u c).length = 3 := Eq.trans rfl rfl
theorem po_f0 {u : Nat} {c : Int} {g : Value → Option am_C} : am_fd (po_fs u c) 0 g = g (.int (iI c)) := Eq.trans rfl rfl
theorem po_f1 {u : Nat} {c : Int} {g : Value → Option am_C} : am_fd (po_fs u c) 1 g = g (.ref (u + 1)) := Eq.trans rfl rfl
theorem po_f2 {u : Nat} {c : Int} {g : Value → Option am_C} : am_fd (po_fs u c) 2 g = g (.ref (u + 2)) := Eq.trans rfl rfl
theorem po_s0 {u : Nat} {c : Int} {x0 : Int} : (po_fs u c).set 0 (.int (iI x0)) = po_fs u x0 := Eq.trans rfl rfl
def ou_fs (y : Nat) (c : Int) : List Value := [.int (iI c), .ref (y + 1), .ref (y + 2), .ref (y + 3), .ref (y + 4)]
theorem ou_fs_len {y : Nat} {c : Int} : (ou_fs y c).length = 5 := Eq.trans rfl rfl
theorem ou_f0 {y : Nat} {c : Int} {g : Value → Option am_C} : am_fd (ou_fs y c) 0 g = g (.int (iI c)) := Eq.trans rfl rfl
theorem ou_f1 {y : Nat} {c : Int} {g : Value → Option am_C} : am_fd (ou_fs y c) 1 g = g (.ref (y + 1)) := Eq.trans rfl rfl
theorem ou_f2 {y : Nat} {c : Int} {g : Value → Option am_C} : am_fd (ou_fs y c) 2 g = g (.ref (y + 2)) := Eq.trans rfl rfl
theorem ou_f3 {y : Nat} {c : Int} {g : Value → Option am_C} : am_fd (ou_fs y c) 3 g = g (.ref (y + 3)) := Eq.trans rfl rfl
theorem ou_f4 {y : Nat} {c : Int} {g : Value → Option am_C} : am_fd (ou_fs y c) 4 g = g (.ref (y + 4)) := Eq.trans rfl rfl
theorem ou_s0 {y : Nat} {c : Int} {x0 : Int} : (ou_fs y c).set 0 (.int (iI x0)) = ou_fs y x0 := Eq.trans rfl rfl
def se_fs (s : Nat) (dp : Int) : List Value := [.ref (s + 1), .ref (s + 4), .ref (s + 12), .int (iI dp), .ref (s + 9), .ref (s + 10), .ref (s + 11)]
theorem se_fs_len {s : Nat} {dp : Int} : (se_fs s dp).length = 7 := Eq.trans rfl rfl
theorem se_f0 {s : Nat} {dp : Int} {g : Value → Option am_C} : am_fd (se_fs s dp) 0 g = g (.ref (s + 1)) := Eq.trans rfl rfl
theorem se_f1 {s : Nat} {dp : Int} {g : Value → Option am_C} : am_fd (se_fs s dp) 1 g = g (.ref (s + 4)) := Eq.trans rfl rfl
theorem se_f2 {s : Nat} {dp : Int} {g : Value → Option am_C} : am_fd (se_fs s dp) 2 g = g (.ref (s + 12)) := Eq.trans rfl rfl
theorem se_f3 {s : Nat} {dp : Int} {g : Value → Option am_C} : am_fd (se_fs s dp) 3 g = g (.int (iI dp)) := Eq.trans rfl rfl
theorem se_f4 {s : Nat} {dp : Int} {g : Value → Option am_C} : am_fd (se_fs s dp) 4 g = g (.ref (s + 9)) := Eq.trans rfl rfl
theorem se_f5 {s : Nat} {dp : Int} {g : Value → Option am_C} : am_fd (se_fs s dp) 5 g = g (.ref (s + 10)) := Eq.trans rfl rfl
theorem se_f6 {s : Nat} {dp : Int} {g : Value → Option am_C} : am_fd (se_fs s dp) 6 g = g (.ref (s + 11)) := Eq.trans rfl rfl
theorem se_s3 {s : Nat} {dp : Int} {x0 : Int} : (se_fs s dp).set 3 (.int (iI x0)) = se_fs s x0 := Eq.trans rfl rfl
/-- four slots in one long -/
def sl4 (G : Int → Int) (j : Int) : Int := G (4 * j) + G (4 * j + 1) * 65536 + G (4 * j + 2) * 4294967296 + G (4 * j + 3) * 281474976710656
def po_at (h : am_H) (u : Nat) (c : Int) (L G : Int → Int) : Prop :=
  0 < u ∧ h.1 u = .inr (6, po_fs u c) ∧ h.1 (u + 1) = .inl (1, 9003, .inr (.inl (fun j : Nat => bz (L j)))) ∧ h.1 (u + 2) = .inl (1, 1024, .inr (.inl (fun j : Nat => bz (sl4 G j))))
