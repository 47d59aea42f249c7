/-! String.length and String.charAt over the six String constants -/
def f_J0_length_8abf5 (i : Nat) (_ : gHp) : Option Int32 := some (nI (gSlen.getD i 0))
def f_J0_charAt_5068e (i : Nat) (k : Int32) (_ : gHp) : Option Int32 := if gIn k (gSlen.getD i 0) then some ((gSbyt.getD i []).getD (gN k) 0) else none
def rm_J0_length_8abf5 : Room := { frames := 1, cells := 0, slots := 0, locals := 25 }
def rm_J0_charAt_5068e : Room := { frames := 4, cells := 0, slots := 0, locals := 110 }
theorem hy_J0_length_8abf5 : yJ0_length_8abf5.cls = RJ0 ∧ yJ0_length_8abf5.cls ≠ "java/lang/invoke/MethodHandle" ∧ yJ0_length_8abf5.cls ≠ "java/lang/invoke/VarHandle" ∧ (parseMethodDescriptor yJ0_length_8abf5.desc).map (fun d => d.parameters.length) = some 0 := by decide +kernel
theorem hy_J0_charAt_5068e : yJ0_charAt_5068e.cls = RJ0 ∧ yJ0_charAt_5068e.cls ≠ "java/lang/invoke/MethodHandle" ∧ yJ0_charAt_5068e.cls ≠ "java/lang/invoke/VarHandle" ∧ (parseMethodDescriptor yJ0_charAt_5068e.desc).map (fun d => d.parameters.length) = some 1 := by decide +kernel
theorem m_J0_length_8abf5 (w : gWd) (h : gHp) {i : Nat} (A : i < 6) {o : Int32} (hF : f_J0_length_8abf5 i h = some o) : gMet w yJ0_length_8abf5 wsJ0_length_8abf5 rm_J0_length_8abf5 [.ref (gAK w i)] h (some (.int o)) h := sorry
theorem m_J0_charAt_5068e (w : gWd) (h : gHp) {i : Nat} (A : i < 6) (k : Int32) {o : Int32} (hF : f_J0_charAt_5068e i k h = some o) : gMet w yJ0_charAt_5068e wsJ0_charAt_5068e rm_J0_charAt_5068e [.ref (gAK w i), .int k] h (some (.int o)) h := sorry
