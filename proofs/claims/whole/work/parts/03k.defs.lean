/-! what the tables say: the words of it -/
/-- words that stay under warmer tables -/
def mvb (w : Cond) : Bool := goodWord w || (match w with
  | .fieldLinkNest _ _ _ _ _ _ => true
  | .methodLinkNest _ _ _ _ => true
  | .castable _ _ => true
  | .arrayOver (.object _) => true
  | _ => false)
def TB : List Cond := lw_tbl.filter mvb
theorem tb_in {w : Cond} (i : Nat) (h : lw_tbl[i]? = some w) (hm : mvb w = true) : w ∈ TB := List.mem_filter.mpr ⟨List.mem_of_getElem? h, hm⟩

abbrev Mi : Type := MethodName × ByteArray × Nat × Option FieldType

def nC (c : Nat) : Nat := match vwCl[c]? with
  | some q => q.2.2
  | none => 0
def tyC (c : Nat) : Nat → FieldType := match c with
  | 0 => tyX0
  | 1 => tyX1
  | 2 => tyX2
  | 3 => tyX3
  | 4 => tyX4
  | 5 => tyX5
  | 6 => tyX6
  | 7 => tyX7
  | 8 => tyX8
  | _ => tyX9

def FL (own : String) (index c i : Nat) : Prop := ∃ (C : String) (T0 : u_T) (Nf : Nat) (ref host : String), vwCl[c]? = some (C, T0, Nf) ∧ i < Nf ∧ Nf = nC c ∧ c < 10 ∧ (∀ w ∈ u_ws C T0 Nf, w ∈ TB) ∧ (Cond.fieldLink own index ref (T0 i).2.1 (T0 i).2.2.1 ∈ TB ∨ Cond.fieldLinkNest own index ref (T0 i).2.1 (T0 i).2.2.1 host ∈ TB) ∧ ref = (T0 i).1 ∧ (∀ k, k < Nf → parseFieldDescriptor (T0 k).2.2.1 = some (tyC c k)) ∧ (∀ a, a < Nf → ∀ b, b < Nf → a ≠ b → (T0 a).2.1 ≠ (T0 b).2.1) ∧ ((T0 i).1 = own → Cond.fieldLink own index ref (T0 i).2.1 (T0 i).2.2.1 ∈ TB) ∧ (T0 i).1 = C
def fin (c i : Nat) : Bool := match vwCl[c]? with
  | some q => (q.2.1 i).2.2.2
  | none => true

/-- what the tables say of a class whose objects are made -/
def NL (own : String) (index c : Nat) : Prop := ∃ (C : String) (T0 : u_T) (Nf : Nat), vwCl[c]? = some (C, T0, Nf) ∧ Nf = nC c ∧ c < 10 ∧ (∀ w ∈ u_ws C T0 Nf, w ∈ TB) ∧ Cond.classLink own index C ∈ TB ∧ Cond.instantiable C Nf ∈ TB ∧ Cond.initialized C ∈ TB ∧ (∀ k, k < Nf → parseFieldDescriptor (T0 k).2.2.1 = some (tyC c k))

/-- what the tables say of a method that is called: its code, its class, its arity -/
def CL (M : Mi) (n : Nat) : Prop := Cond.code M.1 M.2.1 M.2.2.1 M.2.2.2 ∈ TB ∧ Cond.initialized M.1.cls ∈ TB ∧ (M.1.cls ≠ "java/lang/invoke/MethodHandle" ∧ M.1.cls ≠ "java/lang/invoke/VarHandle") ∧ (parseMethodDescriptor M.1.desc).map (fun d => d.parameters.length) = some n ∧ plainName M.1.cls = true ∧ M.2.2.1 ≤ 29
def LK (own : String) (index : Nat) (M : Mi) : Prop := Cond.methodLink own index M.1 ∈ TB ∨ ∃ host, Cond.methodLinkNest own index M.1 host ∈ TB
