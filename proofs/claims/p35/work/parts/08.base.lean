/-! what the printed functions are made of -/
def am_rc (h : am_H) (q : Option Nat) (ci : Nat) : Option Nat := (am_ob h q ci).map fun o => o.1
def am_nwo (h : am_H) (ci : Nat) (fs : List Value) : Option (Nat × am_H) := some (h.2.1 + 1, (am_nw h ci fs).2)
def am_sl (L : Nat) (xs : Nat → Int32) (i : Int32) : Option Int32 := if i < 0 ∨ L ≤ i.toNatClampNeg then none else some (xs i.toNatClampNeg)
def am_fu : Nat := 100000
def am_vl : Option Value → Option Int64
  | some (.long x) => some x
  | _ => none
def am_gl (h : am_H) (q : Option Nat) (ci k : Nat) : Option Int64 := (am_ob h q ci).bind fun o => am_vl o.2[k]?
def am_pl (h : am_H) (q : Option Nat) (ci k : Nat) (x : Int64) : Option am_H := am_pf h q ci k (.long x)
def df_0 : List Value := [.int 0, .null, .null, .null, .null, .int 0, .int 0, .int 0, .int 0, .null]
def df_1 : List Value := [.null, .null, .int 0, .int 0]
def df_2 : List Value := [.int 0, .int 0, .int 0, .int 0]
def df_3 : List Value := [.null, .int 0, .int 0]
def df_4 : List Value := [.null, .null, .null, .null, .null, .int 0, .null, .int 0, .int 0, .int 0, .int 0, .int 0]
def df_5 : List Value := [.null, .null, .int 0, .int 0, .null, .int 0, .int 0, .int 0, .int 0, .int 0, .int 0, .null, .int 0, .int 0]
def df_6 : List Value := [.null, .null, .null, .int 0]
def df_7 : List Value := [.int 0, .int 0, .int 0, .null]
def df_8 : List Value := [.null, .null, .null, .int 0, .int 0, .int 0, .null, .null, .null, .int 0, .int 0, .null, .null, .null, .null, .null, .null, .null, .null]
