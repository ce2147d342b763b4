abbrev cM : Type := Int32 × (Nat → Int32) × Int32 × Int32 × Int32 × Int32 × Int32 × (Nat → Int32) × (Nat → Int32) × (Nat → Int32) × (Nat → Int32) × Int32 × Int32 × Int32 × Int32 × (Nat → Int32) × (Nat → Int32) × (Nat → Int32) × Int32 × (Nat → Int32) × (Nat → Int32) × (Nat → Int32) × Int32 × Int32 × (Nat → Int32) × (Nat → Int32)
def mg0 (u : cM) : Int32 := u.1
def mg1 (u : cM) : Nat → Int32 := u.2.1
def mg2 (u : cM) : Int32 := u.2.2.1
def mg3 (u : cM) : Int32 := u.2.2.2.1
def mg4 (u : cM) : Int32 := u.2.2.2.2.1
def mg5 (u : cM) : Int32 := u.2.2.2.2.2.1
def mg6 (u : cM) : Int32 := u.2.2.2.2.2.2.1
def mg7 (u : cM) : Nat → Int32 := u.2.2.2.2.2.2.2.1
def mg8 (u : cM) : Nat → Int32 := u.2.2.2.2.2.2.2.2.1
def mg9 (u : cM) : Nat → Int32 := u.2.2.2.2.2.2.2.2.2.1
def mg10 (u : cM) : Nat → Int32 := u.2.2.2.2.2.2.2.2.2.2.1
def mg11 (u : cM) : Int32 := u.2.2.2.2.2.2.2.2.2.2.2.1
def mg12 (u : cM) : Int32 := u.2.2.2.2.2.2.2.2.2.2.2.2.1
def mg13 (u : cM) : Int32 := u.2.2.2.2.2.2.2.2.2.2.2.2.2.1
def mg14 (u : cM) : Int32 := u.2.2.2.2.2.2.2.2.2.2.2.2.2.2.1
def mg15 (u : cM) : Nat → Int32 := u.2.2.2.2.2.2.2.2.2.2.2.2.2.2.2.1
def mg16 (u : cM) : Nat → Int32 := u.2.2.2.2.2.2.2.2.2.2.2.2.2.2.2.2.1
def mg17 (u : cM) : Nat → Int32 := u.2.2.2.2.2.2.2.2.2.2.2.2.2.2.2.2.2.1
def mg18 (u : cM) : Int32 := u.2.2.2.2.2.2.2.2.2.2.2.2.2.2.2.2.2.2.1
def mg19 (u : cM) : Nat → Int32 := u.2.2.2.2.2.2.2.2.2.2.2.2.2.2.2.2.2.2.2.1
def mg20 (u : cM) : Nat → Int32 := u.2.2.2.2.2.2.2.2.2.2.2.2.2.2.2.2.2.2.2.2.1
def mg21 (u : cM) : Nat → Int32 := u.2.2.2.2.2.2.2.2.2.2.2.2.2.2.2.2.2.2.2.2.2.1
def mg22 (u : cM) : Int32 := u.2.2.2.2.2.2.2.2.2.2.2.2.2.2.2.2.2.2.2.2.2.2.1
def mg23 (u : cM) : Int32 := u.2.2.2.2.2.2.2.2.2.2.2.2.2.2.2.2.2.2.2.2.2.2.2.1
def mg24 (u : cM) : Nat → Int32 := u.2.2.2.2.2.2.2.2.2.2.2.2.2.2.2.2.2.2.2.2.2.2.2.2.1
def mg25 (u : cM) : Nat → Int32 := u.2.2.2.2.2.2.2.2.2.2.2.2.2.2.2.2.2.2.2.2.2.2.2.2.2
def ms0 (u : cM) (v : Int32) : cM := (v, u.2)
def ms1 (u : cM) (v : Nat → Int32) : cM := (u.1, v, u.2.2)
def ms2 (u : cM) (v : Int32) : cM := (u.1, u.2.1, v, u.2.2.2)
def ms3 (u : cM) (v : Int32) : cM := (u.1, u.2.1, u.2.2.1, v, u.2.2.2.2)
def ms4 (u : cM) (v : Int32) : cM := (u.1, u.2.1, u.2.2.1, u.2.2.2.1, v, u.2.2.2.2.2)
def ms5 (u : cM) (v : Int32) : cM := (u.1, u.2.1, u.2.2.1, u.2.2.2.1, u.2.2.2.2.1, v, u.2.2.2.2.2.2)
def ms6 (u : cM) (v : Int32) : cM := (u.1, u.2.1, u.2.2.1, u.2.2.2.1, u.2.2.2.2.1, u.2.2.2.2.2.1, v, u.2.2.2.2.2.2.2)
def ms7 (u : cM) (v : Nat → Int32) : cM := (u.1, u.2.1, u.2.2.1, u.2.2.2.1, u.2.2.2.2.1, u.2.2.2.2.2.1, u.2.2.2.2.2.2.1, v, u.2.2.2.2.2.2.2.2)
def ms8 (u : cM) (v : Nat → Int32) : cM := (u.1, u.2.1, u.2.2.1, u.2.2.2.1, u.2.2.2.2.1, u.2.2.2.2.2.1, u.2.2.2.2.2.2.1, u.2.2.2.2.2.2.2.1, v, u.2.2.2.2.2.2.2.2.2)
def ms9 (u : cM) (v : Nat → Int32) : cM := (u.1, u.2.1, u.2.2.1, u.2.2.2.1, u.2.2.2.2.1, u.2.2.2.2.2.1, u.2.2.2.2.2.2.1, u.2.2.2.2.2.2.2.1, u.2.2.2.2.2.2.2.2.1, v, u.2.2.2.2.2.2.2.2.2.2)
def ms10 (u : cM) (v : Nat → Int32) : cM := (u.1, u.2.1, u.2.2.1, u.2.2.2.1, u.2.2.2.2.1, u.2.2.2.2.2.1, u.2.2.2.2.2.2.1, u.2.2.2.2.2.2.2.1, u.2.2.2.2.2.2.2.2.1, u.2.2.2.2.2.2.2.2.2.1, v, u.2.2.2.2.2.2.2.2.2.2.2)
def ms11 (u : cM) (v : Int32) : cM := (u.1, u.2.1, u.2.2.1, u.2.2.2.1, u.2.2.2.2.1, u.2.2.2.2.2.1, u.2.2.2.2.2.2.1, u.2.2.2.2.2.2.2.1, u.2.2.2.2.2.2.2.2.1, u.2.2.2.2.2.2.2.2.2.1, u.2.2.2.2.2.2.2.2.2.2.1, v, u.2.2.2.2.2.2.2.2.2.2.2.2)
def ms12 (u : cM) (v : Int32) : cM := (u.1, u.2.1, u.2.2.1, u.2.2.2.1, u.2.2.2.2.1, u.2.2.2.2.2.1, u.2.2.2.2.2.2.1, u.2.2.2.2.2.2.2.1, u.2.2.2.2.2.2.2.2.1, u.2.2.2.2.2.2.2.2.2.1, u.2.2.2.2.2.2.2.2.2.2.1, u.2.2.2.2.2.2.2.2.2.2.2.1, v, u.2.2.2.2.2.2.2.2.2.2.2.2.2)
def ms13 (u : cM) (v : Int32) : cM := (u.1, u.2.1, u.2.2.1, u.2.2.2.1, u.2.2.2.2.1, u.2.2.2.2.2.1, u.2.2.2.2.2.2.1, u.2.2.2.2.2.2.2.1, u.2.2.2.2.2.2.2.2.1, u.2.2.2.2.2.2.2.2.2.1, u.2.2.2.2.2.2.2.2.2.2.1, u.2.2.2.2.2.2.2.2.2.2.2.1, u.2.2.2.2.2.2.2.2.2.2.2.2.1, v, u.2.2.2.2.2.2.2.2.2.2.2.2.2.2)
def ms14 (u : cM) (v : Int32) : cM := (u.1, u.2.1, u.2.2.1, u.2.2.2.1, u.2.2.2.2.1, u.2.2.2.2.2.1, u.2.2.2.2.2.2.1, u.2.2.2.2.2.2.2.1, u.2.2.2.2.2.2.2.2.1, u.2.2.2.2.2.2.2.2.2.1, u.2.2.2.2.2.2.2.2.2.2.1, u.2.2.2.2.2.2.2.2.2.2.2.1, u.2.2.2.2.2.2.2.2.2.2.2.2.1, u.2.2.2.2.2.2.2.2.2.2.2.2.2.1, v, u.2.2.2.2.2.2.2.2.2.2.2.2.2.2.2)
def ms15 (u : cM) (v : Nat → Int32) : cM := (u.1, u.2.1, u.2.2.1, u.2.2.2.1, u.2.2.2.2.1, u.2.2.2.2.2.1, u.2.2.2.2.2.2.1, u.2.2.2.2.2.2.2.1, u.2.2.2.2.2.2.2.2.1, u.2.2.2.2.2.2.2.2.2.1, u.2.2.2.2.2.2.2.2.2.2.1, u.2.2.2.2.2.2.2.2.2.2.2.1, u.2.2.2.2.2.2.2.2.2.2.2.2.1, u.2.2.2.2.2.2.2.2.2.2.2.2.2.1, u.2.2.2.2.2.2.2.2.2.2.2.2.2.2.1, v, u.2.2.2.2.2.2.2.2.2.2.2.2.2.2.2.2)
def ms16 (u : cM) (v : Nat → Int32) : cM := (u.1, u.2.1, u.2.2.1, u.2.2.2.1, u.2.2.2.2.1, u.2.2.2.2.2.1, u.2.2.2.2.2.2.1, u.2.2.2.2.2.2.2.1, u.2.2.2.2.2.2.2.2.1, u.2.2.2.2.2.2.2.2.2.1, u.2.2.2.2.2.2.2.2.2.2.1, u.2.2.2.2.2.2.2.2.2.2.2.1, u.2.2.2.2.2.2.2.2.2.2.2.2.1, u.2.2.2.2.2.2.2.2.2.2.2.2.2.1, u.2.2.2.2.2.2.2.2.2.2.2.2.2.2.1, u.2.2.2.2.2.2.2.2.2.2.2.2.2.2.2.1, v, u.2.2.2.2.2.2.2.2.2.2.2.2.2.2.2.2.2)
def ms17 (u : cM) (v : Nat → Int32) : cM := (u.1, u.2.1, u.2.2.1, u.2.2.2.1, u.2.2.2.2.1, u.2.2.2.2.2.1, u.2.2.2.2.2.2.1, u.2.2.2.2.2.2.2.1, u.2.2.2.2.2.2.2.2.1, u.2.2.2.2.2.2.2.2.2.1, u.2.2.2.2.2.2.2.2.2.2.1, u.2.2.2.2.2.2.2.2.2.2.2.1, u.2.2.2.2.2.2.2.2.2.2.2.2.1, u.2.2.2.2.2.2.2.2.2.2.2.2.2.1, u.2.2.2.2.2.2.2.2.2.2.2.2.2.2.1, u.2.2.2.2.2.2.2.2.2.2.2.2.2.2.2.1, u.2.2.2.2.2.2.2.2.2.2.2.2.2.2.2.2.1, v, u.2.2.2.2.2.2.2.2.2.2.2.2.2.2.2.2.2.2)
def ms18 (u : cM) (v : Int32) : cM := (u.1, u.2.1, u.2.2.1, u.2.2.2.1, u.2.2.2.2.1, u.2.2.2.2.2.1, u.2.2.2.2.2.2.1, u.2.2.2.2.2.2.2.1, u.2.2.2.2.2.2.2.2.1, u.2.2.2.2.2.2.2.2.2.1, u.2.2.2.2.2.2.2.2.2.2.1, u.2.2.2.2.2.2.2.2.2.2.2.1, u.2.2.2.2.2.2.2.2.2.2.2.2.1, u.2.2.2.2.2.2.2.2.2.2.2.2.2.1, u.2.2.2.2.2.2.2.2.2.2.2.2.2.2.1, u.2.2.2.2.2.2.2.2.2.2.2.2.2.2.2.1, u.2.2.2.2.2.2.2.2.2.2.2.2.2.2.2.2.1, u.2.2.2.2.2.2.2.2.2.2.2.2.2.2.2.2.2.1, v, u.2.2.2.2.2.2.2.2.2.2.2.2.2.2.2.2.2.2.2)
def ms19 (u : cM) (v : Nat → Int32) : cM := (u.1, u.2.1, u.2.2.1, u.2.2.2.1, u.2.2.2.2.1, u.2.2.2.2.2.1, u.2.2.2.2.2.2.1, u.2.2.2.2.2.2.2.1, u.2.2.2.2.2.2.2.2.1, u.2.2.2.2.2.2.2.2.2.1, u.2.2.2.2.2.2.2.2.2.2.1, u.2.2.2.2.2.2.2.2.2.2.2.1, u.2.2.2.2.2.2.2.2.2.2.2.2.1, u.2.2.2.2.2.2.2.2.2.2.2.2.2.1, u.2.2.2.2.2.2.2.2.2.2.2.2.2.2.1, u.2.2.2.2.2.2.2.2.2.2.2.2.2.2.2.1, u.2.2.2.2.2.2.2.2.2.2.2.2.2.2.2.2.1, u.2.2.2.2.2.2.2.2.2.2.2.2.2.2.2.2.2.1, u.2.2.2.2.2.2.2.2.2.2.2.2.2.2.2.2.2.2.1, v, u.2.2.2.2.2.2.2.2.2.2.2.2.2.2.2.2.2.2.2.2)
def ms20 (u : cM) (v : Nat → Int32) : cM := (u.1, u.2.1, u.2.2.1, u.2.2.2.1, u.2.2.2.2.1, u.2.2.2.2.2.1, u.2.2.2.2.2.2.1, u.2.2.2.2.2.2.2.1, u.2.2.2.2.2.2.2.2.1, u.2.2.2.2.2.2.2.2.2.1, u.2.2.2.2.2.2.2.2.2.2.1, u.2.2.2.2.2.2.2.2.2.2.2.1, u.2.2.2.2.2.2.2.2.2.2.2.2.1, u.2.2.2.2.2.2.2.2.2.2.2.2.2.1, u.2.2.2.2.2.2.2.2.2.2.2.2.2.2.1, u.2.2.2.2.2.2.2.2.2.2.2.2.2.2.2.1, u.2.2.2.2.2.2.2.2.2.2.2.2.2.2.2.2.1, u.2.2.2.2.2.2.2.2.2.2.2.2.2.2.2.2.2.1, u.2.2.2.2.2.2.2.2.2.2.2.2.2.2.2.2.2.2.1, u.2.2.2.2.2.2.2.2.2.2.2.2.2.2.2.2.2.2.2.1, v, u.2.2.2.2.2.2.2.2.2.2.2.2.2.2.2.2.2.2.2.2.2)
def ms21 (u : cM) (v : Nat → Int32) : cM := (u.1, u.2.1, u.2.2.1, u.2.2.2.1, u.2.2.2.2.1, u.2.2.2.2.2.1, u.2.2.2.2.2.2.1, u.2.2.2.2.2.2.2.1, u.2.2.2.2.2.2.2.2.1, u.2.2.2.2.2.2.2.2.2.1, u.2.2.2.2.2.2.2.2.2.2.1, u.2.2.2.2.2.2.2.2.2.2.2.1, u.2.2.2.2.2.2.2.2.2.2.2.2.1, u.2.2.2.2.2.2.2.2.2.2.2.2.2.1, u.2.2.2.2.2.2.2.2.2.2.2.2.2.2.1, u.2.2.2.2.2.2.2.2.2.2.2.2.2.2.2.1, u.2.2.2.2.2.2.2.2.2.2.2.2.2.2.2.2.1, u.2.2.2.2.2.2.2.2.2.2.2.2.2.2.2.2.2.1, u.2.2.2.2.2.2.2.2.2.2.2.2.2.2.2.2.2.2.1, u.2.2.2.2.2.2.2.2.2.2.2.2.2.2.2.2.2.2.2.1, u.2.2.2.2.2.2.2.2.2.2.2.2.2.2.2.2.2.2.2.2.1, v, u.2.2.2.2.2.2.2.2.2.2.2.2.2.2.2.2.2.2.2.2.2.2)
def ms22 (u : cM) (v : Int32) : cM := (u.1, u.2.1, u.2.2.1, u.2.2.2.1, u.2.2.2.2.1, u.2.2.2.2.2.1, u.2.2.2.2.2.2.1, u.2.2.2.2.2.2.2.1, u.2.2.2.2.2.2.2.2.1, u.2.2.2.2.2.2.2.2.2.1, u.2.2.2.2.2.2.2.2.2.2.1, u.2.2.2.2.2.2.2.2.2.2.2.1, u.2.2.2.2.2.2.2.2.2.2.2.2.1, u.2.2.2.2.2.2.2.2.2.2.2.2.2.1, u.2.2.2.2.2.2.2.2.2.2.2.2.2.2.1, u.2.2.2.2.2.2.2.2.2.2.2.2.2.2.2.1, u.2.2.2.2.2.2.2.2.2.2.2.2.2.2.2.2.1, u.2.2.2.2.2.2.2.2.2.2.2.2.2.2.2.2.2.1, u.2.2.2.2.2.2.2.2.2.2.2.2.2.2.2.2.2.2.1, u.2.2.2.2.2.2.2.2.2.2.2.2.2.2.2.2.2.2.2.1, u.2.2.2.2.2.2.2.2.2.2.2.2.2.2.2.2.2.2.2.2.1, u.2.2.2.2.2.2.2.2.2.2.2.2.2.2.2.2.2.2.2.2.2.1, v, u.2.2.2.2.2.2.2.2.2.2.2.2.2.2.2.2.2.2.2.2.2.2.2)
def ms23 (u : cM) (v : Int32) : cM := (u.1, u.2.1, u.2.2.1, u.2.2.2.1, u.2.2.2.2.1, u.2.2.2.2.2.1, u.2.2.2.2.2.2.1, u.2.2.2.2.2.2.2.1, u.2.2.2.2.2.2.2.2.1, u.2.2.2.2.2.2.2.2.2.1, u.2.2.2.2.2.2.2.2.2.2.1, u.2.2.2.2.2.2.2.2.2.2.2.1, u.2.2.2.2.2.2.2.2.2.2.2.2.1, u.2.2.2.2.2.2.2.2.2.2.2.2.2.1, u.2.2.2.2.2.2.2.2.2.2.2.2.2.2.1, u.2.2.2.2.2.2.2.2.2.2.2.2.2.2.2.1, u.2.2.2.2.2.2.2.2.2.2.2.2.2.2.2.2.1, u.2.2.2.2.2.2.2.2.2.2.2.2.2.2.2.2.2.1, u.2.2.2.2.2.2.2.2.2.2.2.2.2.2.2.2.2.2.1, u.2.2.2.2.2.2.2.2.2.2.2.2.2.2.2.2.2.2.2.1, u.2.2.2.2.2.2.2.2.2.2.2.2.2.2.2.2.2.2.2.2.1, u.2.2.2.2.2.2.2.2.2.2.2.2.2.2.2.2.2.2.2.2.2.1, u.2.2.2.2.2.2.2.2.2.2.2.2.2.2.2.2.2.2.2.2.2.2.1, v, u.2.2.2.2.2.2.2.2.2.2.2.2.2.2.2.2.2.2.2.2.2.2.2.2)
def ms24 (u : cM) (v : Nat → Int32) : cM := (u.1, u.2.1, u.2.2.1, u.2.2.2.1, u.2.2.2.2.1, u.2.2.2.2.2.1, u.2.2.2.2.2.2.1, u.2.2.2.2.2.2.2.1, u.2.2.2.2.2.2.2.2.1, u.2.2.2.2.2.2.2.2.2.1, u.2.2.2.2.2.2.2.2.2.2.1, u.2.2.2.2.2.2.2.2.2.2.2.1, u.2.2.2.2.2.2.2.2.2.2.2.2.1, u.2.2.2.2.2.2.2.2.2.2.2.2.2.1, u.2.2.2.2.2.2.2.2.2.2.2.2.2.2.1, u.2.2.2.2.2.2.2.2.2.2.2.2.2.2.2.1, u.2.2.2.2.2.2.2.2.2.2.2.2.2.2.2.2.1, u.2.2.2.2.2.2.2.2.2.2.2.2.2.2.2.2.2.1, u.2.2.2.2.2.2.2.2.2.2.2.2.2.2.2.2.2.2.1, u.2.2.2.2.2.2.2.2.2.2.2.2.2.2.2.2.2.2.2.1, u.2.2.2.2.2.2.2.2.2.2.2.2.2.2.2.2.2.2.2.2.1, u.2.2.2.2.2.2.2.2.2.2.2.2.2.2.2.2.2.2.2.2.2.1, u.2.2.2.2.2.2.2.2.2.2.2.2.2.2.2.2.2.2.2.2.2.2.1, u.2.2.2.2.2.2.2.2.2.2.2.2.2.2.2.2.2.2.2.2.2.2.2.1, v, u.2.2.2.2.2.2.2.2.2.2.2.2.2.2.2.2.2.2.2.2.2.2.2.2.2)
def ms25 (u : cM) (v : Nat → Int32) : cM := (u.1, u.2.1, u.2.2.1, u.2.2.2.1, u.2.2.2.2.1, u.2.2.2.2.2.1, u.2.2.2.2.2.2.1, u.2.2.2.2.2.2.2.1, u.2.2.2.2.2.2.2.2.1, u.2.2.2.2.2.2.2.2.2.1, u.2.2.2.2.2.2.2.2.2.2.1, u.2.2.2.2.2.2.2.2.2.2.2.1, u.2.2.2.2.2.2.2.2.2.2.2.2.1, u.2.2.2.2.2.2.2.2.2.2.2.2.2.1, u.2.2.2.2.2.2.2.2.2.2.2.2.2.2.1, u.2.2.2.2.2.2.2.2.2.2.2.2.2.2.2.1, u.2.2.2.2.2.2.2.2.2.2.2.2.2.2.2.2.1, u.2.2.2.2.2.2.2.2.2.2.2.2.2.2.2.2.2.1, u.2.2.2.2.2.2.2.2.2.2.2.2.2.2.2.2.2.2.1, u.2.2.2.2.2.2.2.2.2.2.2.2.2.2.2.2.2.2.2.1, u.2.2.2.2.2.2.2.2.2.2.2.2.2.2.2.2.2.2.2.2.1, u.2.2.2.2.2.2.2.2.2.2.2.2.2.2.2.2.2.2.2.2.2.1, u.2.2.2.2.2.2.2.2.2.2.2.2.2.2.2.2.2.2.2.2.2.2.1, u.2.2.2.2.2.2.2.2.2.2.2.2.2.2.2.2.2.2.2.2.2.2.2.1, u.2.2.2.2.2.2.2.2.2.2.2.2.2.2.2.2.2.2.2.2.2.2.2.2.1, v)
def wM (G : hk_G) (am : Nat → Nat) (u : cM) : va_W := [(am 0, .inr (5, [.int (mg0 u), .ref (am 1), .int (mg2 u), .int (mg3 u), .int (mg4 u), .int (mg5 u), .int (mg6 u), .ref (am 2), .ref (am 3), .ref (am 4), .ref (am 5), .int (mg11 u), .int (mg12 u), .int (mg13 u), .int (mg14 u), .ref (am 6), .ref (am 7), .ref (am 8), .int (mg18 u), .ref (am 9), .ref (am 10), .ref (am 11), .int (mg22 u), .int (mg23 u), .ref (am 12), .ref (am 13)])), (am 1, .inl (G.2.2 0, 9, .inl (mg1 u))), (am 2, .inl (G.2.2 1, 2, .inl (mg7 u))), (am 3, .inl (G.2.2 0, 2, .inl (mg8 u))), (am 4, .inl (G.2.2 0, 2, .inl (mg9 u))), (am 5, .inl (G.2.2 1, 6, .inl (mg10 u))), (am 6, .inl (G.2.2 0, 4, .inl (mg15 u))), (am 7, .inl (G.2.2 0, 4, .inl (mg16 u))), (am 8, .inl (G.2.2 1, 4, .inl (mg17 u))), (am 9, .inl (G.2.2 0, 13, .inl (mg19 u))), (am 10, .inl (G.2.2 1, 13, .inl (mg20 u))), (am 11, .inl (G.2.2 1, 13, .inl (mg21 u))), (am 12, .inl (G.2.2 0, 20, .inl (mg24 u))), (am 13, .inl (G.2.2 0, 10, .inl (mg25 u)))]
def m_M_thrown (u : cM) : Int32 := mg0 u
def m_M_within (p0 : Int32) (p1 : Int32) (p2 : Int32) : Int32 := if p0 < p1 then (0 : Int32) else (if p2 < p0 then (0 : Int32) else (1 : Int32))
def m_M_most (p0 : Int32) : Int32 := if p0 = 0 then (3 : Int32) else (if p0 = (4 : Int32) then (3 : Int32) else (if p0 = (1 : Int32) then (1000 : Int32) else (if p0 = (2 : Int32) then (2 : Int32) else (1 : Int32))))
def m_M_isWindow (p0 : Int32) : Int32 := m_M_within p0 (0 : Int32) (3 : Int32)
def m_M_period (p1 : Int32) (u : cM) : Int32 := if ((mg10 u) ((4 : Int32) + p1).toNatClampNeg) = 0 then (80 : Int32) else (40 : Int32)
def m_M_lit (p1 : Int32) (u : cM) : Int32 := if ((mg7 u) p1.toNatClampNeg) = 0 then (0 : Int32) else (if (m_M_period p1 u) ≤ ((2 : Int32) * ((mg8 u) p1.toNatClampNeg)) then (0 : Int32) else (1 : Int32))
def g_M_value_53_0_0 (p1 : Int32) (u : cM) : Int32 := if p1 = (0 : Int32) then (if ((mg1 u) 0) = (1 : Int32) then (1 : Int32) else (if (mg3 u) = 0 then (0 : Int32) else (1 : Int32))) else (if p1 = (1 : Int32) then (0 : Int32) else (if p1 = (2 : Int32) then (0 : Int32) else (if p1 = (3 : Int32) then m_M_lit (p1 - (3 : Int32)) u else (if p1 = (4 : Int32) then m_M_lit (p1 - (3 : Int32)) u else (if p1 = (5 : Int32) then mg13 u else (if p1 = (6 : Int32) then (mg1 u) 7 else (if p1 = (7 : Int32) then mg14 u else (if (mg4 u) = 0 then (0 : Int32) else m_M_lit (p1 - (8 : Int32)) u))))))))
def g_M_value_53_1_0 (p1 : Int32) (u : cM) : Int32 := if p1 = (0 : Int32) then (1 : Int32) else (if p1 = (1 : Int32) then (0 : Int32) else (if p1 = (2 : Int32) then (0 : Int32) else (if p1 = (3 : Int32) then m_M_lit (p1 - (3 : Int32)) u else (if p1 = (4 : Int32) then m_M_lit (p1 - (3 : Int32)) u else (if p1 = (5 : Int32) then mg13 u else (if p1 = (6 : Int32) then (mg1 u) 7 else (if p1 = (7 : Int32) then mg14 u else (if (mg4 u) = 0 then (0 : Int32) else m_M_lit (p1 - (8 : Int32)) u))))))))
def g_M_value_53_1_1 (p1 : Int32) (u : cM) : Int32 := if p1 = (0 : Int32) then (1 : Int32) else (if p1 = (1 : Int32) then (1 : Int32) else (if p1 = (2 : Int32) then (if ((mg1 u) 6) = (1 : Int32) then (1 : Int32) else (0 : Int32)) else (if p1 = (3 : Int32) then m_M_lit (p1 - (3 : Int32)) u else (if p1 = (4 : Int32) then m_M_lit (p1 - (3 : Int32)) u else (if p1 = (5 : Int32) then mg13 u else (if p1 = (6 : Int32) then (mg1 u) 7 else (if p1 = (7 : Int32) then mg14 u else (if (mg4 u) = 0 then (0 : Int32) else m_M_lit (p1 - (8 : Int32)) u))))))))
def m_M_value (p1 : Int32) (u : cM) : Int32 := if ((mg1 u) 0) = (2 : Int32) then (if ((mg1 u) 5) = (1 : Int32) then (g_M_value_53_1_1 p1 u) else (g_M_value_53_1_0 p1 u)) else (if ((mg1 u) 0) = (3 : Int32) then (if (mg2 u) = 0 then (g_M_value_53_0_0 p1 u) else (if ((mg1 u) 5) = (1 : Int32) then (g_M_value_53_1_1 p1 u) else (g_M_value_53_1_0 p1 u))) else (g_M_value_53_0_0 p1 u))
def f_M_layBy_18 (k : Nat) (u : cM) : cM := ms25 u (upd (mg25 u) k (m_M_value (nI k) u))
def lb_M_layBy_2 (k : Nat) (u : cM) : cM := (f_M_layBy_18 k u)
def li_M_layBy_2 (u : cM) : Nat → cM
  | 0 => u
  | k + 1 => lb_M_layBy_2 k (li_M_layBy_2 u k)
def m_M_layBy (u : cM) : cM := (li_M_layBy_2 u 10)
def lb_M_others_4 (u : cM) (k : Nat) (x : Int32) : Int32 := if ((mg25 u) k) = (m_M_value (nI k) u) then x + (0 : Int32) else x + (1 : Int32)
def li_M_others_4 (u : cM) : Nat → Int32
  | 0 => 0
  | k + 1 => lb_M_others_4 u k (li_M_others_4 u k)
def m_M_others (u : cM) : Int32 := li_M_others_4 u 10
def m_M_isWanted (p1 : Int32) (u : cM) : Int32 := if ((mg1 u) 3) = (1 : Int32) then (1 : Int32) else (if (mg3 u) = 0 then (if ((mg1 u) 2) = (p1 + (1 : Int32)) then (1 : Int32) else (0 : Int32)) else (1 : Int32))
def f_M_begin_30 (u : cM) : cM := ms7 u (upd (mg7 u) 1 (1 : Int32))
def f_M_begin_37 (u : cM) : cM := ms8 u (upd (mg8 u) 1 (0 : Int32))
def f_M_begin_44 (u : cM) : cM := ms9 u (upd (mg9 u) 1 (0 : Int32))
def f_M_begin_30_1 (u : cM) : cM := ms7 u (upd (mg7 u) 0 (1 : Int32))
def f_M_begin_37_1 (u : cM) : cM := ms8 u (upd (mg8 u) 0 (0 : Int32))
def f_M_begin_44_1 (u : cM) : cM := ms9 u (upd (mg9 u) 0 (0 : Int32))
def m_M_begin (u : cM) : cM := if (m_M_isWanted (0 : Int32) u) = 0 then (if (m_M_isWanted (1 : Int32) u) = 0 then u else (if ((mg7 u) 1) = 0 then (f_M_begin_44 (f_M_begin_37 (f_M_begin_30 u))) else u)) else (if ((mg7 u) 0) = 0 then (if (m_M_isWanted (1 : Int32) (f_M_begin_44_1 (f_M_begin_37_1 (f_M_begin_30_1 u)))) = 0 then (f_M_begin_44_1 (f_M_begin_37_1 (f_M_begin_30_1 u))) else (if ((mg7 (f_M_begin_44_1 (f_M_begin_37_1 (f_M_begin_30_1 u)))) 1) = 0 then (f_M_begin_44 (f_M_begin_37 (f_M_begin_30 (f_M_begin_44_1 (f_M_begin_37_1 (f_M_begin_30_1 u)))))) else (f_M_begin_44_1 (f_M_begin_37_1 (f_M_begin_30_1 u))))) else (if (m_M_isWanted (1 : Int32) u) = 0 then u else (if ((mg7 u) 1) = 0 then (f_M_begin_44 (f_M_begin_37 (f_M_begin_30 u))) else u)))
def f_M_tickSide_19 (p1 : Int32) (u : cM) : cM := ms8 u (upd (mg8 u) p1.toNatClampNeg (((mg8 u) p1.toNatClampNeg) + (1 : Int32)))
def f_M_tickSide_41 (p1 : Int32) (u : cM) : cM := ms8 u (upd (mg8 u) p1.toNatClampNeg (0 : Int32))
def f_M_tickSide_51 (p1 : Int32) (u : cM) : cM := ms9 u (upd (mg9 u) p1.toNatClampNeg (((mg9 u) p1.toNatClampNeg) + (1 : Int32)))
def f_M_tickSide_80 (p1 : Int32) (u : cM) : cM := ms7 u (upd (mg7 u) p1.toNatClampNeg (0 : Int32))
def f_M_tickSide_80_1 (p1 : Int32) (u : cM) : cM := ms7 u (upd (mg7 u) p1.toNatClampNeg (1 : Int32))
def m_M_tickSide (p1 : Int32) (u : cM) : cM := if ((mg7 u) p1.toNatClampNeg) = 0 then u else (if (m_M_period p1 (f_M_tickSide_19 p1 u)) ≤ ((mg8 (f_M_tickSide_19 p1 u)) p1.toNatClampNeg) then (if (m_M_isWanted p1 (f_M_tickSide_51 p1 (f_M_tickSide_41 p1 (f_M_tickSide_19 p1 u)))) = 0 then (if (3 : Int32) ≤ ((mg9 (f_M_tickSide_51 p1 (f_M_tickSide_41 p1 (f_M_tickSide_19 p1 u)))) p1.toNatClampNeg) then (f_M_tickSide_80 p1 (f_M_tickSide_51 p1 (f_M_tickSide_41 p1 (f_M_tickSide_19 p1 u)))) else (f_M_tickSide_80_1 p1 (f_M_tickSide_51 p1 (f_M_tickSide_41 p1 (f_M_tickSide_19 p1 u))))) else (f_M_tickSide_80_1 p1 (f_M_tickSide_51 p1 (f_M_tickSide_41 p1 (f_M_tickSide_19 p1 u))))) else (f_M_tickSide_19 p1 u))
def m_M_speed (u : cM) : Int32 := if ((mg1 u) 5) = 0 then (0 : Int32) else (if ((mg1 u) 4) = (1 : Int32) then (if (mg5 u) = 0 then (0 : Int32) else (if (8 : Int32) ≤ (mg5 u) then (2 : Int32) else (1 : Int32))) else (if ((mg1 u) 4) = 0 then (0 : Int32) else ((mg1 u) 4) - (1 : Int32)))
def f_M_tickWiper_7 (u : cM) : cM := ms13 u (0 : Int32)
def f_M_tickWiper_23 (u : cM) : cM := ms12 u (0 : Int32)
def f_M_tickWiper_62 (u : cM) : cM := ms13 u (1 : Int32)
def f_M_tickWiper_62_1 (zs : Int32) (u : cM) : cM := ms13 u zs
def f_M_tickWiper_48 (u : cM) : cM := ms12 u ((mg12 u) - (1 : Int32))
def f_M_tickWiper_75 (u : cM) : cM := ms11 u ((mg11 u) + (mg13 u))
def f_M_tickWiper_90 (u : cM) : cM := ms11 u (0 : Int32)
def f_M_tickWiper_127 (u : cM) : cM := ms12 u ((400 : Int32) - ((80 : Int32) * (mg5 u)))
def g_M_tickWiper_65 (u : cM) : cM := if (100 : Int32) ≤ (mg11 (f_M_tickWiper_75 u)) then (if ((mg1 (f_M_tickWiper_90 (f_M_tickWiper_75 u))) 4) = (1 : Int32) then (if (m_M_within (mg5 (f_M_tickWiper_90 (f_M_tickWiper_75 u))) (1 : Int32) (4 : Int32)) = 0 then (f_M_tickWiper_90 (f_M_tickWiper_75 u)) else (f_M_tickWiper_127 (f_M_tickWiper_90 (f_M_tickWiper_75 u)))) else (f_M_tickWiper_90 (f_M_tickWiper_75 u))) else (f_M_tickWiper_75 u)
def g_M_tickWiper_5 (zs : Int32) (u : cM) : cM := if (mg11 (f_M_tickWiper_7 u)) = 0 then (if zs = 0 then (f_M_tickWiper_23 (f_M_tickWiper_7 u)) else (if (mg11 (f_M_tickWiper_7 u)) = 0 then (if (mg12 (f_M_tickWiper_7 u)) ≤ 0 then (if zs = 0 then (g_M_tickWiper_65 (f_M_tickWiper_62 (f_M_tickWiper_7 u))) else (g_M_tickWiper_65 (f_M_tickWiper_62_1 zs (f_M_tickWiper_7 u)))) else (f_M_tickWiper_48 (f_M_tickWiper_7 u))) else (if zs = 0 then (g_M_tickWiper_65 (f_M_tickWiper_62 (f_M_tickWiper_7 u))) else (g_M_tickWiper_65 (f_M_tickWiper_62_1 zs (f_M_tickWiper_7 u)))))) else (if (mg11 (f_M_tickWiper_7 u)) = 0 then (if (mg12 (f_M_tickWiper_7 u)) ≤ 0 then (if zs = 0 then (g_M_tickWiper_65 (f_M_tickWiper_62 (f_M_tickWiper_7 u))) else (g_M_tickWiper_65 (f_M_tickWiper_62_1 zs (f_M_tickWiper_7 u)))) else (f_M_tickWiper_48 (f_M_tickWiper_7 u))) else (if zs = 0 then (g_M_tickWiper_65 (f_M_tickWiper_62 (f_M_tickWiper_7 u))) else (g_M_tickWiper_65 (f_M_tickWiper_62_1 zs (f_M_tickWiper_7 u)))))
def m_M_tickWiper (u : cM) : cM := (g_M_tickWiper_5 (m_M_speed u) u)
def f_M_tickWindow_58 (p1 : Int32) (u : cM) : cM := ms15 u (upd (mg15 u) p1.toNatClampNeg (((mg15 u) p1.toNatClampNeg) + (((mg16 u) p1.toNatClampNeg) - ((mg15 u) p1.toNatClampNeg))))
def f_M_tickWindow_58_1 (p1 : Int32) (u : cM) : cM := ms15 u (upd (mg15 u) p1.toNatClampNeg (((mg15 u) p1.toNatClampNeg) + (-(1 : Int32))))
def f_M_tickWindow_58_2 (p1 : Int32) (u : cM) : cM := ms15 u (upd (mg15 u) p1.toNatClampNeg (((mg15 u) p1.toNatClampNeg) + (1 : Int32)))
def f_M_tickWindow_58_3 (p1 : Int32) (u : cM) : cM := ms15 u (upd (mg15 u) p1.toNatClampNeg (((mg15 u) p1.toNatClampNeg) + (-(2 : Int32))))
def f_M_tickWindow_58_4 (p1 : Int32) (u : cM) : cM := ms15 u (upd (mg15 u) p1.toNatClampNeg (((mg15 u) p1.toNatClampNeg) + (2 : Int32)))
def m_M_tickWindow (p1 : Int32) (u : cM) : cM := if ((mg17 u) p1.toNatClampNeg) = 0 then (if (((mg16 u) p1.toNatClampNeg) - ((mg15 u) p1.toNatClampNeg)) ≤ (1 : Int32) then (if (-(1 : Int32)) ≤ (((mg16 u) p1.toNatClampNeg) - ((mg15 u) p1.toNatClampNeg)) then (f_M_tickWindow_58 p1 u) else (f_M_tickWindow_58_1 p1 u)) else (f_M_tickWindow_58_2 p1 u)) else (if (((mg16 u) p1.toNatClampNeg) - ((mg15 u) p1.toNatClampNeg)) ≤ (2 : Int32) then (if (-(2 : Int32)) ≤ (((mg16 u) p1.toNatClampNeg) - ((mg15 u) p1.toNatClampNeg)) then (f_M_tickWindow_58 p1 u) else (f_M_tickWindow_58_3 p1 u)) else (f_M_tickWindow_58_4 p1 u))
def f_M_tick_7 (u : cM) : cM := ms6 u ((mg6 u) + (1 : Int32))
def f_M_tick_87 (u : cM) : cM := ms14 u ((mg14 u) + (0 : Int32))
def f_M_tick_87_1 (u : cM) : cM := ms14 u ((mg14 u) + (1 : Int32))
def f_M_tick_87_2 (u : cM) : cM := ms14 u ((mg14 u) + (-1 : Int32))
def g_M_tick_92_4 (u : cM) : cM := u
def g_M_tick_92_3 (u : cM) : cM := (g_M_tick_92_4 (m_M_tickWindow (3 : Int32) u))
def g_M_tick_92_2 (u : cM) : cM := (g_M_tick_92_3 (m_M_tickWindow (2 : Int32) u))
def g_M_tick_92_1 (u : cM) : cM := (g_M_tick_92_2 (m_M_tickWindow (1 : Int32) u))
def g_M_tick_92_0 (u : cM) : cM := (g_M_tick_92_1 (m_M_tickWindow (0 : Int32) u))
def g_M_tick_90 (u : cM) : cM := (g_M_tick_92_0 u)
def g_M_tick_48_0 (u : cM) : cM := if (mg14 u) ≤ 0 then (g_M_tick_90 (f_M_tick_87 u)) else (g_M_tick_90 (f_M_tick_87_2 u))
def g_M_tick_48_1 (u : cM) : cM := if (100 : Int32) ≤ (mg14 u) then (g_M_tick_90 (f_M_tick_87 u)) else (g_M_tick_90 (f_M_tick_87_1 u))
def m_M_tick (u : cM) : cM := if ((mg1 (m_M_tickWiper (m_M_tickSide (1 : Int32) (m_M_tickSide (0 : Int32) (f_M_tick_7 u))))) 8) = (1 : Int32) then (g_M_tick_48_1 (m_M_tickWiper (m_M_tickSide (1 : Int32) (m_M_tickSide (0 : Int32) (f_M_tick_7 u))))) else (if (mg3 (m_M_tickWiper (m_M_tickSide (1 : Int32) (m_M_tickSide (0 : Int32) (f_M_tick_7 u))))) = 0 then (g_M_tick_48_0 (m_M_tickWiper (m_M_tickSide (1 : Int32) (m_M_tickSide (0 : Int32) (f_M_tick_7 u))))) else (g_M_tick_48_1 (m_M_tickWiper (m_M_tickSide (1 : Int32) (m_M_tickSide (0 : Int32) (f_M_tick_7 u))))))
def f_M_input_2 (u : cM) : cM := ms0 u (0 : Int32)
def f_M_input_42 (p1 : Int32) (p2 : Int32) (u : cM) : cM := ms1 u (upd (mg1 u) p1.toNatClampNeg p2)
def f_M_input_75 (u : cM) : cM := ms2 u (1 : Int32)
def f_M_input_75_1 (u : cM) : cM := ms2 u (0 : Int32)
def f_M_input_125 (u : cM) : cM := ms7 u (upd (mg7 u) 1 (0 : Int32))
def f_M_input_125_1 (u : cM) : cM := ms7 u (upd (mg7 u) 1 (1 : Int32))
def f_M_input_125_2 (u : cM) : cM := ms7 u (upd (mg7 u) 0 (0 : Int32))
def f_M_input_125_3 (u : cM) : cM := ms7 u (upd (mg7 u) 0 (1 : Int32))
def g_M_input_126 (p1 : Int32) (p2 : Int32) (u : cM) : Int32 × cM := (m_M_others (m_M_begin u), (m_M_begin u))
def g_M_input_78 (p1 : Int32) (p2 : Int32) (u : cM) : Int32 × cM := if p1 = (2 : Int32) then (if p2 ≤ 0 then (g_M_input_126 p1 p2 u) else (if p2 = (1 : Int32) then (if ((mg7 u) 1) = 0 then (g_M_input_126 p1 p2 (f_M_input_125 u)) else (if (m_M_isWanted (1 : Int32) u) = 0 then (g_M_input_126 p1 p2 (f_M_input_125 u)) else (g_M_input_126 p1 p2 (f_M_input_125_1 u)))) else (if ((mg7 u) 0) = 0 then (g_M_input_126 p1 p2 (f_M_input_125_2 u)) else (if (m_M_isWanted (0 : Int32) u) = 0 then (g_M_input_126 p1 p2 (f_M_input_125_2 u)) else (g_M_input_126 p1 p2 (f_M_input_125_3 u)))))) else (g_M_input_126 p1 p2 u)
def m_M_input (p1 : Int32) (p2 : Int32) (u : cM) : Int32 × cM := if (m_M_within p1 (0 : Int32) (8 : Int32)) = 0 then ((-1 : Int32), (f_M_input_2 u)) else (if (m_M_within p2 (0 : Int32) (m_M_most p1)) = 0 then ((-2 : Int32), (f_M_input_2 u)) else (if p1 = (1 : Int32) then (if p2 < (200 : Int32) then (g_M_input_78 p1 p2 (f_M_input_75 (f_M_input_42 p1 p2 (m_M_layBy (f_M_input_2 u))))) else (if (mg2 (f_M_input_42 p1 p2 (m_M_layBy (f_M_input_2 u)))) = 0 then (g_M_input_78 p1 p2 (f_M_input_75_1 (f_M_input_42 p1 p2 (m_M_layBy (f_M_input_2 u))))) else (if (400 : Int32) < p2 then (g_M_input_78 p1 p2 (f_M_input_75_1 (f_M_input_42 p1 p2 (m_M_layBy (f_M_input_2 u))))) else (g_M_input_78 p1 p2 (f_M_input_75 (f_M_input_42 p1 p2 (m_M_layBy (f_M_input_2 u)))))))) else (g_M_input_78 p1 p2 (f_M_input_42 p1 p2 (m_M_layBy (f_M_input_2 u))))))
def f_M_output_16 (u : cM) : cM := ms0 u (1 : Int32)
def f_M_output_16_1 (u : cM) : cM := ms0 u (0 : Int32)
def m_M_output (p1 : Int32) (u : cM) : Int32 × cM := if (m_M_within p1 (0 : Int32) (9 : Int32)) = 0 then (if (mg0 (f_M_output_16 u)) ≤ 0 then (m_M_value p1 (f_M_output_16 u), (f_M_output_16 u)) else ((0 : Int32), (f_M_output_16 u))) else (if (mg0 (f_M_output_16_1 u)) ≤ 0 then (m_M_value p1 (f_M_output_16_1 u), (f_M_output_16_1 u)) else ((0 : Int32), (f_M_output_16_1 u)))
def lb_M_step_25 (p1 : Int32) (k : Nat) (u : cM) : cM := (m_M_tick u)
def li_M_step_25 (p1 : Int32) (u : cM) : Nat → cM
  | 0 => u
  | k + 1 => lb_M_step_25 p1 k (li_M_step_25 p1 u k)
def f_M_step_2 (u : cM) : cM := ms0 u (0 : Int32)
def m_M_step (p1 : Int32) (u : cM) : Int32 × cM := if (m_M_within p1 (0 : Int32) (1000 : Int32)) = 0 then ((-2 : Int32), (f_M_step_2 u)) else (m_M_others (li_M_step_25 p1 (m_M_layBy (f_M_step_2 u)) p1.toNatClampNeg), (li_M_step_25 p1 (m_M_layBy (f_M_step_2 u)) p1.toNatClampNeg))
def f_M_pinch_2 (u : cM) : cM := ms0 u (0 : Int32)
def f_M_pinch_80 (p1 : Int32) (u : cM) : cM := ms16 u (upd (mg16 u) p1.toNatClampNeg (0 : Int32))
def f_M_pinch_80_1 (p1 : Int32) (u : cM) : cM := ms16 u (upd (mg16 u) p1.toNatClampNeg (((mg15 u) p1.toNatClampNeg) - (60 : Int32)))
def m_M_pinch (p1 : Int32) (p2 : Int32) (u : cM) : Int32 × cM := if (m_M_isWindow p1) = 0 then ((-1 : Int32), (f_M_pinch_2 u)) else (if (m_M_within p2 (0 : Int32) (1000 : Int32)) = 0 then ((-2 : Int32), (f_M_pinch_2 u)) else (if ((mg16 (f_M_pinch_2 u)) p1.toNatClampNeg) ≤ ((mg15 (f_M_pinch_2 u)) p1.toNatClampNeg) then ((0 : Int32), (f_M_pinch_2 u)) else (if (100 : Int32) < p2 then (if ((mg15 (f_M_pinch_2 u)) p1.toNatClampNeg) ≤ (60 : Int32) then ((1 : Int32), (f_M_pinch_80 p1 (f_M_pinch_2 u))) else ((1 : Int32), (f_M_pinch_80_1 p1 (f_M_pinch_2 u)))) else ((0 : Int32), (f_M_pinch_2 u)))))
def f_M_learn_2 (u : cM) : cM := ms0 u (0 : Int32)
def f_M_learn_79 (p1 : Int32) (u : cM) : cM := ms17 u (upd (mg17 u) p1.toNatClampNeg (1 : Int32))
def f_M_learn_79_1 (p1 : Int32) (u : cM) : cM := ms17 u (upd (mg17 u) p1.toNatClampNeg (0 : Int32))
def m_M_learn (p1 : Int32) (u : cM) : Int32 × cM := if (m_M_isWindow p1) = 0 then ((-1 : Int32), (f_M_learn_2 u)) else (if ((mg15 (f_M_learn_2 u)) p1.toNatClampNeg) = ((mg16 (f_M_learn_2 u)) p1.toNatClampNeg) then (if ((mg15 (f_M_learn_2 u)) p1.toNatClampNeg) = 0 then (if ((mg17 (f_M_learn_2 u)) p1.toNatClampNeg) = 0 then ((1 : Int32), (f_M_learn_79 p1 (f_M_learn_2 u))) else ((1 : Int32), (f_M_learn_79 p1 (f_M_learn_2 u)))) else (if ((mg15 (f_M_learn_2 u)) p1.toNatClampNeg) = (200 : Int32) then (if ((mg17 (f_M_learn_2 u)) p1.toNatClampNeg) = 0 then ((1 : Int32), (f_M_learn_79 p1 (f_M_learn_2 u))) else ((1 : Int32), (f_M_learn_79 p1 (f_M_learn_2 u)))) else (if ((mg17 (f_M_learn_2 u)) p1.toNatClampNeg) = 0 then ((0 : Int32), (f_M_learn_79_1 p1 (f_M_learn_2 u))) else ((0 : Int32), (f_M_learn_79 p1 (f_M_learn_2 u)))))) else (if ((mg17 (f_M_learn_2 u)) p1.toNatClampNeg) = 0 then ((0 : Int32), (f_M_learn_79_1 p1 (f_M_learn_2 u))) else ((0 : Int32), (f_M_learn_79 p1 (f_M_learn_2 u)))))
def f_M_window_2 (u : cM) : cM := ms0 u (0 : Int32)
def f_M_window_34 (p1 : Int32) (p2 : Int32) (u : cM) : cM := ms16 u (upd (mg16 u) p1.toNatClampNeg p2)
def m_M_window (p1 : Int32) (p2 : Int32) (u : cM) : Int32 × cM := if (m_M_isWindow p1) = 0 then ((-1 : Int32), (f_M_window_2 u)) else (if (m_M_within p2 (0 : Int32) (200 : Int32)) = 0 then ((-2 : Int32), (f_M_window_2 u)) else (if p2 ≤ ((mg15 (f_M_window_34 p1 p2 (f_M_window_2 u))) p1.toNatClampNeg) then (if ((mg17 (f_M_window_34 p1 p2 (f_M_window_2 u))) p1.toNatClampNeg) = 0 then (((mg15 (f_M_window_34 p1 p2 (f_M_window_2 u))) p1.toNatClampNeg) - p2, (f_M_window_34 p1 p2 (f_M_window_2 u))) else (((((mg15 (f_M_window_34 p1 p2 (f_M_window_2 u))) p1.toNatClampNeg) - p2) + (1 : Int32)) / (2 : Int32), (f_M_window_34 p1 p2 (f_M_window_2 u)))) else (if ((mg17 (f_M_window_34 p1 p2 (f_M_window_2 u))) p1.toNatClampNeg) = 0 then (p2 - ((mg15 (f_M_window_34 p1 p2 (f_M_window_2 u))) p1.toNatClampNeg), (f_M_window_34 p1 p2 (f_M_window_2 u))) else (((p2 - ((mg15 (f_M_window_34 p1 p2 (f_M_window_2 u))) p1.toNatClampNeg)) + (1 : Int32)) / (2 : Int32), (f_M_window_34 p1 p2 (f_M_window_2 u))))))
def f_M_load_2 (u : cM) : cM := ms0 u (0 : Int32)
def f_M_load_37 (u : cM) : cM := ms18 u ((mg18 u) + (1 : Int32))
def f_M_load_49 (p1 : Int32) (u : cM) : cM := ms19 u (upd (mg19 u) (mg18 u).toNatClampNeg p1)
def f_M_load_59 (p2 : Int32) (u : cM) : cM := ms20 u (upd (mg20 u) (mg18 u).toNatClampNeg p2)
def m_M_load (p1 : Int32) (p2 : Int32) (u : cM) : Int32 × cM := if (m_M_within p1 (0 : Int32) (9 : Int32)) = 0 then ((-2 : Int32), (f_M_load_2 u)) else (if (mg18 (f_M_load_2 u)) = (12 : Int32) then ((-4 : Int32), (f_M_load_2 u)) else (mg18 (f_M_load_59 p2 (f_M_load_49 p1 (f_M_load_37 (f_M_load_2 u)))), (f_M_load_59 p2 (f_M_load_49 p1 (f_M_load_37 (f_M_load_2 u))))))
def f_M_isOn_2 (u : cM) : cM := ms0 u (0 : Int32)
def m_M_isOn (p1 : Int32) (u : cM) : Int32 × cM := if (m_M_within p1 (1 : Int32) (mg18 (f_M_isOn_2 u))) = 0 then ((-1 : Int32), (f_M_isOn_2 u)) else (if ((mg21 (f_M_isOn_2 u)) p1.toNatClampNeg) = 0 then ((1 : Int32), (f_M_isOn_2 u)) else ((0 : Int32), (f_M_isOn_2 u)))
def lb_M_putOff_4 (u : cM) (k : Nat) (x : Int32) : Int32 := if ((mg21 u) (k + 1)) = 0 then (if ((mg20 u) (k + 1)) = 0 then (if x = 0 then nI (k + 1) else (if ((mg19 u) (k + 1)) < ((mg19 u) x.toNatClampNeg) then x else nI (k + 1))) else x) else x
def li_M_putOff_4 (u : cM) : Nat → Int32
  | 0 => 0
  | k + 1 => lb_M_putOff_4 u k (li_M_putOff_4 u k)
def f_M_putOff_71 (u : cM) : cM := ms21 u (upd (mg21 u) (li_M_putOff_4 u ((mg18 u).toNatClampNeg)).toNatClampNeg (0 : Int32))
def f_M_putOff_71_1 (u : cM) : cM := ms21 u (upd (mg21 u) (li_M_putOff_4 u ((mg18 u).toNatClampNeg)).toNatClampNeg (1 : Int32))
def m_M_putOff (u : cM) : cM := if (li_M_putOff_4 u ((mg18 u).toNatClampNeg)) ≤ 0 then (f_M_putOff_71 u) else (f_M_putOff_71_1 u)
def lb_M_putOn_4 (u : cM) (k : Nat) (x : Int32) : Int32 := if ((mg21 u) (k + 1)) = 0 then x else (if x = 0 then nI (k + 1) else (if ((mg19 u) x.toNatClampNeg) ≤ ((mg19 u) (k + 1)) then x else nI (k + 1)))
def li_M_putOn_4 (u : cM) : Nat → Int32
  | 0 => 0
  | k + 1 => lb_M_putOn_4 u k (li_M_putOn_4 u k)
def f_M_putOn_54 (u : cM) : cM := ms21 u (upd (mg21 u) (li_M_putOn_4 u ((mg18 u).toNatClampNeg)).toNatClampNeg (0 : Int32))
def m_M_putOn (u : cM) : cM := (f_M_putOn_54 u)
def lb_M_shed_99 (p1 : Int32) (u : cM) (k : Nat) (x : Int32) : Int32 := if ((mg21 u) (k + 1)) = 0 then x + (0 : Int32) else x + (1 : Int32)
def li_M_shed_99 (p1 : Int32) (u : cM) : Nat → Int32
  | 0 => 0
  | k + 1 => lb_M_shed_99 p1 u k (li_M_shed_99 p1 u k)
def f_M_shed_2 (u : cM) : cM := ms0 u (0 : Int32)
def f_M_shed_37 (u : cM) : cM := ms22 u (0 : Int32)
def f_M_shed_37_1 (u : cM) : cM := ms22 u ((mg22 u) + (1 : Int32))
def f_M_shed_58 (u : cM) : cM := ms23 u (0 : Int32)
def f_M_shed_58_1 (u : cM) : cM := ms23 u ((mg23 u) + (1 : Int32))
def f_M_shed_75 (u : cM) : cM := ms22 u (0 : Int32)
def f_M_shed_92 (u : cM) : cM := ms23 u (0 : Int32)
def g_M_shed_95 (p1 : Int32) (u : cM) : Int32 × cM := (li_M_shed_99 p1 u ((mg18 u).toNatClampNeg), u)
def g_M_shed_78 (p1 : Int32) (u : cM) : Int32 × cM := if (mg23 u) = (3 : Int32) then (g_M_shed_95 p1 (f_M_shed_92 (m_M_putOn u))) else (g_M_shed_95 p1 u)
def g_M_shed_61 (p1 : Int32) (u : cM) : Int32 × cM := if (mg22 u) = (3 : Int32) then (g_M_shed_78 p1 (f_M_shed_75 (m_M_putOff u))) else (g_M_shed_78 p1 u)
def g_M_shed_40 (p1 : Int32) (u : cM) : Int32 × cM := if p1 ≤ (12500 : Int32) then (g_M_shed_61 p1 (f_M_shed_58 u)) else (g_M_shed_61 p1 (f_M_shed_58_1 u))
def m_M_shed (p1 : Int32) (u : cM) : Int32 × cM := if (m_M_within p1 (0 : Int32) (20000 : Int32)) = 0 then ((-2 : Int32), (f_M_shed_2 u)) else (if (11500 : Int32) ≤ p1 then (g_M_shed_40 p1 (f_M_shed_37 (f_M_shed_2 u))) else (g_M_shed_40 p1 (f_M_shed_37_1 (f_M_shed_2 u))))
def f_M_bulb_2 (u : cM) : cM := ms0 u (0 : Int32)
def f_M_bulb_30 (p1 : Int32) (u : cM) : cM := ms10 u (upd (mg10 u) p1.toNatClampNeg (1 : Int32))
def f_M_bulb_30_1 (p1 : Int32) (u : cM) : cM := ms10 u (upd (mg10 u) p1.toNatClampNeg (0 : Int32))
def m_M_bulb (p1 : Int32) (p2 : Int32) (u : cM) : Int32 × cM := if (m_M_within p1 (0 : Int32) (5 : Int32)) = 0 then ((-1 : Int32), (f_M_bulb_2 u)) else (if p2 = 0 then (if p1 ≤ (3 : Int32) then (if (p1 - p1 / (2 : Int32) * (2 : Int32)) = 0 then (if p2 = 0 then (if ((mg10 (f_M_bulb_30 p1 (f_M_bulb_2 u))) (p1 + (1 : Int32)).toNatClampNeg) = 0 then ((p1 + (1 : Int32)) + (1 : Int32), (f_M_bulb_30 p1 (f_M_bulb_2 u))) else ((0 : Int32), (f_M_bulb_30 p1 (f_M_bulb_2 u)))) else ((0 : Int32), (f_M_bulb_30 p1 (f_M_bulb_2 u)))) else (if p2 = 0 then (if ((mg10 (f_M_bulb_30 p1 (f_M_bulb_2 u))) (p1 - (1 : Int32)).toNatClampNeg) = 0 then ((p1 - (1 : Int32)) + (1 : Int32), (f_M_bulb_30 p1 (f_M_bulb_2 u))) else ((0 : Int32), (f_M_bulb_30 p1 (f_M_bulb_2 u)))) else ((0 : Int32), (f_M_bulb_30 p1 (f_M_bulb_2 u))))) else (if p2 = 0 then (if ((mg10 (f_M_bulb_30 p1 (f_M_bulb_2 u))) (p1 - (4 : Int32)).toNatClampNeg) = 0 then ((p1 - (4 : Int32)) + (1 : Int32), (f_M_bulb_30 p1 (f_M_bulb_2 u))) else ((0 : Int32), (f_M_bulb_30 p1 (f_M_bulb_2 u)))) else ((0 : Int32), (f_M_bulb_30 p1 (f_M_bulb_2 u))))) else (if p1 ≤ (3 : Int32) then (if (p1 - p1 / (2 : Int32) * (2 : Int32)) = 0 then (if p2 = 0 then (if ((mg10 (f_M_bulb_30_1 p1 (f_M_bulb_2 u))) (p1 + (1 : Int32)).toNatClampNeg) = 0 then ((p1 + (1 : Int32)) + (1 : Int32), (f_M_bulb_30_1 p1 (f_M_bulb_2 u))) else ((0 : Int32), (f_M_bulb_30_1 p1 (f_M_bulb_2 u)))) else ((0 : Int32), (f_M_bulb_30_1 p1 (f_M_bulb_2 u)))) else (if p2 = 0 then (if ((mg10 (f_M_bulb_30_1 p1 (f_M_bulb_2 u))) (p1 - (1 : Int32)).toNatClampNeg) = 0 then ((p1 - (1 : Int32)) + (1 : Int32), (f_M_bulb_30_1 p1 (f_M_bulb_2 u))) else ((0 : Int32), (f_M_bulb_30_1 p1 (f_M_bulb_2 u)))) else ((0 : Int32), (f_M_bulb_30_1 p1 (f_M_bulb_2 u))))) else (if p2 = 0 then (if ((mg10 (f_M_bulb_30_1 p1 (f_M_bulb_2 u))) (p1 - (4 : Int32)).toNatClampNeg) = 0 then ((p1 - (4 : Int32)) + (1 : Int32), (f_M_bulb_30_1 p1 (f_M_bulb_2 u))) else ((0 : Int32), (f_M_bulb_30_1 p1 (f_M_bulb_2 u)))) else ((0 : Int32), (f_M_bulb_30_1 p1 (f_M_bulb_2 u))))))
def f_M_rain_2 (u : cM) : cM := ms0 u (0 : Int32)
def f_M_rain_25 (p1 : Int32) (u : cM) : cM := ms5 u p1
def m_M_rain (p1 : Int32) (u : cM) : Int32 × cM := if (m_M_within p1 (0 : Int32) (9 : Int32)) = 0 then ((-2 : Int32), (f_M_rain_2 u)) else (mg5 (f_M_rain_2 u), (f_M_rain_25 p1 (f_M_rain_2 u)))
def f_M_crash_2 (u : cM) : cM := ms0 u (0 : Int32)
def f_M_crash_21 (u : cM) : cM := ms3 u (1 : Int32)
def f_M_crash_37 (u : cM) : cM := ms16 u (upd (mg16 u) 0 (0 : Int32))
def f_M_crash_37_1 (u : cM) : cM := ms16 u (upd (mg16 u) 1 (0 : Int32))
def f_M_crash_37_2 (u : cM) : cM := ms16 u (upd (mg16 u) 2 (0 : Int32))
def f_M_crash_37_3 (u : cM) : cM := ms16 u (upd (mg16 u) 3 (0 : Int32))
def m_M_crash (u : cM) : Int32 × cM := if (mg3 (f_M_crash_2 u)) = 0 then (m_M_others (m_M_begin (f_M_crash_37_3 (f_M_crash_37_2 (f_M_crash_37_1 (f_M_crash_37 (f_M_crash_21 (m_M_layBy (f_M_crash_2 u)))))))), (m_M_begin (f_M_crash_37_3 (f_M_crash_37_2 (f_M_crash_37_1 (f_M_crash_37 (f_M_crash_21 (m_M_layBy (f_M_crash_2 u))))))))) else ((-3 : Int32), (f_M_crash_2 u))
def f_M_memory_2 (u : cM) : cM := ms0 u (0 : Int32)
def f_M_memory_72 (p1 : Int32) (p2 : Int32) (u : cM) : cM := ms24 u (upd (mg24 u) (((5 : Int32) * p1) + p2).toNatClampNeg (mg14 u))
def f_M_memory_72_1 (p1 : Int32) (p2 : Int32) (u : cM) : cM := ms24 u (upd (mg24 u) (((5 : Int32) * p1) + p2).toNatClampNeg ((mg16 u) p2.toNatClampNeg))
def f_M_memory_99 (p1 : Int32) (p2 : Int32) (u : cM) : cM := ms14 u ((mg24 u) (((5 : Int32) * p1) + p2).toNatClampNeg)
def f_M_memory_117 (p1 : Int32) (p2 : Int32) (u : cM) : cM := ms16 u (upd (mg16 u) p2.toNatClampNeg ((mg24 u) (((5 : Int32) * p1) + p2).toNatClampNeg))
def m_M_memory (p1 : Int32) (p2 : Int32) (p3 : Int32) (u : cM) : Int32 × cM := if (m_M_within p1 (0 : Int32) (3 : Int32)) = 0 then ((-1 : Int32), (f_M_memory_2 u)) else (if (m_M_within p2 (0 : Int32) (4 : Int32)) = 0 then ((-2 : Int32), (f_M_memory_2 u)) else (if (m_M_within p3 (0 : Int32) (1 : Int32)) = 0 then ((-2 : Int32), (f_M_memory_2 u)) else (if p3 = 0 then (if p2 = (4 : Int32) then ((mg24 (f_M_memory_72 p1 p2 (f_M_memory_2 u))) (((5 : Int32) * p1) + p2).toNatClampNeg, (f_M_memory_72 p1 p2 (f_M_memory_2 u))) else ((mg24 (f_M_memory_72_1 p1 p2 (f_M_memory_2 u))) (((5 : Int32) * p1) + p2).toNatClampNeg, (f_M_memory_72_1 p1 p2 (f_M_memory_2 u)))) else (if ((mg24 (f_M_memory_2 u)) (((5 : Int32) * p1) + p2).toNatClampNeg) < 0 then ((mg24 (f_M_memory_2 u)) (((5 : Int32) * p1) + p2).toNatClampNeg, (f_M_memory_2 u)) else (if p2 = (4 : Int32) then ((mg24 (f_M_memory_99 p1 p2 (f_M_memory_2 u))) (((5 : Int32) * p1) + p2).toNatClampNeg, (f_M_memory_99 p1 p2 (f_M_memory_2 u))) else ((mg24 (f_M_memory_117 p1 p2 (f_M_memory_2 u))) (((5 : Int32) * p1) + p2).toNatClampNeg, (f_M_memory_117 p1 p2 (f_M_memory_2 u))))))))
def f_M_trailer_2 (u : cM) : cM := ms0 u (0 : Int32)
def f_M_trailer_11 (p1 : Int32) (u : cM) : cM := ms4 u p1
def m_M_trailer (p1 : Int32) (u : cM) : Int32 × cM := (m_M_others (f_M_trailer_11 p1 (m_M_layBy (f_M_trailer_2 u))), (f_M_trailer_11 p1 (m_M_layBy (f_M_trailer_2 u))))
def f_M_state_2 (u : cM) : cM := ms0 u (0 : Int32)
def m_M_state (p1 : Int32) (u : cM) : Int32 × cM := if (m_M_within p1 (0 : Int32) (9 : Int32)) = 0 then ((-2 : Int32), (f_M_state_2 u)) else (if (4 : Int32) ≤ p1 then (if p1 = (4 : Int32) then (mg11 (f_M_state_2 u), (f_M_state_2 u)) else (if p1 = (5 : Int32) then (mg12 (f_M_state_2 u), (f_M_state_2 u)) else (if (8 : Int32) ≤ p1 then (if p1 = (8 : Int32) then (if (mg2 (f_M_state_2 u)) = 0 then ((0 : Int32), (f_M_state_2 u)) else ((1 : Int32), (f_M_state_2 u))) else (mg6 (f_M_state_2 u), (f_M_state_2 u))) else ((mg9 (f_M_state_2 u)) (p1 - (6 : Int32)).toNatClampNeg, (f_M_state_2 u))))) else ((mg15 (f_M_state_2 u)) p1.toNatClampNeg, (f_M_state_2 u)))
