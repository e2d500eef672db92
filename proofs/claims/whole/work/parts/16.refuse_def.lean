def hb_e1 : String := "java/lang/IndexOutOfBoundsException"
def hb_e2 : String := "java/lang/IllegalArgumentException"
def hb_e3 : String := "java/lang/IllegalStateException"
def f_X8_refuse (x0 : Int32) (σ : hb_M) : Option ((String ⊕ Unit) × hb_M) :=
  if x0 = 1 then some (.inl hb_e1, σ) else if x0 = 2 then some (.inl hb_e2, σ) else if x0 = 3 then some (.inl hb_e3, σ) else some (.inr (), σ)
