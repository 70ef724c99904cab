variable {sT : pd_S}
/-! the reference's acts -/
section RC
variable {D : pd_F} {s : Int → Int} {F : pd_F}
def tMx (w : Int) : Int := if w = 0 then 999 else 9999999
end RC
