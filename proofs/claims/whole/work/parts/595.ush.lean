section
variable {G : Kg} {w : Kw} {M : Km} {d mc ms pc : Nat} {ls : List (Nat × Value)} {st : List Value} {σ : Kmem} {Q : Int → Kmem → Prop}
/-- the shift to the right without a sign -/
def kush (a b : Int) : Int := ((Int32.ofInt a).toUInt32 >>> ((Int32.ofInt b).toUInt32 &&& Int32.toUInt32 31)).toInt32.toInt
theorem R_iushr {a b : Int} (hd : decode M.2.1 pc = .ok (.iushr, 1)) (kk : Ex G w M d mc ms (pc + 1) ls (vI (kush a b) :: st) σ Q) : Ex G w M d mc ms pc ls (vI b :: vI a :: st) σ Q := by
  intro p e s m args below meth c H locs cells slots MC MS la F h L hc hs
  exact lv_iushr F.1 F.2.1 hd (i32_back _).symm (kk p e s m args below meth c H locs cells slots MC MS la F h L hc hs)
end
