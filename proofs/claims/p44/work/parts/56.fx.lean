/-! LONGS OF THE HEAP, BITS: as whole numbers -/
def gj (h : aH) (a k : Nat) : Int := (aJ h a k).toInt
theorem gj_same {h : aH} {a k : Nat} {e : Int} (hr : r64 e) : gj (sJ h a k (J e)) a k = e := by
  show (aJ (sJ h a k (J e)) a k).toInt = e
  have : aJ (sJ h a k (J e)) a k = J e := by simp [aJ, sJ, up_s, vp_updL]
  rw [this, J_t hr]
theorem gj_k {h : aH} {a k j : Nat} {v : Int64} (hj : j ≠ k) (b : Nat) : gj (sJ h a k v) b j = gj h b j := by
  have : aJ (sJ h a k v) b j = aJ h b j := by
    by_cases hb : b = a
    · subst hb; simp [aJ, sJ, up_s, vp_updL, hj]
    · simp [aJ, sJ, up_n hb]
  show (aJ (sJ h a k v) b j).toInt = _
  rw [this]; rfl
theorem FRM_gj {h : aH} {M : MD} {h0 : aH} {a r k : Nat} (hF : FRM gRL M h0 h) (hr : gRL[a]? = some r) (hm : mHas M 1 r k = false) : gj h a k = gj h0 a k := by
  show (aJ h a k).toInt = (aJ h0 a k).toInt
  rw [hF.2.1 a k fun r' hr' => by rw [hr] at hr'; cases hr'; exact hm]
section SY
variable {CL : CT} {ac : AC} {ret : Option FieldType} {Q : QT} {K : KT}
variable {i : Instr} {r1 r2 : Nat} {r3 : Int} {pc : Nat} {ls : List (Nat × Value)} {st : List Value} {h : aH} {bc bs : Nat}
theorem x_getJE (p : Nat) {n a : Nat} (hK : CLO CL ac ret Q K) (hf : fr ac pc = some (.getfield n, r1, r2, 1)) (hp : pc + 3 = p) (hs : h.1[a]? = some (100 + r1, nf r1)) {e : Int} (he : gj h a r2 = e) (hk : K p ls (.long (J e) :: st) h bc bs) : K pc ls (.ref a :: st) h bc bs := by
  subst he; exact x_getJ p hK hf hp hs hk
end SY
