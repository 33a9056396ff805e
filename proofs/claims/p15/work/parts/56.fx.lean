/-! LONGS OF THE HEAP, BITS: as whole numbers -/
def gj (h : aH) (a k : Nat) : Int := (aJ h a k).toInt
theorem gj_same {h : aH} {a k : Nat} {e : Int} (hr : r64 e) : gj (sJ h a k (J e)) a k = e := by
  show (aJ (sJ h a k (J e)) a k).toInt = e
  have : aJ (sJ h a k (J e)) a k = J e := by simp [aJ, sJ, up_s, vp_updL]
  rw [this, J_t hr]
theorem gj_k {h : aH} {a k j : Nat} {v : Int64} (hj : j ≠ k) (b : Nat) : gj (sJ h a k v) b j = gj h b j := by
  have : aJ (sJ h a k v) b j = aJ h b j := by
    by_cases hb : b = a
    · subst hb; simp [aJ, sJ, up_s, vp_updL, hj]
    · simp [aJ, sJ, up_n hb]
  show (aJ (sJ h a k v) b j).toInt = _
  rw [this]; rfl
theorem FRM_gj {h : aH} {M : MD} {h0 : aH} {a r k : Nat} (hF : FRM gRL M h0 h) (hr : gRL[a]? = some r) (hm : mHas M 1 r k = false) : gj h a k = gj h0 a k := by
  show (aJ h a k).toInt = (aJ h0 a k).toInt
  rw [hF.2.1 a k fun r' hr' => by rw [hr] at hr'; cases hr'; exact hm]
theorem FRM_aR {h : aH} {M : MD} {h0 : aH} {a r k : Nat} (hF : FRM gRL M h0 h) (hr : gRL[a]? = some r) (hm : mHas M 2 r k = false) : aR h a k = aR h0 a k :=
  hF.2.2 a k fun r' hr' => by rw [hr] at hr'; cases hr'; exact hm
def bAnd (a b : Int) : Int := (I a &&& I b).toInt
def bOr (a b : Int) : Int := (I a ||| I b).toInt
def bXor (a b : Int) : Int := (I a ^^^ I b).toInt
def bShl (a b : Int) : Int := (I a <<< (I b &&& 31)).toInt
def bShr (a b : Int) : Int := (I a >>> (I b &&& 31)).toInt
def bUsh (a b : Int) : Int := ((I a).toUInt32 >>> ((I b).toUInt32 &&& Int32.toUInt32 31)).toInt32.toInt
theorem bAnd_r (a b : Int) : r32 (bAnd a b) := r_I _
theorem bOr_r (a b : Int) : r32 (bOr a b) := r_I _
theorem bXor_r (a b : Int) : r32 (bXor a b) := r_I _
theorem bShl_r (a b : Int) : r32 (bShl a b) := r_I _
theorem bShr_r (a b : Int) : r32 (bShr a b) := r_I _
theorem bUsh_r (a b : Int) : r32 (bUsh a b) := r_I _
theorem chr_ok {v : Int} (hv : 0 ≤ v ∧ v ≤ 65535) : vp_nar .char (I v) = I v := by
  have e : ((I v).toUInt32 % 65536).toInt32 = I v := by
    apply Int32.toInt.inj
    rw [I_t ⟨by omega, by omega⟩]
    have h1 : (I v).toUInt32.toNat = v.toNat := by
      show (Int32.ofInt v).toUInt32.toNat = v.toNat
      obtain ⟨n, rfl⟩ : ∃ n : Nat, v = n := ⟨v.toNat, by omega⟩
      rw [show (Int32.ofInt (n : Int)) = (UInt32.ofNat n).toInt32 from rfl]
      show (UInt32.ofNat n).toNat = _
      rw [UInt32.toNat_ofNat']
      omega
    have h2 : ((I v).toUInt32 % 65536).toNat = v.toNat := by
      rw [UInt32.toNat_mod, h1]
      show v.toNat % 65536 = v.toNat
      omega
    have h3 : ((I v).toUInt32 % 65536) = UInt32.ofNat v.toNat := by
      apply UInt32.toNat.inj
      rw [h2, UInt32.toNat_ofNat']
      omega
    rw [h3]
    show (Int32.ofInt (v.toNat : Int)).toInt = v
    have h4 : (v.toNat : Int) = v := by omega
    rw [h4]
    exact I_t ⟨by omega, by omega⟩
  exact e
section SY
variable {CL : CT} {ac : AC} {ret : Option FieldType} {Q : QT} {K : KT}
variable {i : Instr} {r1 r2 : Nat} {r3 : Int} {pc : Nat} {ls : List (Nat × Value)} {st : List Value} {h : aH} {bc bs : Nat}
theorem x_getJE (p : Nat) {n a : Nat} (hK : CLO CL ac ret Q K) (hf : fr ac pc = some (.getfield n, r1, r2, 1)) (hp : pc + 3 = p) (hs : h.1[a]? = some (100 + r1, nf r1)) {e : Int} (he : gj h a r2 = e) (hk : K p ls (.long (J e) :: st) h bc bs) : K pc ls (.ref a :: st) h bc bs := by
  subst he; exact x_getJ p hK hf hp hs hk
theorem x_iandF (p : Nat) {a b : Int} (hK : CLO CL ac ret Q K) (hf : fr ac pc = some (.iand, r1, r2, r3)) (hp : pc + 1 = p) (hk : K p ls (.int (I (bAnd a b)) :: st) h bc bs) : K pc ls (.int (I b) :: .int (I a) :: st) h bc bs := x_iand p hK hf hp (t_I _).symm hk
theorem x_iorF (p : Nat) {a b : Int} (hK : CLO CL ac ret Q K) (hf : fr ac pc = some (.ior, r1, r2, r3)) (hp : pc + 1 = p) (hk : K p ls (.int (I (bOr a b)) :: st) h bc bs) : K pc ls (.int (I b) :: .int (I a) :: st) h bc bs := x_ior p hK hf hp (t_I _).symm hk
theorem x_ixorF (p : Nat) {a b : Int} (hK : CLO CL ac ret Q K) (hf : fr ac pc = some (.ixor, r1, r2, r3)) (hp : pc + 1 = p) (hk : K p ls (.int (I (bXor a b)) :: st) h bc bs) : K pc ls (.int (I b) :: .int (I a) :: st) h bc bs := x_ixor p hK hf hp (t_I _).symm hk
theorem x_ishlF (p : Nat) {a b : Int} (hK : CLO CL ac ret Q K) (hf : fr ac pc = some (.ishl, r1, r2, r3)) (hp : pc + 1 = p) (hk : K p ls (.int (I (bShl a b)) :: st) h bc bs) : K pc ls (.int (I b) :: .int (I a) :: st) h bc bs := x_ishl p hK hf hp (t_I _).symm hk
theorem x_ishrF (p : Nat) {a b : Int} (hK : CLO CL ac ret Q K) (hf : fr ac pc = some (.ishr, r1, r2, r3)) (hp : pc + 1 = p) (hk : K p ls (.int (I (bShr a b)) :: st) h bc bs) : K pc ls (.int (I b) :: .int (I a) :: st) h bc bs := x_ishr p hK hf hp (t_I _).symm hk
theorem x_iushrF (p : Nat) {a b : Int} (hK : CLO CL ac ret Q K) (hf : fr ac pc = some (.iushr, r1, r2, r3)) (hp : pc + 1 = p) (hk : K p ls (.int (I (bUsh a b)) :: st) h bc bs) : K pc ls (.int (I b) :: .int (I a) :: st) h bc bs := x_iushr p hK hf hp (t_I _).symm hk
end SY
