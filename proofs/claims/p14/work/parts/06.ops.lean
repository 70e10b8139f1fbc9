/-! part 6: bounds of what arithmetic gives -/
noncomputable def zk_m31 : Int := -2147483648
noncomputable def zk_p31 : Int := 2147483647
noncomputable def zk_clip (a b : Int) : Int × Int := if zk_m31 ≤ a ∧ b ≤ zk_p31 then (a, b) else (zk_m31, zk_p31)
theorem zk_clip_in {a b n : Int} (h1 : a ≤ n) (h2 : n ≤ b) {v : Int32} (hv : zk_rg 0 n → v.toInt = n) : (zk_clip a b).1 ≤ v.toInt ∧ v.toInt ≤ (zk_clip a b).2 := by
  unfold zk_clip
  have hv1 := (zk_to32 v).1
  split
  · rename_i h
    have e := hv ⟨by have := h.1; unfold zk_m31 at this; omega, by have := h.2; unfold zk_p31 at this; omega⟩
    rw [e]
    exact ⟨h1, h2⟩
  · exact ⟨hv1.1, hv1.2⟩
noncomputable def zk_bnJ (o : Nat) (la ha lb hb : Int) : Int × Int := match o with
  | 0 => zk_clip (la + lb) (ha + hb)
  | 1 => zk_clip (la - hb) (ha - lb)
  | 2 => if 0 ≤ la ∧ 0 ≤ lb then zk_clip (la * lb) (ha * hb) else (zk_m31, zk_p31)
  | 3 => if 0 ≤ lb then (0, hb) else if 0 ≤ la then (0, ha) else (zk_m31, zk_p31)
  | 9 => if 0 ≤ la ∧ 1 ≤ lb then (0, ha) else (zk_m31, zk_p31)
  | 10 => if 0 ≤ la ∧ 1 ≤ lb then (0, hb - 1) else (zk_m31, zk_p31)
  | _ => (zk_m31, zk_p31)
theorem zk_full (v : Int32) : zk_m31 ≤ v.toInt ∧ v.toInt ≤ zk_p31 := (zk_to32 v).1
theorem zk_and_le (x y : Int32) (h : 0 ≤ y.toInt) : 0 ≤ (x &&& y).toInt ∧ (x &&& y).toInt ≤ y.toInt := by
  have hy : y.toInt = (y.toBitVec.toNat : Int) ∧ y.toBitVec.toNat < 2147483648 := by
    have h1 := BitVec.toInt_eq_toNat_cond y.toBitVec
    rw [Int32.toInt_toBitVec] at h1
    have h2 := y.toBitVec.isLt
    split at h1 <;> omega
  have hle : (x &&& y).toBitVec.toNat ≤ y.toBitVec.toNat := by
    rw [Int32.toBitVec_and, BitVec.toNat_and]
    exact Nat.and_le_right
  have h3 := BitVec.toInt_eq_toNat_of_lt (x := (x &&& y).toBitVec) (by omega)
  rw [Int32.toInt_toBitVec] at h3
  omega
theorem zk_nat32 {a : Int} (h : 0 ≤ a) : Int32.ofInt a = nI a.toNat := by
  unfold nI
  obtain ⟨k, rfl⟩ := Int.eq_ofNat_of_zero_le h
  rfl
theorem zk_bnJ_in {o : Nat} {a b la ha lb hb : Int} (hra : zk_rg 0 a) (hrb : zk_rg 0 b) (h1 : la ≤ a) (h2 : a ≤ ha) (h3 : lb ≤ b) (h4 : b ≤ hb) :
    (zk_bnJ o la ha lb hb).1 ≤ (zk_bn o (Int32.ofInt a) (Int32.ofInt b)).toInt ∧ (zk_bn o (Int32.ofInt a) (Int32.ofInt b)).toInt ≤ (zk_bnJ o la ha lb hb).2 := by
  have ea := zk_i32 hra
  have eb := zk_i32 hrb
  obtain ⟨ra1, ra2⟩ := hra
  obtain ⟨rb1, rb2⟩ := hrb
  unfold zk_bnJ
  split
  · refine zk_clip_in (n := a + b) (by omega) (by omega) (fun hr => ?_)
    show (Int32.ofInt a + Int32.ofInt b).toInt = _
    rw [← Int32.ofInt_add]
    exact zk_i32 hr
  · refine zk_clip_in (n := a - b) (by omega) (by omega) (fun hr => ?_)
    show (Int32.ofInt a - Int32.ofInt b).toInt = _
    rw [← Int32.ofInt_sub]
    exact zk_i32 hr
  · split
    · rename_i h
      refine zk_clip_in (n := a * b) (Int.mul_le_mul h1 h3 h.2 (by omega)) (Int.mul_le_mul h2 h4 (by omega) (by omega)) (fun hr => ?_)
      show (Int32.ofInt a * Int32.ofInt b).toInt = _
      rw [← Int32.ofInt_mul]
      exact zk_i32 hr
    · exact zk_full _
  · split
    · have h := zk_and_le (Int32.ofInt a) (Int32.ofInt b) (by rw [eb]; omega)
      rw [eb] at h
      exact ⟨h.1, by show (Int32.ofInt a &&& Int32.ofInt b).toInt ≤ hb; omega⟩
    · split
      · have h := zk_and_le (Int32.ofInt b) (Int32.ofInt a) (by rw [ea]; omega)
        rw [ea] at h
        have e : Int32.ofInt a &&& Int32.ofInt b = Int32.ofInt b &&& Int32.ofInt a := Int32.and_comm _ _
        show (0 : Int) ≤ (Int32.ofInt a &&& Int32.ofInt b).toInt ∧ (Int32.ofInt a &&& Int32.ofInt b).toInt ≤ ha
        rw [e]
        exact ⟨h.1, by omega⟩
      · exact zk_full _
  · split
    · rename_i h
      show (0 : Int) ≤ (Int32.ofInt a / Int32.ofInt b).toInt ∧ (Int32.ofInt a / Int32.ofInt b).toInt ≤ ha
      rw [zk_nat32 (a := a) (by omega), zk_nat32 (a := b) (by omega), pk_div (by omega) (by omega) (by omega)]
      have hd : a.toNat / b.toNat ≤ a.toNat := Nat.div_le_self _ _
      generalize a.toNat / b.toNat = z at hd ⊢
      rw [nI_toInt (by omega)]
      omega
    · exact zk_full _
  · split
    · rename_i h
      show (0 : Int) ≤ (Int32.ofInt a - Int32.ofInt a / Int32.ofInt b * Int32.ofInt b).toInt ∧ (Int32.ofInt a - Int32.ofInt a / Int32.ofInt b * Int32.ofInt b).toInt ≤ hb - 1
      rw [zk_nat32 (a := a) (by omega), zk_nat32 (a := b) (by omega), pk_rem (by omega) (by omega) (by omega)]
      have hd : a.toNat % b.toNat < b.toNat := Nat.mod_lt _ (by omega)
      generalize a.toNat % b.toNat = z at hd ⊢
      rw [nI_toInt (by omega)]
      omega
    · exact zk_full _
  · exact zk_full _
/-- of two numbers that are known: what it gives -/
noncomputable def zk_bnI (o : Nat) (la ha lb hb : Int) : Int × Int := if la = ha ∧ lb = hb ∧ 2 ≤ o then ((zk_bn o (Int32.ofInt la) (Int32.ofInt lb)).toInt, (zk_bn o (Int32.ofInt la) (Int32.ofInt lb)).toInt) else zk_bnJ o la ha lb hb
theorem zk_bn_in {o : Nat} {a b la ha lb hb : Int} (hra : zk_rg 0 a) (hrb : zk_rg 0 b) (h1 : la ≤ a) (h2 : a ≤ ha) (h3 : lb ≤ b) (h4 : b ≤ hb) :
    (zk_bnI o la ha lb hb).1 ≤ (zk_bn o (Int32.ofInt a) (Int32.ofInt b)).toInt ∧ (zk_bn o (Int32.ofInt a) (Int32.ofInt b)).toInt ≤ (zk_bnI o la ha lb hb).2 := by
  unfold zk_bnI
  split
  · rename_i hc
    have e1 : a = la := by omega
    have e2 : b = lb := by omega
    rw [e1, e2]
    exact ⟨Int.le_refl _, Int.le_refl _⟩
  · exact zk_bnJ_in hra hrb h1 h2 h3 h4
noncomputable def zk_m63 : Int := -9223372036854775808
noncomputable def zk_p63 : Int := 9223372036854775807
noncomputable def zk_clip2 (a b : Int) : Int × Int := if zk_m63 ≤ a ∧ b ≤ zk_p63 then (a, b) else (zk_m63, zk_p63)
theorem zk_clip2_in {a b n : Int} (h1 : a ≤ n) (h2 : n ≤ b) {v : Int64} (hv : zk_rg 1 n → v.toInt = n) : (zk_clip2 a b).1 ≤ v.toInt ∧ v.toInt ≤ (zk_clip2 a b).2 := by
  unfold zk_clip2
  have hv1 := (zk_to64 v).1
  split
  · rename_i h
    have e := hv ⟨by have := h.1; unfold zk_m63 at this; omega, by have := h.2; unfold zk_p63 at this; omega⟩
    rw [e]
    exact ⟨h1, h2⟩
  · exact ⟨hv1.1, hv1.2⟩
noncomputable def zk_lbI (o : Nat) (la ha lb hb : Int) : Int × Int := match o with
  | 0 => zk_clip2 (la + lb) (ha + hb)
  | 1 => zk_clip2 (la - hb) (ha - lb)
  | _ => (zk_m63, zk_p63)
theorem zk_lb_in {o : Nat} {a b la ha lb hb : Int} (h1 : la ≤ a) (h2 : a ≤ ha) (h3 : lb ≤ b) (h4 : b ≤ hb) :
    (zk_lbI o la ha lb hb).1 ≤ (zk_lb o (Int64.ofInt a) (Int64.ofInt b)).toInt ∧ (zk_lb o (Int64.ofInt a) (Int64.ofInt b)).toInt ≤ (zk_lbI o la ha lb hb).2 := by
  unfold zk_lbI
  split
  · refine zk_clip2_in (n := a + b) (by omega) (by omega) (fun hr => ?_)
    show (Int64.ofInt a + Int64.ofInt b).toInt = _
    rw [← Int64.ofInt_add]
    exact zk_i64 hr
  · refine zk_clip2_in (n := a - b) (by omega) (by omega) (fun hr => ?_)
    show (Int64.ofInt a - Int64.ofInt b).toInt = _
    rw [← Int64.ofInt_sub]
    exact zk_i64 hr
  · have hv1 := (zk_to64 (zk_lb o (Int64.ofInt a) (Int64.ofInt b))).1
    exact ⟨hv1.1, hv1.2⟩
noncomputable def zk_unI (o : Nat) (la ha : Int) : Int × Int := match o with
  | 0 => zk_clip (-ha) (-la)
  | 1 => (-128, 127)
  | 2 => (0, 65535)
  | _ => (-32768, 32767)
theorem zk_un_in {o : Nat} {a la ha : Int} (hra : zk_rg 0 a) (h1 : la ≤ a) (h2 : a ≤ ha) : (zk_unI o la ha).1 ≤ (zk_un o (Int32.ofInt a)).toInt ∧ (zk_un o (Int32.ofInt a)).toInt ≤ (zk_unI o la ha).2 := by
  unfold zk_unI
  split
  · refine zk_clip_in (n := -a) (by omega) (by omega) (fun hr => ?_)
    show (-Int32.ofInt a).toInt = _
    rw [← Int32.ofInt_neg]
    exact zk_i32 hr
  · show (-128 : Int) ≤ (Int32.ofInt a).toInt8.toInt32.toInt ∧ (Int32.ofInt a).toInt8.toInt32.toInt ≤ 127
    rw [Int8.toInt_toInt32]
    have h3 := Int8.le_toInt (Int32.ofInt a).toInt8
    have h4 := Int8.toInt_lt (Int32.ofInt a).toInt8
    omega
  · show (0 : Int) ≤ ((Int32.ofInt a).toUInt32 % 65536).toInt32.toInt ∧ ((Int32.ofInt a).toUInt32 % 65536).toInt32.toInt ≤ 65535
    rw [lg_i2c_nf, lg_i2c_toInt]
    omega
  · rename_i h8 h9
    match o, h8, h9 with
    | o + 3, _, _ =>
      show (-32768 : Int) ≤ (Int32.ofInt a).toInt16.toInt32.toInt ∧ (Int32.ofInt a).toInt16.toInt32.toInt ≤ 32767
      rw [Int16.toInt_toInt32]
      have h3 := Int16.le_toInt (Int32.ofInt a).toInt16
      have h4 := Int16.toInt_lt (Int32.ofInt a).toInt16
      omega
