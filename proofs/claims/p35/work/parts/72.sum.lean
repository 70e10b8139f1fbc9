/-! part 72: a bridge to what was done by hand; sumOf's reckoning -/
theorem zp_ofA {l : Launch} {w : zk_W} {K : zk_K} {A : zk_Q} {B : zk_B} {φ : (Nat → Option Nat) → (Nat → Nat → Int) → List Int → Prop} (h : zk_metX l w zt_dv zt_TB K A B ∧ zk_cok w zt_TB K) (hA : ∀ (P : Nat → Option Nat) (F : Nat → va_E) (ps : List Int) (U : State) (H : Heap), zk_wt w U P F H → zk_all2 (zk_ok P) (zk_Kp K) ps → φ P (zp_n F) ps → A P F ps) : zk_metX l w zt_dv zt_TB K (zp_A φ) B ∧ zk_cok w zt_TB K := by
  refine ⟨fun P0 F0 ps sz hps hφ => ?_, h.2⟩
  by_cases hq : A P0 F0 ps
  · exact h.1 P0 F0 ps sz hps hq
  · intro p e h1 h2 h3 s m args below h4 h5 h6 h7
    obtain ⟨q1, q2, q3, q4, q5⟩ := h6
    exact absurd (hA P0 F0 ps s s.heap q4 hps hφ) hq
theorem zp_na {F : Nat → va_E} {b n j : Nat} {cA : ClassId} {f : Nat → Int32} (h : F b = .inl (cA, n, .inl f)) (hj : j < n) : zp_n F b (2000 + j) = (f j).toInt := by
  unfold zp_n
  rw [h, zk_rd_i hj]
  rfl
def zo_rk : (Nat → Option Nat) → (Nat → Nat → Int) → List Int → Prop := fun _ G ps => G (zp_0 ps) 20 = 1 ∧ (ps.getD 1 0 < ps.getD 2 0 → zk_cr (zv G (zp_0 ps) 24) (zv G (zp_0 ps) 25) (ps.getD 1 0).toNat (ps.getD 2 0).toNat)
theorem zX_rk {l : Launch} {w : zk_W} (hW : zh_W w) : zk_metX l w zt_dv zt_TB zK_rk1 (zp_A zo_rk) (zp_B zp_tB) ∧ zk_cok w zt_TB zK_rk1 := by
  refine zp_ofA (B := zk_tB) (zv_reckon hW) (fun P F ps U H hwt hps hφ => ?_)
  obtain ⟨m1, m2, m3, rfl, hm1, hm2, hm3⟩ := zp_ps3 (a1 := ((2, 92, 0, 0) : zk_F)) (a2 := (0, 0, 0, 400)) (a3 := (0, 0, 0, 400)) hps
  obtain ⟨a, rfl, hp⟩ := zp_this hm1
  have i2 := zp_int hm2
  have i3 := zp_int hm3
  have hw : w.1 = zt_types := hW.1
  have h0 : zp_0 [(a : Int), m2, m3] = a := Int.toNat_natCast a
  obtain ⟨f20, fcr⟩ := hφ
  rw [h0] at f20 fcr
  obtain ⟨-, fs, T, -, -, -, -, o1, -, -, v20⟩ := zp_rdf (xs := []) (zp_wt.of hwt) hw hp (show zp_fd 92 20 = some (12, 0, 0, 0, 1) from rfl) (show (0 : Nat) ≤ 2 by decide)
  obtain ⟨g24, fs1, T1, -, -, -, -, p1, -, -, v24⟩ := zp_rdf (xs := []) (zp_wt.of hwt) hw hp (show zp_fd 92 24 = some (12, 2, 68, 0, 0) from rfl) (show (2 : Nat) ≤ 2 by decide)
  obtain ⟨g25, fs2, T2, -, -, -, -, p2, -, -, v25⟩ := zp_rdf (xs := []) (zp_wt.of hwt) hw hp (show zp_fd 92 25 = some (12, 2, 69, 0, 0) from rfl) (show (2 : Nat) ≤ 2 by decide)
  cases o1.symm.trans p1
  cases o1.symm.trans p2
  obtain ⟨b24, e24, q24⟩ := zp_this g24
  obtain ⟨b25, e25, q25⟩ := zp_this g25
  obtain ⟨cO, nO, fO, r1, r2, -⟩ := zk_iarr hwt q24 (T := zt_types.getD 68 (0, 0, 0, [])) (by rw [hw]; rfl) (Or.inl rfl)
  obtain ⟨cA, nA, fA, s1, s2, -⟩ := zk_iarr hwt q25 (T := zt_types.getD 69 (0, 0, 0, [])) (by rw [hw]; rfl) (Or.inl rfl)
  have r2 : 400 ≤ nO := r2
  have s2 : 400 ≤ nA := s2
  rw [f20] at v20
  rw [e24] at v24
  rw [e25] at v25
  refine ⟨a, b24, b25, m2, m3, cO, cA, nO, nA, fO, fA, rfl, hp, ?_, ?_, q24, r1, ?_, q25, s1, fun hlt => ?_⟩
  · rw [o1]
    exact v20
  · rw [o1]
    exact v24.trans (congrArg some (zp_ref b24))
  · rw [o1]
    exact v25.trans (congrArg some (zp_ref b25))
  · refine zh_crc (fcr hlt) (fun q z1 z2 => ?_)
    have z2 : q < m3.toNat := z2
    have hq : q < 400 := by omega
    rw [zv_eq e24, zv_eq e25, zp_na r1 (by omega), zp_na s1 (by omega)]
    exact ⟨rfl, rfl⟩
