/-! part me: the calls, one by one: both sides agree, all of the relation stays -/
theorem zP_at {A : Nat → Nat} {Y : List (Nat × Nat)} {F : List (Nat × Nat × Nat)} {V W : Nat → Nat → Int} {n1 np : Nat} {Lw : List yK} {p1 p2 : Int} (h : zCo V W n1 np Lw) (hl : zLF A Y F W Lw) (he : zEx A Y F V W n1 np) : (zf_atc W p1 p2).1 = (zf_atr V n1 p1 p2).1 ∧ zFull A Y F (zf_atr V n1 p1 p2).2 (zf_atc W p1 p2).2 := by
  have e1 : (zf_atc W p1 p2).2 = W := by
    unfold zf_atc
    repeat' split
    all_goals rfl
  have e2 : (zf_atr V n1 p1 p2).2 = zp_set V 0 0 0 := by
    unfold zf_atr
    repeat' split
    all_goals rfl
  refine ⟨(zS_at h).1, ?_⟩
  rw [e1, e2]
  exact zF_0 (zFull_i h hl he)
theorem zP_of {A : Nat → Nat} {Y : List (Nat × Nat)} {F : List (Nat × Nat × Nat)} {V W : Nat → Nat → Int} {n1 np : Nat} {Lw : List yK} {p1 p2 : Int} (h : zCo V W n1 np Lw) (hl : zLF A Y F W Lw) (he : zEx A Y F V W n1 np) : (zf_ofcc W n1 p1 p2).1 = (zf_ofr V np n1 p1 p2).1 ∧ zFull A Y F (zf_ofr V np n1 p1 p2).2 (zf_ofcc W n1 p1 p2).2 := by
  have e1 : (zf_ofcc W n1 p1 p2).2 = W := by
    unfold zf_ofcc
    repeat' split
    all_goals rfl
  have e2 : (zf_ofr V np n1 p1 p2).2 = zp_set V 0 0 0 := by
    unfold zf_ofr
    repeat' split
    all_goals rfl
  refine ⟨(zS_of h).1, ?_⟩
  rw [e1, e2]
  exact zF_0 (zFull_i h hl he)
theorem zP_cnt {A : Nat → Nat} {Y : List (Nat × Nat)} {F : List (Nat × Nat × Nat)} {V W : Nat → Nat → Int} {n1 np : Nat} {Lw : List yK} {p1 : Int} (h : zCo V W n1 np Lw) (hl : zLF A Y F W Lw) (he : zEx A Y F V W n1 np) : (zf_cntc W p1).1 = (zf_cnt V p1).1 ∧ zFull A Y F (zf_cnt V p1).2 (zf_cntc W p1).2 := by
  have e1 : (zf_cntc W p1).2 = W := by
    simp only [zf_cntc, apply_ite Prod.snd, ite_self]
  have e2 : (zf_cnt V p1).2 = zp_set V 0 0 0 := by
    simp only [zf_cnt, apply_ite Prod.snd, ite_self]
  refine ⟨(zS_cnt h he.2.2.1.1).1, ?_⟩
  rw [e1, e2]
  exact zF_0 (zFull_i h hl he)
theorem zP_ask {A : Nat → Nat} {Y : List (Nat × Nat)} {F : List (Nat × Nat × Nat)} {V W : Nat → Nat → Int} {n1 np : Nat} {Lw : List yK} {p1 p2 : Int} (h : zCo V W n1 np Lw) (hl : zLF A Y F W Lw) (he : zEx A Y F V W n1 np) : (zf_askc W Lw p1 p2).1 = (zf_ask V Lw p1 p2).1 ∧ zFull A Y F (zf_ask V Lw p1 p2).2 (zf_askc W Lw p1 p2).2 := by
  have e1 : (zf_askc W Lw p1 p2).2 = W := by
    unfold zf_askc
    repeat' split
    all_goals rfl
  have e2 : (zf_ask V Lw p1 p2).2 = zp_set V 0 0 0 := by
    unfold zf_ask
    repeat' split
    all_goals rfl
  refine ⟨(zS_ask h).1, ?_⟩
  rw [e1, e2]
  exact zF_0 (zFull_i h hl he)
theorem zP_hor {A : Nat → Nat} {Y : List (Nat × Nat)} {F : List (Nat × Nat × Nat)} {V W : Nat → Nat → Int} {n1 np : Nat} {Lw : List yK} {p1 p2 p3 : Int} (h : zCo V W n1 np Lw) (hl : zLF A Y F W Lw) (he : zEx A Y F V W n1 np) : (zf_horc W n1 np Lw p1 p2 p3).1 = (zf_hor V n1 np Lw p1 p2 p3).1 ∧ zFull A Y F (zf_hor V n1 np Lw p1 p2 p3).2 (zf_horc W n1 np Lw p1 p2 p3).2 := by
  have e1 : (zf_horc W n1 np Lw p1 p2 p3).2 = W := by
    unfold zf_horc
    repeat' split
    all_goals rfl
  have e2 : (zf_hor V n1 np Lw p1 p2 p3).2 = zp_set V 0 0 0 := by
    unfold zf_hor
    repeat' split
    all_goals rfl
  refine ⟨(zS_hor h).1, ?_⟩
  rw [e1, e2]
  exact zF_0 (zFull_i h hl he)
theorem zP_end {A : Nat → Nat} {Y : List (Nat × Nat)} {F : List (Nat × Nat × Nat)} {V W : Nat → Nat → Int} {n1 np : Nat} {Lw : List yK} {p1 p2 p3 : Int} (h : zCo V W n1 np Lw) (hl : zLF A Y F W Lw) (he : zEx A Y F V W n1 np) : (zf_endc W n1 np Lw p1 p2 p3).1 = (zf_edr V n1 np Lw p1 p2 p3).1 ∧ zFull A Y F (zf_edr V n1 np Lw p1 p2 p3).2 (zf_endc W n1 np Lw p1 p2 p3).2 := by
  have e1 : (zf_endc W n1 np Lw p1 p2 p3).2 = W := by
    unfold zf_endc
    repeat' split
    all_goals rfl
  have e2 : (zf_edr V n1 np Lw p1 p2 p3).2 = zp_set V 0 0 0 := by
    unfold zf_edr
    repeat' split
    all_goals rfl
  refine ⟨(zS_end h).1, ?_⟩
  rw [e1, e2]
  exact zF_0 (zFull_i h hl he)
theorem zP_day {A : Nat → Nat} {Y : List (Nat × Nat)} {F : List (Nat × Nat × Nat)} {V W : Nat → Nat → Int} {n1 np : Nat} {Lw : List yK} {p1 p2 : Int} (h : zCo V W n1 np Lw) (hl : zLF A Y F W Lw) (he : zEx A Y F V W n1 np) : (zf_dayc W n1 np Lw p1 p2).1 = (zf_dyr V n1 np Lw p1 p2).1 ∧ zFull A Y F (zf_dyr V n1 np Lw p1 p2).2 (zf_dayc W n1 np Lw p1 p2).2 := by
  have e1 : (zf_dayc W n1 np Lw p1 p2).2 = W := by
    unfold zf_dayc
    repeat' split
    all_goals rfl
  have e2 : (zf_dyr V n1 np Lw p1 p2).2 = zp_set V 0 0 0 := by
    unfold zf_dyr
    repeat' split
    all_goals rfl
  refine ⟨(zS_day h).1, ?_⟩
  rw [e1, e2]
  exact zF_0 (zFull_i h hl he)
theorem zP_sta {A : Nat → Nat} {Y : List (Nat × Nat)} {F : List (Nat × Nat × Nat)} {V W : Nat → Nat → Int} {n1 np : Nat} {Lw : List yK} (h : zCo V W n1 np Lw) (hl : zLF A Y F W Lw) (he : zEx A Y F V W n1 np) : (zf_stac W).1 = (zf_sta V).1 ∧ zFull A Y F (zf_sta V).2 (zf_stac W).2 := by
  have e1 : (zf_stac W).2 = W := by
    unfold zf_stac
    repeat' split
    all_goals rfl
  have e2 : (zf_sta V).2 = zp_set V 0 0 0 := by
    unfold zf_sta
    repeat' split
    all_goals rfl
  refine ⟨h.2.2.2.2.1.1, ?_⟩
  rw [e1, e2]
  exact zF_0 (zFull_i h hl he)
theorem zP_stp {A : Nat → Nat} {Y : List (Nat × Nat)} {F : List (Nat × Nat × Nat)} {V W : Nat → Nat → Int} {n1 np : Nat} {Lw : List yK} (h : zCo V W n1 np Lw) (hl : zLF A Y F W Lw) (he : zEx A Y F V W n1 np) : (zf_stpc W).1 = (zf_stp V).1 ∧ zFull A Y F (zf_stp V).2 (zf_stpc W).2 := by
  have e1 : (zf_stpc W).2 = W := by
    unfold zf_stpc
    repeat' split
    all_goals rfl
  have e2 : (zf_stp V).2 = zp_set V 0 0 0 := by
    unfold zf_stp
    repeat' split
    all_goals rfl
  refine ⟨he.2.2.2.1.2.2, ?_⟩
  rw [e1, e2]
  exact zF_0 (zFull_i h hl he)
theorem zP_fau {A : Nat → Nat} {Y : List (Nat × Nat)} {F : List (Nat × Nat × Nat)} {V W : Nat → Nat → Int} {n1 np : Nat} {Lw : List yK} (h : zCo V W n1 np Lw) (hl : zLF A Y F W Lw) (he : zEx A Y F V W n1 np) : (zf_fauc W).1 = (zf_fau V).1 ∧ zFull A Y F (zf_fau V).2 (zf_fauc W).2 := by
  have e1 : (zf_fauc W).2 = W := by
    unfold zf_fauc
    repeat' split
    all_goals rfl
  have e2 : (zf_fau V).2 = zp_set V 0 0 0 := by
    unfold zf_fau
    repeat' split
    all_goals rfl
  refine ⟨he.2.2.2.1.2.1, ?_⟩
  rw [e1, e2]
  exact zF_0 (zFull_i h hl he)
theorem zP_dut {A : Nat → Nat} {Y : List (Nat × Nat)} {F : List (Nat × Nat × Nat)} {V W : Nat → Nat → Int} {n1 np : Nat} {Lw : List yK} (h : zCo V W n1 np Lw) (hl : zLF A Y F W Lw) (he : zEx A Y F V W n1 np) : (zf_dutc W).1 = (zf_dut V).1 ∧ zFull A Y F (zf_dut V).2 (zf_dutc W).2 := by
  have e1 : (zf_dutc W).2 = W := by
    unfold zf_dutc
    repeat' split
    all_goals rfl
  have e2 : (zf_dut V).2 = zp_set V 0 0 0 := by
    unfold zf_dut
    repeat' split
    all_goals rfl
  refine ⟨he.2.2.2.1.1, ?_⟩
  rw [e1, e2]
  exact zF_0 (zFull_i h hl he)
theorem zP_drw {A : Nat → Nat} {Y : List (Nat × Nat)} {F : List (Nat × Nat × Nat)} {V W : Nat → Nat → Int} {n1 np : Nat} {Lw : List yK} {p1 : Int} (h : zCo V W n1 np Lw) (hl : zLF A Y F W Lw) (he : zEx A Y F V W n1 np) : (zf_drwc W p1).1 = (zf_drw V p1).1 ∧ zFull A Y F (zf_drw V p1).2 (zf_drwc W p1).2 := by
  obtain ⟨e0, e1, e2⟩ := zS_drw (p1 := p1) he.2.2.2.2.1
  refine ⟨e0, ?_⟩
  rw [e1, e2]
  exact zF_0 (zFull_i h hl he)
theorem zP_roa {A : Nat → Nat} {Y : List (Nat × Nat)} {F : List (Nat × Nat × Nat)} {V W : Nat → Nat → Int} {n1 np : Nat} {Lw : List yK} {p1 p2 p3 : Int} (h : zCo V W n1 np Lw) (hl : zLF A Y F W Lw) (he : zEx A Y F V W n1 np) : (zf_roac W p1 p2 p3).1 = (zf_roa V p1 p2 p3).1 ∧ zFull A Y F (zf_roa V p1 p2 p3).2 (zf_roac W p1 p2 p3).2 := by
  obtain ⟨e0, hc⟩ := zS_roa (p1 := p1) (p2 := p2) (p3 := p3) h
  obtain ⟨⟨hn1, hnp⟩, -⟩ := zCo_n h
  refine ⟨e0, zF_s h hl he hc (fun o k ho => ?_) (fun o k ho => ?_)⟩
  · have h9 := ho
    unfold zVx at h9
    unfold zf_roa
    repeat' split
    all_goals try dsimp only
    all_goals first | exact zVx_rf ho | exact zVx_stl ho | simp (disch := omega) only [zp_set_ne]
  · have h9 := ho
    unfold zWx at h9
    unfold zf_roac
    repeat' split
    all_goals try dsimp only
    all_goals first | exact zWx_rfs ho | simp (disch := omega) only [zf_ans, zf_clr3, zp_set_ne]
theorem zP_oil {A : Nat → Nat} {Y : List (Nat × Nat)} {F : List (Nat × Nat × Nat)} {V W : Nat → Nat → Int} {n1 np : Nat} {Lw : List yK} {p1 p2 : Int} (h : zCo V W n1 np Lw) (hl : zLF A Y F W Lw) (he : zEx A Y F V W n1 np) : (zf_oilc W p1 p2).1 = (zf_oil V np p1 p2).1 ∧ zFull A Y F (zf_oil V np p1 p2).2 (zf_oilc W p1 p2).2 := by
  obtain ⟨e0, hc⟩ := zS_oil (p1 := p1) (p2 := p2) h
  obtain ⟨⟨hn1, hnp⟩, -⟩ := zCo_n h
  refine ⟨e0, zF_s h hl he hc (fun o k ho => ?_) (fun o k ho => ?_)⟩
  · have h9 := ho
    unfold zVx at h9
    unfold zf_oil
    repeat' split
    all_goals try dsimp only
    all_goals first | exact zVx_rf ho | exact zVx_stl ho | simp (disch := omega) only [zp_set_ne]
  · have h9 := ho
    unfold zWx at h9
    unfold zf_oilc
    repeat' split
    all_goals try dsimp only
    all_goals first | exact zWx_rfs ho | simp (disch := omega) only [zf_ans, zf_clr3, zp_set_ne]
/-- what a doing leaves -/
theorem zVx_do {V : Nat → Nat → Int} {nu n1 np : Nat} {Lw : List yK} {d a b : Int} {o k : Nat} (hnu : nu ≤ 16) (hn : n1 ≤ 10) (hp : np ≤ 6) (ho : zVx o k) : (zo_do V nu n1 np Lw d a b).2 o k = V o k := by
  have h9 := ho
  unfold zVx at h9
  by_cases c3 : o = 3
  · subst c3
    obtain ⟨j, rfl⟩ : ∃ j, k = 2000 + j := ⟨k - 2000, by omega⟩
    exact (zKr_do hnu hn hp).1 j (by unfold zKj; omega)
  · exact zo_kp_do o k c3 (by omega) (by omega) (by omega)
theorem zP_win {A : Nat → Nat} {Y : List (Nat × Nat)} {F : List (Nat × Nat × Nat)} {V W : Nat → Nat → Int} {n1 np : Nat} {Lw : List yK} {nu : Nat} {p1 : Int} (h : zCo V W n1 np Lw) (hl : zLF A Y F W Lw) (he : zEx A Y F V W n1 np) (h8 : V 0 8 = (nu : Int)) (h16 : nu ≤ 16) : (zf_windc W Lw p1).1 = (zf_win V nu Lw p1).1 ∧ zFull A Y F (zf_win V nu Lw p1).2 (zf_windc W Lw p1).2 := by
  obtain ⟨⟨hn1, hnp⟩, -⟩ := zCo_n h
  obtain ⟨e0, hc⟩ := zS_win (p1 := p1) (zCI_of hl h) h h8
  refine ⟨e0, zF_s h hl he hc (fun o k ho => ?_) (fun o k ho => ?_)⟩
  · exact (zVx_tell ho).trans ((zVx_do (V := zp_set V 0 0 0) (nu := nu) (n1 := n1) (np := np) (Lw := Lw) (d := 0) (a := p1) (b := 0) h16 hn1 hnp ho).trans (zVx_0 ho))
  · have h9 := ho
    unfold zWx at h9
    exact (zWx_stc ho).trans (zf_wnbc_f (fun hm => by
      simp only [List.mem_cons, List.not_mem_nil, or_false] at hm
      omega))
theorem zP_key {A : Nat → Nat} {Y : List (Nat × Nat)} {F : List (Nat × Nat × Nat)} {V W : Nat → Nat → Int} {n1 np : Nat} {Lw : List yK} {nu : Nat} {p1 p2 : Int} (h : zCo V W n1 np Lw) (hl : zLF A Y F W Lw) (he : zEx A Y F V W n1 np) (h8 : V 0 8 = (nu : Int)) (h16 : nu ≤ 16) : (zf_keyc W Lw p1 p2).1 = (zf_key V nu np Lw p1 p2).1 ∧ zFull A Y F (zf_key V nu np Lw p1 p2).2 (zf_keyc W Lw p1 p2).2 := by
  obtain ⟨⟨hn1, hnp⟩, -⟩ := zCo_n h
  obtain ⟨e0, hc⟩ := zS_key (p1 := p1) (p2 := p2) (zCI_of hl h) h h8
  refine ⟨e0, zF_s h hl he hc (fun o k ho => ?_) (fun o k ho => ?_)⟩
  · exact (zVx_tell ho).trans ((zVx_do (V := zp_set V 0 0 0) (nu := nu) (n1 := n1) (np := np) (Lw := Lw) (d := 1) (a := p1) (b := p2) h16 hn1 hnp ho).trans (zVx_0 ho))
  · have h9 := ho
    unfold zWx at h9
    exact (zWx_stc ho).trans (zf_keybc_f (fun hm => by
      simp only [List.mem_cons, List.not_mem_nil, or_false] at hm
      omega))
theorem zP_run {A : Nat → Nat} {Y : List (Nat × Nat)} {F : List (Nat × Nat × Nat)} {V W : Nat → Nat → Int} {n1 np : Nat} {Lw : List yK} {nu : Nat} (h : zCo V W n1 np Lw) (hl : zLF A Y F W Lw) (he : zEx A Y F V W n1 np) (h8 : V 0 8 = (nu : Int)) (h16 : nu ≤ 16) : (zf_runc W n1 np Lw).1 = (zf_run V nu n1 np Lw).1 ∧ zFull A Y F (zf_run V nu n1 np Lw).2 (zf_runc W n1 np Lw).2 := by
  obtain ⟨⟨hn1, hnp⟩, -⟩ := zCo_n h
  obtain ⟨e0, hc⟩ := zS_rud (zCI_of hl h) h h8
  refine ⟨e0, zF_s h hl he hc (fun o k ho => ?_) (fun o k ho => ?_)⟩
  · exact (zVx_tell ho).trans ((zVx_do (V := zp_set V 0 0 0) (nu := nu) (n1 := n1) (np := np) (Lw := Lw) (d := 2) (a := 0) (b := 0) h16 hn1 hnp ho).trans (zVx_0 ho))
  · have h9 := ho
    unfold zWx at h9
    exact (zWx_stc ho).trans (zf_rudc_f (fun hm => by
      simp only [List.mem_cons, List.not_mem_nil, or_false] at hm
      omega))
theorem zP_men {A : Nat → Nat} {Y : List (Nat × Nat)} {F : List (Nat × Nat × Nat)} {V W : Nat → Nat → Int} {n1 np : Nat} {Lw : List yK} {nu : Nat} {p1 : Int} (h : zCo V W n1 np Lw) (hl : zLF A Y F W Lw) (he : zEx A Y F V W n1 np) (h8 : V 0 8 = (nu : Int)) (h16 : nu ≤ 16) : (zf_menc W p1).1 = (zf_men V nu p1).1 ∧ zFull A Y F (zf_men V nu p1).2 (zf_menc W p1).2 := by
  obtain ⟨⟨hn1, hnp⟩, -⟩ := zCo_n h
  obtain ⟨e0, hc⟩ := zS_men (p1 := p1) (zCI_of hl h) h h8
  refine ⟨e0, zF_s h hl he hc (fun o k ho => ?_) (fun o k ho => ?_)⟩
  · exact (zVx_tell ho).trans ((zVx_do (V := zp_set V 0 0 0) (nu := nu) (n1 := n1) (np := np) (Lw := Lw) (d := 3) (a := p1) (b := 0) h16 hn1 hnp ho).trans (zVx_0 ho))
  · have h9 := ho
    unfold zWx at h9
    exact (zWx_stc ho).trans (zf_mbyc_f (fun hm => by
      simp only [List.mem_cons, List.not_mem_nil, or_false] at hm
      omega))
theorem zP_und {A : Nat → Nat} {Y : List (Nat × Nat)} {F : List (Nat × Nat × Nat)} {V W : Nat → Nat → Int} {n1 np : Nat} {Lw : List yK} {nu : Nat} (h : zCo V W n1 np Lw) (hl : zLF A Y F W Lw) (he : zEx A Y F V W n1 np) (h8 : V 0 8 = (nu : Int)) : (zf_undc W).1 = (if nu = 0 then -3 else V 7 (2000 + (nu - 1))) ∧ zFull A Y F (zT_undo V nu) (zf_undc W).2 := by
  obtain ⟨nu', hI, hz, hm⟩ := zCo_I h
  obtain rfl : nu' = nu := by
    have h9 := hI.2.1.1
    omega
  obtain ⟨e0, a1, a2, a3, ⟨nv, a4⟩, a5, a6, a7⟩ := zS_un h.1 hI hz h.2.2.2.2.1 hm h.2.2.2.2.2
  refine ⟨e0, zF_s h hl he (zCo_of a1 a4 a5 a6 a2 a3) (fun o k ho => ?_) (fun o k ho => ?_)⟩
  · have h9 := ho
    unfold zVx at h9
    by_cases c3 : o = 3
    · subst c3
      obtain ⟨j, rfl⟩ : ∃ j, k = 2000 + j := ⟨k - 2000, by omega⟩
      exact a7 j (by unfold zKj; omega)
    · unfold zT_undo
      split
      · exact zVx_rf ho
      · refine (zVx_tell ho).trans ((zc_cp_o c3).trans ((zp_set_ne (by omega)).trans (zVx_0 ho)))
  · have h9 := ho
    unfold zWx at h9
    unfold zf_undc
    have ht : (zf_tkb3 W).2 o k = W o k := zf_tkb3_f (fun hm => by
      simp only [List.mem_cons, List.not_mem_nil, or_false] at hm
      omega)
    split
    · show (zf_ans (zf_tkb3 W).2 _).2 o k = W o k
      exact (zWx_ans ho).trans ht
    · show (zf_rfs (zf_tkb3 W).2 (-3)).2 o k = W o k
      exact (zWx_rfs ho).trans ht
