/-! part l2: the reference, orders, over logical cells: the doings of the model of type 92; runOne -/
/-- nothing else is written than the row and what can be undone -/
noncomputable def zo_kp (V V' : Nat → Nat → Int) : Prop := ∀ o k, o ≠ 3 → o ≠ 6 → o ≠ 7 → (o ≠ 0 ∨ k ≠ 8) → V' o k = V o k
theorem zo_kp_i {V : Nat → Nat → Int} : zo_kp V V := fun _ _ _ _ _ _ => rfl
theorem zo_kp_3 {V V' : Nat → Nat → Int} {k : Nat} {v : Int} (h : zo_kp V V') : zo_kp V (zp_set V' 3 k v) := fun o k' h3ξ h6ξ h7ξ h8ξ => (zp_set_ne (Or.inl h3ξ)).trans (h o k' h3ξ h6ξ h7ξ h8ξ)
theorem zo_kp_t {V V' V'' : Nat → Nat → Int} (h : zo_kp V V') (h' : zo_kp V' V'') : zo_kp V V'' := fun o k h3ξ h6ξ h7ξ h8ξ => (h' o k h3ξ h6ξ h7ξ h8ξ).trans (h o k h3ξ h6ξ h7ξ h8ξ)
theorem zo_kp_r {V : Nat → Nat → Int} {s : Int} {n : Nat} : zo_kp V (zT_rem V s n) := fun o k h3ξ h6ξ h7ξ h8ξ => by
  unfold zT_rem
  split
  · rw [zp_set_ne h8ξ, zp_set_ne (Or.inl h7ξ), zc_cp_o h6ξ, zp_set_ne h8ξ, zc_cp_o h7ξ, zc_cp_o h6ξ]
  · rw [zp_set_ne h8ξ, zp_set_ne (Or.inl h7ξ), zc_cp_o h6ξ]
theorem zo_kp_wea {V : Nat → Nat → Int} {L : List yK} {t : Int} : zo_kp V (zf_wea V L t).2 := fun o k h3ξ _ _ _ => zf_wea_f (fun h => h3ξ (List.mem_singleton.mp h))
theorem zo_kp_wnn {V : Nat → Nat → Int} {n : Nat} {L : List yK} {t : Int} : zo_kp V (zf_wnn V n L t).2 := by
  unfold zf_wnn
  repeat' split
  all_goals first | exact zo_kp_i | exact zo_kp_t zo_kp_r zo_kp_wea
theorem zo_kp_mnn {V : Nat → Nat → Int} {n : Nat} {t : Int} : zo_kp V (zf_mnn V n t).2 := by
  unfold zf_mnn
  repeat' split
  all_goals first | exact zo_kp_i | exact zo_kp_3 (zo_kp_3 zo_kp_r)
theorem zo_kp_kyn {V : Nat → Nat → Int} {n m : Nat} {L : List yK} {t s : Int} : zo_kp V (zf_kyn V n m L t s).2 := by
  unfold zf_kyn
  repeat' split
  all_goals first | exact zo_kp_i | exact zo_kp_3 zo_kp_r
theorem zo_kp_dn {V : Nat → Nat → Int} {X : (Nat → Int) × (Nat → Int)} : ∀ {w : Nat}, zo_kp V (zc_dn V X w)
  | 0 => zo_kp_i
  | _ + 1 => zo_kp_3 zo_kp_dn
theorem zo_kp_pl {V : Nat → Nat → Int} : ∀ {p : Nat}, zo_kp V (zc_pl V p)
  | 0 => zo_kp_i
  | _ + 1 => zo_kp_3 (zo_kp_3 zo_kp_pl)
theorem zo_kp_rud {V : Nat → Nat → Int} {n m : Nat} {L : List yK} : zo_kp V (zf_rud V n m L).2 := zo_kp_3 (zo_kp_3 (zo_kp_t zo_kp_dn zo_kp_pl))
theorem zo_kp_rnn {V : Nat → Nat → Int} {u n m : Nat} {L : List yK} : zo_kp V (zf_rnn V u n m L).2 := by
  unfold zf_rnn
  repeat' split
  all_goals first | exact zo_kp_i | exact zo_kp_t zo_kp_r zo_kp_rud
/-- what holdsξ of the reference where doings are done -/
noncomputable def zRI (V : Nat → Nat → Int) (nuξ n1ξ npξ : Nat) (Lwξ : List yK) : Prop := zLV V Lwξ ∧ (V 0 8 = (nuξ : Int) ∧ nuξ ≤ 16) ∧ zd_ok (zRw V) n1ξ npξ ∧ V 0 47 = -1 ∧ (-1 ≤ V 3 (2000 + 10) ∧ V 3 (2000 + 10) ≤ 12) ∧ (0 ≤ V 3 (2000 + 5) ∧ V 3 (2000 + 5) ≤ 999) ∧ (0 ≤ V 3 (2000 + 8) ∧ V 3 (2000 + 8) ≤ 9999) ∧ ∀ p, p < npξ → 0 ≤ V 3 (2000 + (3 * p + 11)) ∧ V 3 (2000 + (3 * p + 11)) ≤ 9
theorem zRI_e {V V' : Nat → Nat → Int} {nuξ n1ξ npξ : Nat} {Lwξ : List yK} (h3ξ : ∀ k, V' 3 k = V 3 k) (h8ξ : V' 0 8 = V 0 8) (h47ξ : V' 0 47 = V 0 47) (h20ξ : V' 0 20 = V 0 20) (h : zRI V nuξ n1ξ npξ Lwξ) : zRI V' nuξ n1ξ npξ Lwξ := by
  obtain ⟨a1, ⟨a2, a3⟩, a4, a5, a6, a7, a8, a9ξ⟩ := h
  refine ⟨zLV_e h3ξ h20ξ a1, ⟨(Eq.trans h8ξ) a2, a3⟩, zd_ok_c (fun j => h3ξ (2000 + j)) a4, (Eq.trans h47ξ) a5, ?_, ?_, ?_, fun p hpξ => ?_⟩
  · rw [h3ξ]
    exact a6
  · rw [h3ξ]
    exact a7
  · rw [h3ξ]
    exact a8
  · rw [h3ξ]
    exact a9ξ p hpξ
/-- the words of orders are set -/
noncomputable def zo_hd (V : Nat → Nat → Int) : Nat → Nat → Int := zp_set (zp_set (zp_set (zp_set (zp_set (zp_set V 36 (2000 + 1) (V 3 (2000 + 5))) 36 (2000 + 2) (V 3 (2000 + 10))) 36 (2000 + 3) (V 3 (2000 + 8))) 36 (2000 + 4) (V 0 57)) 36 (2000 + 5) (V 0 58)) 0 60 0
theorem zo_hd_o {V : Nat → Nat → Int} {o k : Nat} (h : o ≠ 36) (h0ξ : o ≠ 0 ∨ k ≠ 60) : zo_hd V o k = V o k := by
  unfold zo_hd
  rw [zp_set_ne h0ξ, zp_set_ne (Or.inl h), zp_set_ne (Or.inl h), zp_set_ne (Or.inl h), zp_set_ne (Or.inl h), zp_set_ne (Or.inl h)]
theorem zo_hd_w {V : Nat → Nat → Int} : zo_hd V 36 (2000 + 1) = V 3 (2000 + 5) ∧ zo_hd V 36 (2000 + 2) = V 3 (2000 + 10) ∧ zo_hd V 36 (2000 + 3) = V 3 (2000 + 8) ∧ zo_hd V 36 (2000 + 4) = V 0 57 ∧ zo_hd V 36 (2000 + 5) = V 0 58 ∧ zo_hd V 0 60 = 0 := ⟨rfl, rfl, rfl, rfl, rfl, rfl⟩
/-- a clause of orders stands at c -/
noncomputable def zo_K (V : Nat → Nat → Int) (c : Nat) (K : yK) : Prop := (V 56 (2000 + c) = K.1 ∧ 0 ≤ K.1 ∧ K.1 ≤ 3) ∧ zo_sq V (c + 1) K.2.1 ∧ zo_sq V (c + 3) K.2.2.1 ∧ zo_sq V (c + 5) K.2.2.2.2
theorem zo_sq_e {V V' : Nat → Nat → Int} {i : Nat} {xo : Option yD} (h56ξ : ∀ k, V' 56 k = V 56 k) (h24ξ : ∀ k, V' 24 k = V 24 k) (h25ξ : ∀ k, V' 25 k = V 25 k) (h : zo_sq V i xo) : zo_sq V' i xo := by
  unfold zo_sq
  rw [h56ξ, h56ξ, show (fun q => V' 24 (2000 + q)) = fun q => V 24 (2000 + q) from funext fun q => h24ξ _, show (fun q => V' 25 (2000 + q)) = fun q => V 25 (2000 + q) from funext fun q => h25ξ _]
  exact h
theorem zo_K_e {V V' : Nat → Nat → Int} {c : Nat} {K : yK} (h56ξ : ∀ k, V' 56 k = V 56 k) (h24ξ : ∀ k, V' 24 k = V 24 k) (h25ξ : ∀ k, V' 25 k = V 25 k) (h : zo_K V c K) : zo_K V' c K := by
  obtain ⟨⟨a1, a2⟩, a3, a4, a5⟩ := h
  exact ⟨⟨(h56ξ _).trans a1, a2⟩, zo_sq_e h56ξ h24ξ h25ξ a3, zo_sq_e h56ξ h24ξ h25ξ a4, zo_sq_e h56ξ h24ξ h25ξ a5⟩
/-- what else is asked -/
noncomputable def zo_rA (V : Nat → Nat → Int) : Prop := (∀ j, j < 400 → -2147483648 ≤ V 25 (2000 + j) ∧ V 25 (2000 + j) ≤ 2147483647) ∧ (0 ≤ V 0 57 ∧ V 0 57 ≤ 100000) ∧ -2147483648 ≤ V 0 58 ∧ V 0 58 ≤ 2147483647
theorem zo_rv_h {V : Nat → Nat → Int} {nuξ n1ξ npξ : Nat} {Lwξ : List yK} (h : zRI V nuξ n1ξ npξ Lwξ) (hAξ : zo_rA V) : zo_rv (zo_hd V) := by
  obtain ⟨a1, a2, a4, a5, a6, a7, a8, a9ξ⟩ := h
  obtain ⟨c1, c2, c3⟩ := hAξ
  obtain ⟨d1, d2, d3, d4, d5, d6⟩ := a4
  obtain ⟨w1ξ, w2, w3, w4, w5, -⟩ := zo_hd_w (V := V)
  have h3ξ : ∀ k, zo_hd V 3 k = V 3 k := fun k => zo_hd_o (by decide) (Or.inl (by decide))
  have e3 : (fun j => zo_hd V 3 (2000 + j)) = zRw V := funext fun j => h3ξ _
  refine ⟨fun j hjξ => by rw [h3ξ]; exact a1.1 j hjξ, ?_, fun j hjξ => by rw [zo_hd_o (by decide) (Or.inl (by decide))]; exact c1 j hjξ, fun j j0 hjξ => ?_⟩
  · rw [e3]
    refine ⟨by omega, by omega, fun w hwξ => ?_⟩
    have := d5 w (by omega)
    omega
  · have hj5ξ : j = 1 ∨ j = 2 ∨ j = 3 ∨ j = 4 ∨ j = 5 := by omega
    rcases hj5ξ with rfl | rfl | rfl | rfl | rfl
    · rw [w1ξ]
      omega
    · rw [w2]
      omega
    · rw [w3]
      omega
    · rw [w4]
      omega
    · rw [w5]
      omega
/-- is a clause's test so; a sum's number -/
noncomputable def zo_tb (en : Int → Int → Int) (xo : Option yD) : Bool := match xo with
  | none => true
  | some y => match y en with
    | some v => decide (v ≠ 0)
    | none => false
noncomputable def zo_1 (en : Int → Int → Int) (xo : Option yD) : Option Int := match xo with
  | none => some (-1)
  | some x => x en
theorem zo_sp_1 {V : Nat → Nat → Int} {xo : Option yD} {o' rn : Int} (h0ξ : V 0 60 = 0) (h : zo_sp V xo o' rn) : (∃ v, zo_1 (zo_eV V) xo = some v ∧ o' = 0 ∧ rn = v) ∨ (zo_1 (zo_eV V) xo = none ∧ o' = 1) := by
  unfold zo_1
  cases xo with
  | none =>
    obtain ⟨h1ξ, h2ξ⟩ := h.1 (Or.inr rfl)
    exact Or.inl ⟨-1, rfl, (Eq.trans h1ξ) h0ξ, h2ξ⟩
  | some x =>
    obtain ⟨h1ξ, h2ξ⟩ := h.2 x h0ξ rfl
    cases hx : x (zo_eV V) with
    | none => exact Or.inr ⟨hx, h2ξ hx⟩
    | some v => exact Or.inl ⟨v, hx, h1ξ v hx⟩
/-- a clause's doing -/
noncomputable def zo_do (V : Nat → Nat → Int) (nuξ n1ξ npξ : Nat) (Lwξ : List yK) (h a b : Int) : Int × (Nat → Nat → Int) := if h = 0 then zf_wnn V nuξ Lwξ a else if h = 1 then zf_kyn V nuξ npξ Lwξ a b else if h = 2 then zf_rnn V nuξ n1ξ npξ Lwξ else zf_mnn V nuξ a
theorem zo_kp_do {V : Nat → Nat → Int} {nuξ n1ξ npξ : Nat} {Lwξ : List yK} {h a b : Int} : zo_kp V (zo_do V nuξ n1ξ npξ Lwξ h a b).2 := by
  unfold zo_do
  repeat' split
  · exact zo_kp_wnn
  · exact zo_kp_kyn
  · exact zo_kp_rnn
  · exact zo_kp_mnn
/-- a clause is run once -/
noncomputable def zo_run (V : Nat → Nat → Int) (nuξ n1ξ npξ : Nat) (Lwξ : List yK) (K : yK) : Int × (Nat → Nat → Int) :=
  if zo_tb (zo_eV (zo_hd V)) K.2.2.2.2 = true then
    match zo_1 (zo_eV (zo_hd V)) K.2.1, zo_1 (zo_eV (zo_hd V)) K.2.2.1 with
    | some a, some b => if (zo_do (zo_hd V) nuξ n1ξ npξ Lwξ K.1 a b).1 < 0 then (-3, (zo_do (zo_hd V) nuξ n1ξ npξ Lwξ K.1 a b).2) else (0, zp_set (zp_set (zo_do (zo_hd V) nuξ n1ξ npξ Lwξ K.1 a b).2 0 58 (if K.1 = 2 then (zo_do (zo_hd V) nuξ n1ξ npξ Lwξ K.1 a b).1 else V 0 58)) 0 57 (V 0 57 + 1))
    | _, _ => (-3, zo_hd V)
  else (0, zo_hd V)
theorem zMVq_s {A : Nat → Nat} {V : Nat → Nat → Int} {P : Nat → Option Nat} {G : Nat → Nat → Int} {o k : Nat} {v : Int} (h : V o k = v) (hMξ : zMVq A (zp_set V o k v) P G) : zMVq A V P G := by
  rw [← h, zp_set_id] at hMξ
  exact hMξ
theorem zMVq_u {A : Nat → Nat} {V : Nat → Nat → Int} {P : Nat → Option Nat} {G : Nat → Nat → Int} (h : zMVq A V P G) {o k : Nat} : ∃ z : Int, zMVq A (zp_set V o k z) P G := ⟨V o k, by rw [zp_set_id]; exact h⟩
theorem zp_set_set {V : Nat → Nat → Int} {o k : Nat} {v v' : Int} : zp_set (zp_set V o k v) o k v' = zp_set V o k v' := by
  funext o' k'
  unfold zp_set
  split <;> rfl
theorem zo_rv_60 {V : Nat → Nat → Int} {v : Int} (h : zo_rv V) : zo_rv (zp_set V 0 60 v) := by
  have e : ∀ o k, o ≠ 0 → zp_set V 0 60 v o k = V o k := fun o k hoξ => zp_set_ne (Or.inl hoξ)
  obtain ⟨h1ξ, h2ξ, h3ξ, h4ξ⟩ := h
  have e3 : (fun j => zp_set V 0 60 v 3 (2000 + j)) = fun j => V 3 (2000 + j) := funext fun j => e 3 _ (by decide)
  refine ⟨fun j hjξ => by rw [e 3 _ (by decide)]; exact h1ξ j hjξ, ?_, fun j hjξ => by rw [e 25 _ (by decide)]; exact h3ξ j hjξ, fun j j0 hjξ => by rw [e 36 _ (by decide)]; exact h4ξ j j0 hjξ⟩
  rw [e3]
  exact h2ξ
noncomputable def zK_todq : zk_K := (zt_mn 241, prog_14_method_16_code, 1, (Option.some Jvm.ClassFile.FieldType.int), 1, 12, [(2, 92, 0, 0)], [(some (0, 0, (-2147483648), 2147483647), [])], [], (0, 0, 0, 0))
noncomputable def zφ_todq (A : Nat → Nat) (M : Nat → Nat → Int) : (Nat → Option Nat) → (Nat → Nat → Int) → List Int → Prop := fun P G ps => zM A zYq zFq M P G ∧ ps.getD 0 0 = (A 0 : Int) ∧ -2147483648 ≤ M 3 (2000 + 5) ∧ M 3 (2000 + 5) ≤ 2147483647
noncomputable def zψ_todq (A : Nat → Nat) (M : Nat → Nat → Int) : (Nat → Option Nat) → (Nat → Nat → Int) → List Int → (Nat → Option Nat) → (Nat → Nat → Int) → Int → Prop := fun P G ps P' G' rn => P' = P ∧ G' = G ∧ rn = M 3 (2000 + 5)
theorem zX_todq {l : Launch} {w : zk_W} (hWξ : zh_W w) (A : Nat → Nat) (M : Nat → Nat → Int) : zk_metX l w zt_dv zt_TB zK_todq (zp_A (zφ_todq A M)) (zp_B (zψ_todq A M)) ∧ zk_cok w zt_TB zK_todq := by
  refine zp_methX (cn := "WoundTownModel") zp_lkall hWξ (pl := 1813) rfl (by decide +kernel) (fun p e R s m args below meth c Q u hx hb hEξ hQξ hU5ξ heffξ hnLξ hokξ hφ => ?_)
  have hwξ := hWξ.1
  obtain ⟨p0ξ, hpsξ, tk0⟩ := zp_ps1 hokξ
  have hrmξ : zk_Kr (zk_ev (zt_types, zp_lk, zt_dv, [], [], zp_lc, zK_todq)) = zk_Kr zK_todq := rfl
  rw [hpsξ] at hφ ⊢
  have hφ : zM A zYq zFq M u.1 (zp_n u.2.1) ∧ p0ξ = (A 0 : Int) ∧ -2147483648 ≤ M 3 (2000 + 5) ∧ M 3 (2000 + 5) ≤ 2147483647 := hφ
  obtain ⟨hMξ, rfl, hE1ξ, hE2ξ⟩ := hφ
  show zp_J p l e R s m args below meth c Q w u [] 0 [(0, 2, (A 0 : Int))] [] u.1 (zp_n u.2.1)
  refine zp_load (pc := 0) hx hb (zd_X12_today (0, .aload_n 0, 1, 0, []) (List.mem_of_getElem? (i := 0) rfl)) rfl (j := 0) rfl ?_
  refine zp_getf (n := (A 3 : Int)) (pc := 1) hx hb hEξ hwξ (zd_X12_today (1, .getfield 13, 3, 0, []) (List.mem_of_getElem? (i := 1) rfl)) (j := 21) rfl rfl rfl (zM_P hMξ (List.mem_of_getElem? (i := 0) rfl)) ((zM_G hMξ (List.mem_of_getElem? (i := 0) rfl) 3).trans (zM_F hMξ (List.mem_of_getElem? (i := 1) rfl))) ?_
  refine zp_const (pc := 4) hx hb (zd_X12_today (4, .iconst 5, 1, 0, []) (List.mem_of_getElem? (i := 2) rfl)) rfl rfl ?_
  refine zp_ialdT (j := 5) (v := (M 3 (2000 + 5))) (pc := 5) hx hb hwξ (zd_X12_today (5, .iaload, 1, 0, []) (List.mem_of_getElem? (i := 3) rfl)) zl_T59 rfl (zl_kd 5) (zM_P hMξ (List.mem_of_getElem? (i := 2) rfl)) (by omega) (show 5 < 5580 by omega) (zM_G hMξ (List.mem_of_getElem? (i := 2) rfl) (2000 + 5)) (fun _ => ?_)
  refine zp_iret (pc := 6) (n := (M 3 (2000 + 5))) hx hb hEξ hQξ hU5ξ rfl (by decide) (zd_X12_today (6, .ireturn, 1, 0, []) (List.mem_of_getElem? (i := 4) rfl)) (j := 0) rfl (zp_o0 (by omega) (by omega) (by omega) (by omega)) ?_
  rw [hpsξ]
  refine ⟨rfl, rfl, ?_⟩
  rfl
theorem zX_wnnq {l : Launch} {w : zk_W} (hWξ : zh_W w) (A : Nat → Nat) (V : Nat → Nat → Int) (nuξ : Nat) (Lwξ : List yK) (h20ξ : V 0 20 = 0) : zk_metX l w zt_dv zt_TB (zp_swK zK_wnn 13 92) (zp_A (fun P G ps => zMVq A V P G ∧ ps.getD 0 0 = (A 0 : Int) ∧ zLV V Lwξ ∧ V 0 8 = (nuξ : Int) ∧ nuξ ≤ 16 ∧ 0 ≤ V 3 (2000 + 5))) (zp_B (fun P _ ps P' G' rn => P' = P ∧ zMVq A (zf_wnn V nuξ Lwξ (ps.getD 1 0)).2 P' G' ∧ rn = (zf_wnn V nuξ Lwξ (ps.getD 1 0)).1)) ∧ zk_cok w zt_TB (zp_swK zK_wnn 13 92) :=
  zs_V (ρ := fun _ => zLV V Lwξ ∧ V 0 8 = (nuξ : Int) ∧ nuξ ≤ 16 ∧ 0 ≤ V 3 (2000 + 5)) (V' := fun ps => (zf_wnn V nuξ Lwξ (ps.getD 1 0)).2) (σ := fun ps rn => rn = (zf_wnn V nuξ Lwξ (ps.getD 1 0)).1) hWξ h20ξ (zX_wnn hWξ A V nuξ Lwξ) (by decide +kernel)
theorem zX_kynq {l : Launch} {w : zk_W} (hWξ : zh_W w) (A : Nat → Nat) (V : Nat → Nat → Int) (nuξ npξ : Nat) (Lwξ : List yK) (h20ξ : V 0 20 = 0) : zk_metX l w zt_dv zt_TB (zp_swK zK_kyn 13 92) (zp_A (fun P G ps => zMVq A V P G ∧ ps.getD 0 0 = (A 0 : Int) ∧ zLV V Lwξ ∧ V 0 8 = (nuξ : Int) ∧ nuξ ≤ 16 ∧ V 3 (2000 + 0) = (npξ : Int) ∧ npξ ≤ 6 ∧ (∀ p, p < npξ → 0 ≤ V 3 (2000 + (3 * p + 13)) ∧ V 3 (2000 + (3 * p + 13)) ≤ 9))) (zp_B (fun P _ ps P' G' rn => P' = P ∧ zMVq A (zf_kyn V nuξ npξ Lwξ (ps.getD 1 0) (ps.getD 2 0)).2 P' G' ∧ rn = (zf_kyn V nuξ npξ Lwξ (ps.getD 1 0) (ps.getD 2 0)).1)) ∧ zk_cok w zt_TB (zp_swK zK_kyn 13 92) :=
  zs_V (ρ := fun _ => zLV V Lwξ ∧ V 0 8 = (nuξ : Int) ∧ nuξ ≤ 16 ∧ V 3 (2000 + 0) = (npξ : Int) ∧ npξ ≤ 6 ∧ (∀ p, p < npξ → 0 ≤ V 3 (2000 + (3 * p + 13)) ∧ V 3 (2000 + (3 * p + 13)) ≤ 9)) (V' := fun ps => (zf_kyn V nuξ npξ Lwξ (ps.getD 1 0) (ps.getD 2 0)).2) (σ := fun ps rn => rn = (zf_kyn V nuξ npξ Lwξ (ps.getD 1 0) (ps.getD 2 0)).1) hWξ h20ξ (zX_kyn hWξ A V nuξ npξ Lwξ) (by decide +kernel)
theorem zX_rnnq {l : Launch} {w : zk_W} (hWξ : zh_W w) (A : Nat → Nat) (V : Nat → Nat → Int) (nuξ n1ξ npξ : Nat) (Lwξ : List yK) (h20ξ : V 0 20 = 0) : zk_metX l w zt_dv zt_TB (zp_swK zK_rnn 13 92) (zp_A (fun P G ps => zMVq A V P G ∧ ps.getD 0 0 = (A 0 : Int) ∧ zLV V Lwξ ∧ V 0 8 = (nuξ : Int) ∧ nuξ ≤ 16 ∧ zd_ok (zRw V) n1ξ npξ ∧ V 0 47 = -1 ∧ (-1 ≤ V 3 (2000 + 10) ∧ V 3 (2000 + 10) ≤ 12) ∧ (0 ≤ V 3 (2000 + 5) ∧ V 3 (2000 + 5) ≤ 999) ∧ (∀ p, p < npξ → 0 ≤ V 3 (2000 + (3 * p + 11)) ∧ V 3 (2000 + (3 * p + 11)) ≤ 9))) (zp_B (fun P _ ps P' G' rn => P' = P ∧ zMVq A (zf_rnn V nuξ n1ξ npξ Lwξ).2 P' G' ∧ rn = (zf_rnn V nuξ n1ξ npξ Lwξ).1)) ∧ zk_cok w zt_TB (zp_swK zK_rnn 13 92) :=
  zs_V (ρ := fun _ => zLV V Lwξ ∧ V 0 8 = (nuξ : Int) ∧ nuξ ≤ 16 ∧ zd_ok (zRw V) n1ξ npξ ∧ V 0 47 = -1 ∧ (-1 ≤ V 3 (2000 + 10) ∧ V 3 (2000 + 10) ≤ 12) ∧ (0 ≤ V 3 (2000 + 5) ∧ V 3 (2000 + 5) ≤ 999) ∧ (∀ p, p < npξ → 0 ≤ V 3 (2000 + (3 * p + 11)) ∧ V 3 (2000 + (3 * p + 11)) ≤ 9)) (V' := fun ps => (zf_rnn V nuξ n1ξ npξ Lwξ).2) (σ := fun ps rn => rn = (zf_rnn V nuξ n1ξ npξ Lwξ).1) hWξ h20ξ (zX_rnn hWξ A V nuξ n1ξ npξ Lwξ) (by decide +kernel)
theorem zX_mnnq {l : Launch} {w : zk_W} (hWξ : zh_W w) (A : Nat → Nat) (V : Nat → Nat → Int) (nuξ : Nat) (h20ξ : V 0 20 = 0) : zk_metX l w zt_dv zt_TB (zp_swK zK_mnn 13 92) (zp_A (fun P G ps => zMVq A V P G ∧ ps.getD 0 0 = (A 0 : Int) ∧ 0 ≤ V 3 (2000 + 8) ∧ V 3 (2000 + 8) ≤ 9999 ∧ -1 ≤ V 3 (2000 + 10) ∧ V 3 (2000 + 10) ≤ 12 ∧ V 0 8 = (nuξ : Int) ∧ nuξ ≤ 16)) (zp_B (fun P _ ps P' G' rn => P' = P ∧ zMVq A (zf_mnn V nuξ (ps.getD 1 0)).2 P' G' ∧ rn = (zf_mnn V nuξ (ps.getD 1 0)).1)) ∧ zk_cok w zt_TB (zp_swK zK_mnn 13 92) :=
  zs_V (ρ := fun _ => 0 ≤ V 3 (2000 + 8) ∧ V 3 (2000 + 8) ≤ 9999 ∧ -1 ≤ V 3 (2000 + 10) ∧ V 3 (2000 + 10) ≤ 12 ∧ V 0 8 = (nuξ : Int) ∧ nuξ ≤ 16) (V' := fun ps => (zf_mnn V nuξ (ps.getD 1 0)).2) (σ := fun ps rn => rn = (zf_mnn V nuξ (ps.getD 1 0)).1) hWξ h20ξ (zX_mnn hWξ A V nuξ) (by decide +kernel)
noncomputable def zK_roq : zk_K := (zt_mn 290, prog_14_method_111_code, 6, (Option.some Jvm.ClassFile.FieldType.int), 1, 12, [(2, 92, 0, 0), (0, 0, 0, 88)], [(some (0, 0, (-2147483648), 2147483647), [])], zUQ, (8, 500, 0, 0))
noncomputable def zφ_roq (A : Nat → Nat) (V : Nat → Nat → Int) (c8 nuξ n1ξ npξ : Nat) (K : yK) (Lwξ : List yK) : (Nat → Option Nat) → (Nat → Nat → Int) → List Int → Prop := fun P G ps => zMVq A V P G ∧ ps.getD 0 0 = (A 0 : Int) ∧ (ps.getD 1 0) = (c8 : Int) ∧ c8 + 8 ≤ 96 ∧ zRI V nuξ n1ξ npξ Lwξ ∧ zo_K V c8 K ∧ zo_rA V
noncomputable def zψ_roq (A : Nat → Nat) (V : Nat → Nat → Int) (c8 nuξ n1ξ npξ : Nat) (K : yK) (Lwξ : List yK) : (Nat → Option Nat) → (Nat → Nat → Int) → List Int → (Nat → Option Nat) → (Nat → Nat → Int) → Int → Prop := fun P G ps P' G' rn => P' = P ∧ ∃ o' : Int, zMVq A (zp_set (zo_run V nuξ n1ξ npξ Lwξ K).2 0 60 o') P' G' ∧ rn = (zo_run V nuξ n1ξ npξ Lwξ K).1
theorem zX_roq {l : Launch} {w : zk_W} (hWξ : zh_W w) (A : Nat → Nat) (V : Nat → Nat → Int) (c8 nuξ n1ξ npξ : Nat) (K : yK) (Lwξ : List yK) : zk_metX l w zt_dv zt_TB zK_roq (zp_A (zφ_roq A V c8 nuξ n1ξ npξ K Lwξ)) (zp_B (zψ_roq A V c8 nuξ n1ξ npξ K Lwξ)) ∧ zk_cok w zt_TB zK_roq := by
  refine zp_methX (cn := "WoundTownModel") zp_lkall hWξ (pl := 2021) rfl (by decide +kernel) (fun p e R s m args below meth c Q u hx hb hEξ hQξ hU5ξ heffξ hnLξ hokξ hφ => ?_)
  have hwξ := hWξ.1
  obtain ⟨p0ξ, p1ξ, hpsξ, tk0, tk1⟩ := zp_ps2 hokξ
  have hrmξ : zk_Kr (zk_ev (zt_types, zp_lk, zt_dv, [], [], zp_lc, zK_roq)) = zk_Kr zK_roq := rfl
  rw [hpsξ] at hφ ⊢
  have hφ : zMVq A V u.1 (zp_n u.2.1) ∧ p0ξ = (A 0 : Int) ∧ p1ξ = (c8 : Int) ∧ c8 + 8 ≤ 96 ∧ zRI V nuξ n1ξ npξ Lwξ ∧ zo_K V c8 K ∧ zo_rA V := hφ
  obtain ⟨⟨M, hMξ, hVξ, hSbξ⟩, rfl, rfl, hc96ξ, hRIξ, hKξ, hrAξ⟩ := hφ
  have hi1ξ := zp_int tk1
  show zp_J p l e R s m args below meth c Q w u [] 0 [(0, 2, (A 0 : Int)), (1, 0, (c8 : Int))] [] u.1 (zp_n u.2.1)
  have h20ξ : V 0 20 = 0 := hRIξ.1.2.2.2.2
  have hR9ξ := hRIξ.1.1
  have hr5ξ := hR9ξ 5 (by decide)
  have hr8ξ := hR9ξ 8 (by decide)
  have hr10ξ := hR9ξ 10 (by decide)
  have hrA2ξ := hrAξ.2
  have hRhξ : zRI (zo_hd V) nuξ n1ξ npξ Lwξ := zRI_e (fun k => zo_hd_o (by decide) (Or.inl (by decide))) (zo_hd_o (by decide) (Or.inr (by decide))) (zo_hd_o (by decide) (Or.inr (by decide))) (zo_hd_o (by decide) (Or.inr (by decide))) hRIξ
  have hKhξ : zo_K (zo_hd V) c8 K := zo_K_e (fun k => zo_hd_o (by decide) (Or.inl (by decide))) (fun k => zo_hd_o (by decide) (Or.inl (by decide))) (fun k => zo_hd_o (by decide) (Or.inl (by decide))) hKξ
  have hvhξ := zo_rv_h hRIξ hrAξ
  have h20hξ : zo_hd V 0 20 = 0 := (zo_hd_o (by decide) (Or.inr (by decide))).trans h20ξ
  have h60hξ : zo_hd V 0 60 = 0 := rfl
  have h57hξ : zo_hd V 0 57 = V 0 57 := zo_hd_o (by decide) (Or.inr (by decide))
  have h58hξ : zo_hd V 0 58 = V 0 58 := zo_hd_o (by decide) (Or.inr (by decide))
  have h187ξ : ∀ (D : Int × (Nat → Nat → Int)) (G : Nat → Nat → Int), zo_kp (zo_hd V) D.2 → (-2147483648 ≤ D.1 ∧ D.1 ≤ 2147483647) → zMVq A D.2 u.1 G → (D.1 < 0 → zo_run V nuξ n1ξ npξ Lwξ K = (-3, D.2)) → (¬ D.1 < 0 → zo_run V nuξ n1ξ npξ Lwξ K = (0, zp_set (zp_set D.2 0 58 (if K.1 = 2 then D.1 else V 0 58)) 0 57 (V 0 57 + 1))) → zp_J p l e R s m args below meth c Q w u [] 187 [(4, 0, K.1), (0, 2, (A 0 : Int)), (1, 0, (c8 : Int))] [(0, D.1)] u.1 G := by
    intro D G hkpξ hDbξ hMVξ hnξ hyξ
    obtain ⟨Md, hMdξ, hVMdξ, hSMdξ⟩ := hMVξ
    have h57dξ : D.2 0 57 = V 0 57 := (hkpξ 0 57 (by decide) (by decide) (by decide) (Or.inr (by decide))).trans h57hξ
    have h58dξ : D.2 0 58 = V 0 58 := (hkpξ 0 58 (by decide) (by decide) (by decide) (Or.inr (by decide))).trans h58hξ
    refine zp_store (L' := [(5, 0, D.1), (4, 0, K.1), (0, 2, (A 0 : Int)), (1, 0, (c8 : Int))]) (pc := 187) hx hb hnLξ (zd_X12_runOne (187, .istore 5, 2, 0, []) (List.mem_of_getElem? (i := 113) rfl)) rfl rfl rfl ?_
    refine zp_load (pc := 189) hx hb (zd_X12_runOne (189, .iload 5, 2, 0, []) (List.mem_of_getElem? (i := 114) rfl)) rfl (j := 0) rfl ?_
    refine zp_if (pc := 191) (tgt := 197) hx hb (zd_X12_runOne (191, .ifCond .ge 6, 3, 0, []) (List.mem_of_getElem? (i := 115) rfl)) rfl (fun (hc341ξ : 0 ≤ D.1) => ?_) (fun (hc341ξ : ¬ (0 ≤ D.1)) => ?_)
    · refine zp_load (pc := 197) hx hb (zd_X12_runOne (197, .aload_n 0, 1, 0, []) (List.mem_of_getElem? (i := 118) rfl)) rfl (j := 2) rfl ?_
      refine zp_load (pc := 198) hx hb (zd_X12_runOne (198, .iload 4, 2, 0, []) (List.mem_of_getElem? (i := 119) rfl)) rfl (j := 1) rfl ?_
      refine zp_const (pc := 200) hx hb (zd_X12_runOne (200, .iconst 2, 1, 0, []) (List.mem_of_getElem? (i := 120) rfl)) rfl rfl ?_
      refine zp_icmp (pc := 201) (tgt := 209) hx hb (zd_X12_runOne (201, .if_icmp .ne 8, 3, 0, []) (List.mem_of_getElem? (i := 121) rfl)) rfl (fun (hc342ξ : ¬ K.1 = 2) => ?_) (fun (hc342ξ : ¬ (¬ K.1 = 2)) => ?_)
      · refine zp_load (pc := 209) hx hb (zd_X12_runOne (209, .aload_n 0, 1, 0, []) (List.mem_of_getElem? (i := 124) rfl)) rfl (j := 2) rfl ?_
        refine zp_getf (n := (V 0 58)) (pc := 210) hx hb hEξ hwξ (zd_X12_runOne (210, .getfield 543, 3, 0, []) (List.mem_of_getElem? (i := 125) rfl)) (j := 76) rfl rfl rfl (zM_P hMdξ (List.mem_of_getElem? (i := 0) rfl)) (((zM_G hMdξ (List.mem_of_getElem? (i := 0) rfl) 58).trans (hVMdξ 0 58 (Or.inr (by decide)))).trans h58dξ) ?_
        refine zp_kn (k := 58) (a := (A 0)) hwξ (show zp_fd 92 58 = some (12, 0, 0, (-2147483648), 2147483647) from rfl) rfl (zM_P hMdξ (List.mem_of_getElem? (i := 0) rfl)) (fun hf343ξ => ?_)
        have hf343bξ := zp_int hf343ξ
        rw [(((zM_G hMdξ (List.mem_of_getElem? (i := 0) rfl) 58).trans (hVMdξ 0 58 (Or.inr (by decide)))).trans h58dξ)] at hf343bξ
        clear hf343ξ
        refine zp_putf (pc := 213) hx hb hEξ hwξ heffξ (zd_X12_runOne (213, .putfield 543, 3, 0, []) (List.mem_of_getElem? (i := 126) rfl)) (j := 76) rfl rfl rfl (zM_P hMdξ (List.mem_of_getElem? (i := 0) rfl)) (zp_o0 (by omega) (by omega) (by omega) (by omega)) ?_
        refine zp_load (pc := 216) hx hb (zd_X12_runOne (216, .aload_n 0, 1, 0, []) (List.mem_of_getElem? (i := 127) rfl)) rfl (j := 2) rfl ?_
        refine zp_dup (pc := 217) hx hb (zd_X12_runOne (217, .dup, 1, 0, []) (List.mem_of_getElem? (i := 128) rfl)) (show (2 : Nat) ≠ 1 by decide) ?_
        refine zp_getf (n := (V 0 57)) (pc := 218) hx hb hEξ hwξ (zd_X12_runOne (218, .getfield 540, 3, 0, []) (List.mem_of_getElem? (i := 129) rfl)) (j := 75) rfl rfl rfl (zM_P hMdξ (List.mem_of_getElem? (i := 0) rfl)) ((zp_set_ne (Or.inr (by decide))).trans ((((zM_G hMdξ (List.mem_of_getElem? (i := 0) rfl) 57).trans (hVMdξ 0 57 (Or.inr (by decide)))).trans h57dξ))) ?_
        refine zp_kn (k := 57) (a := (A 0)) hwξ (show zp_fd 92 57 = some (12, 0, 0, (-2147483648), 2147483647) from rfl) rfl (zM_P hMdξ (List.mem_of_getElem? (i := 0) rfl)) (fun hf344ξ => ?_)
        have hf344bξ := zp_int hf344ξ
        rw [((zp_set_ne (Or.inr (by decide))).trans ((((zM_G hMdξ (List.mem_of_getElem? (i := 0) rfl) 57).trans (hVMdξ 0 57 (Or.inr (by decide)))).trans h57dξ)))] at hf344bξ
        clear hf344ξ
        refine zp_const (pc := 221) hx hb (zd_X12_runOne (221, .iconst 1, 1, 0, []) (List.mem_of_getElem? (i := 130) rfl)) rfl rfl ?_
        refine zp_add (n := ((V 0 57) + 1)) (pc := 222) hx hb (zd_X12_runOne (222, .iadd, 1, 0, []) (List.mem_of_getElem? (i := 131) rfl)) (by omega) (zp_r0 (by omega) (by omega)) ?_
        refine zp_putf (pc := 223) hx hb hEξ hwξ heffξ (zd_X12_runOne (223, .putfield 540, 3, 0, []) (List.mem_of_getElem? (i := 132) rfl)) (j := 75) rfl rfl rfl (zM_P hMdξ (List.mem_of_getElem? (i := 0) rfl)) (zp_o0 (by omega) (by omega) (by omega) (by omega)) ?_
        refine zp_const (pc := 226) hx hb (zd_X12_runOne (226, .iconst 0, 1, 0, []) (List.mem_of_getElem? (i := 133) rfl)) rfl rfl ?_
        refine zp_iret (pc := 227) (n := 0) hx hb hEξ hQξ hU5ξ rfl (by decide) (zd_X12_runOne (227, .ireturn, 1, 0, []) (List.mem_of_getElem? (i := 134) rfl)) (j := 0) rfl (zp_o0 (by omega) (by omega) (by omega) (by omega)) ?_
        rw [hpsξ]
        refine ⟨rfl, ?_⟩
        have hffξ := hyξ (by omega)
        rw [if_neg (by omega)] at hffξ
        rw [hffξ]
        obtain ⟨z9ξ, hz9ξ⟩ := zMVq_u (o := 0) (k := 60) (show zMVq A (zp_set (zp_set D.2 0 58 (V 0 58)) 0 57 ((V 0 57) + 1)) u.1 _ from ⟨(zp_set (zp_set Md 0 58 (V 0 58)) 0 57 ((V 0 57) + 1)), (zM_set (zM_set hMdξ (List.mem_of_getElem? (i := 0) rfl) (by decide)) (List.mem_of_getElem? (i := 0) rfl) (by decide)), (zV_set (zV_set hVMdξ)), (zSb_set (by decide) (zSb_set (by decide) hSMdξ))⟩)
        exact ⟨z9ξ, hz9ξ, rfl⟩
      · refine zp_load (pc := 204) hx hb (zd_X12_runOne (204, .iload 5, 2, 0, []) (List.mem_of_getElem? (i := 122) rfl)) rfl (j := 0) rfl ?_
        refine zp_goto (tgt := 213) (pc := 206) hx hb (zd_X12_runOne (206, .goto 7, 3, 0, []) (List.mem_of_getElem? (i := 123) rfl)) rfl ?_
        refine zp_putf (pc := 213) hx hb hEξ hwξ heffξ (zd_X12_runOne (213, .putfield 543, 3, 0, []) (List.mem_of_getElem? (i := 126) rfl)) (j := 76) rfl rfl rfl (zM_P hMdξ (List.mem_of_getElem? (i := 0) rfl)) (zp_o0 (by omega) (by omega) (by omega) (by omega)) ?_
        refine zp_load (pc := 216) hx hb (zd_X12_runOne (216, .aload_n 0, 1, 0, []) (List.mem_of_getElem? (i := 127) rfl)) rfl (j := 2) rfl ?_
        refine zp_dup (pc := 217) hx hb (zd_X12_runOne (217, .dup, 1, 0, []) (List.mem_of_getElem? (i := 128) rfl)) (show (2 : Nat) ≠ 1 by decide) ?_
        refine zp_getf (n := (V 0 57)) (pc := 218) hx hb hEξ hwξ (zd_X12_runOne (218, .getfield 540, 3, 0, []) (List.mem_of_getElem? (i := 129) rfl)) (j := 75) rfl rfl rfl (zM_P hMdξ (List.mem_of_getElem? (i := 0) rfl)) ((zp_set_ne (Or.inr (by decide))).trans ((((zM_G hMdξ (List.mem_of_getElem? (i := 0) rfl) 57).trans (hVMdξ 0 57 (Or.inr (by decide)))).trans h57dξ))) ?_
        refine zp_kn (k := 57) (a := (A 0)) hwξ (show zp_fd 92 57 = some (12, 0, 0, (-2147483648), 2147483647) from rfl) rfl (zM_P hMdξ (List.mem_of_getElem? (i := 0) rfl)) (fun hf345ξ => ?_)
        have hf345bξ := zp_int hf345ξ
        rw [((zp_set_ne (Or.inr (by decide))).trans ((((zM_G hMdξ (List.mem_of_getElem? (i := 0) rfl) 57).trans (hVMdξ 0 57 (Or.inr (by decide)))).trans h57dξ)))] at hf345bξ
        clear hf345ξ
        refine zp_const (pc := 221) hx hb (zd_X12_runOne (221, .iconst 1, 1, 0, []) (List.mem_of_getElem? (i := 130) rfl)) rfl rfl ?_
        refine zp_add (n := ((V 0 57) + 1)) (pc := 222) hx hb (zd_X12_runOne (222, .iadd, 1, 0, []) (List.mem_of_getElem? (i := 131) rfl)) (by omega) (zp_r0 (by omega) (by omega)) ?_
        refine zp_putf (pc := 223) hx hb hEξ hwξ heffξ (zd_X12_runOne (223, .putfield 540, 3, 0, []) (List.mem_of_getElem? (i := 132) rfl)) (j := 75) rfl rfl rfl (zM_P hMdξ (List.mem_of_getElem? (i := 0) rfl)) (zp_o0 (by omega) (by omega) (by omega) (by omega)) ?_
        refine zp_const (pc := 226) hx hb (zd_X12_runOne (226, .iconst 0, 1, 0, []) (List.mem_of_getElem? (i := 133) rfl)) rfl rfl ?_
        refine zp_iret (pc := 227) (n := 0) hx hb hEξ hQξ hU5ξ rfl (by decide) (zd_X12_runOne (227, .ireturn, 1, 0, []) (List.mem_of_getElem? (i := 134) rfl)) (j := 0) rfl (zp_o0 (by omega) (by omega) (by omega) (by omega)) ?_
        rw [hpsξ]
        refine ⟨rfl, ?_⟩
        have hffξ := hyξ (by omega)
        rw [if_pos (by omega)] at hffξ
        rw [hffξ]
        obtain ⟨z9ξ, hz9ξ⟩ := zMVq_u (o := 0) (k := 60) (show zMVq A (zp_set (zp_set D.2 0 58 D.1) 0 57 ((V 0 57) + 1)) u.1 _ from ⟨(zp_set (zp_set Md 0 58 D.1) 0 57 ((V 0 57) + 1)), (zM_set (zM_set hMdξ (List.mem_of_getElem? (i := 0) rfl) (by decide)) (List.mem_of_getElem? (i := 0) rfl) (by decide)), (zV_set (zV_set hVMdξ)), (zSb_set (by decide) (zSb_set (by decide) hSMdξ))⟩)
        exact ⟨z9ξ, hz9ξ, rfl⟩
    · refine zp_const (pc := 194) hx hb (zd_X12_runOne (194, .bipush (-3), 2, 0, []) (List.mem_of_getElem? (i := 116) rfl)) rfl rfl ?_
      refine zp_iret (pc := 196) (n := (-3)) hx hb hEξ hQξ hU5ξ rfl (by decide) (zd_X12_runOne (196, .ireturn, 1, 0, []) (List.mem_of_getElem? (i := 117) rfl)) (j := 0) rfl (zp_o0 (by omega) (by omega) (by omega) (by omega)) ?_
      rw [hpsξ]
      refine ⟨rfl, ?_⟩
      have hffξ := hnξ (by omega)
      rw [hffξ]
      obtain ⟨z9ξ, hz9ξ⟩ := zMVq_u (o := 0) (k := 60) (show zMVq A D.2 u.1 G from ⟨Md, hMdξ, hVMdξ, hSMdξ⟩)
      exact ⟨z9ξ, hz9ξ, rfl⟩
  have h133ξ : ∀ (a9ξ b9ξ : Int) (G : Nat → Nat → Int), (-2147483648 ≤ a9ξ ∧ a9ξ ≤ 2147483647) → (-2147483648 ≤ b9ξ ∧ b9ξ ≤ 2147483647) → zMVq A (zo_hd V) u.1 G → zo_tb (zo_eV (zo_hd V)) K.2.2.2.2 = true → zo_1 (zo_eV (zo_hd V)) K.2.1 = some a9ξ → zo_1 (zo_eV (zo_hd V)) K.2.2.1 = some b9ξ → zp_J p l e R s m args below meth c Q w u [] 133 [(3, 0, b9ξ), (2, 0, a9ξ), (0, 2, (A 0 : Int)), (1, 0, (c8 : Int))] [] u.1 G := by
    intro a9ξ b9ξ G habξ hbbξ hMVξ htξ e1 e2
    obtain ⟨Me, hMeξ, hVMeξ, hSMeξ⟩ := hMVξ
    have hrunξ : zo_run V nuξ n1ξ npξ Lwξ K = if (zo_do (zo_hd V) nuξ n1ξ npξ Lwξ K.1 a9ξ b9ξ).1 < 0 then (-3, (zo_do (zo_hd V) nuξ n1ξ npξ Lwξ K.1 a9ξ b9ξ).2) else (0, zp_set (zp_set (zo_do (zo_hd V) nuξ n1ξ npξ Lwξ K.1 a9ξ b9ξ).2 0 58 (if K.1 = 2 then (zo_do (zo_hd V) nuξ n1ξ npξ Lwξ K.1 a9ξ b9ξ).1 else V 0 58)) 0 57 (V 0 57 + 1)) := by
      unfold zo_run
      rw [if_pos htξ, e1, e2]
      try rfl
    have hK1ξ := hKhξ.1
    obtain ⟨hRaξ, ⟨hRbξ, hRcξ⟩, hRdξ, hReξ, hRfξ, hRgξ, hRjξ, hRkξ⟩ := hRhξ
    have hRd9ξ := hRdξ
    obtain ⟨hd1ξ, hd2ξ, hd3ξ, hd4ξ, hd5ξ, hd6ξ⟩ := hRd9ξ
    refine zp_load (pc := 133) hx hb (zd_X12_runOne (133, .aload_n 0, 1, 0, []) (List.mem_of_getElem? (i := 85) rfl)) rfl (j := 2) rfl ?_
    refine zp_getf (n := (A 56 : Int)) (pc := 134) hx hb hEξ hwξ (zd_X12_runOne (134, .getfield 149, 3, 0, []) (List.mem_of_getElem? (i := 86) rfl)) (j := 74) rfl rfl rfl (zM_P hMeξ (List.mem_of_getElem? (i := 0) rfl)) ((zM_G hMeξ (List.mem_of_getElem? (i := 0) rfl) 56).trans (zM_F hMeξ (List.mem_of_getElem? (i := 32) rfl))) ?_
    refine zp_load (pc := 137) hx hb (zd_X12_runOne (137, .iload_n 1, 1, 0, []) (List.mem_of_getElem? (i := 87) rfl)) rfl (j := 3) rfl ?_
    refine zp_iald (j := c8) (v := K.1) (pc := 138) hx hb hwξ (zd_X12_runOne (138, .iaload, 1, 0, []) (List.mem_of_getElem? (i := 88) rfl)) (show zp_ia 1 90 = some (96, 0, 0, (-2147483648), 2147483647) from rfl) (zM_P hMeξ (List.mem_of_getElem? (i := 33) rfl)) (by omega) (by omega) (((zM_G hMeξ (List.mem_of_getElem? (i := 33) rfl) (2000 + c8)).trans (hVMeξ 56 (2000 + c8) (Or.inl (by decide)))).trans hK1ξ.1) (fun hk346ξ => ?_)
    have hk346bξ := zp_int hk346ξ
    clear hk346ξ
    refine zp_store (L' := [(4, 0, K.1), (3, 0, b9ξ), (2, 0, a9ξ), (0, 2, (A 0 : Int)), (1, 0, (c8 : Int))]) (pc := 139) hx hb hnLξ (zd_X12_runOne (139, .istore 4, 2, 0, []) (List.mem_of_getElem? (i := 89) rfl)) rfl rfl rfl ?_
    refine zp_load (pc := 141) hx hb (zd_X12_runOne (141, .iload 4, 2, 0, []) (List.mem_of_getElem? (i := 90) rfl)) rfl (j := 0) rfl ?_
    refine zp_if (pc := 143) (tgt := 154) hx hb (zd_X12_runOne (143, .ifCond .ne 11, 3, 0, []) (List.mem_of_getElem? (i := 91) rfl)) rfl (fun (hc347ξ : ¬ K.1 = 0) => ?_) (fun (hc347ξ : ¬ (¬ K.1 = 0)) => ?_)
    · refine zp_load (pc := 154) hx hb (zd_X12_runOne (154, .iload 4, 2, 0, []) (List.mem_of_getElem? (i := 96) rfl)) rfl (j := 0) rfl ?_
      refine zp_const (pc := 156) hx hb (zd_X12_runOne (156, .iconst 1, 1, 0, []) (List.mem_of_getElem? (i := 97) rfl)) rfl rfl ?_
      refine zp_icmp (pc := 157) (tgt := 169) hx hb (zd_X12_runOne (157, .if_icmp .ne 12, 3, 0, []) (List.mem_of_getElem? (i := 98) rfl)) rfl (fun (hc348ξ : ¬ K.1 = 1) => ?_) (fun (hc348ξ : ¬ (¬ K.1 = 1)) => ?_)
      · refine zp_load (pc := 169) hx hb (zd_X12_runOne (169, .iload 4, 2, 0, []) (List.mem_of_getElem? (i := 104) rfl)) rfl (j := 0) rfl ?_
        refine zp_const (pc := 171) hx hb (zd_X12_runOne (171, .iconst 2, 1, 0, []) (List.mem_of_getElem? (i := 105) rfl)) rfl rfl ?_
        refine zp_icmp (pc := 172) (tgt := 182) hx hb (zd_X12_runOne (172, .if_icmp .ne 10, 3, 0, []) (List.mem_of_getElem? (i := 106) rfl)) rfl (fun (hc349ξ : ¬ K.1 = 2) => ?_) (fun (hc349ξ : ¬ (¬ K.1 = 2)) => ?_)
        · refine zp_load (pc := 182) hx hb (zd_X12_runOne (182, .aload_n 0, 1, 0, []) (List.mem_of_getElem? (i := 110) rfl)) rfl (j := 3) rfl ?_
          refine zp_load (pc := 183) hx hb (zd_X12_runOne (183, .iload_n 2, 1, 0, []) (List.mem_of_getElem? (i := 111) rfl)) rfl (j := 2) rfl ?_
          refine zp_call (pc := 184) (how := 0) (idx := 519) (mi := 286) (S := []) hx hb hEξ hwξ heffξ hrmξ (zX_mnnq hWξ A (zo_hd V) nuξ h20hξ) rfl (j := 68) rfl rfl (by decide +kernel) (zd_X12_runOne (184, .invokevirtual 519, 3, 0, []) (List.mem_of_getElem? (i := 112) rfl)) [(A 0 : Int), a9ξ] rfl ⟨zp_o2 (zM_P hMeξ (List.mem_of_getElem? (i := 0) rfl)), zp_o0 (by omega) (by omega) (by omega) (by omega), trivial⟩ (Nat.le_of_ble_eq_true rfl) ⟨⟨Me, hMeξ, hVMeξ, hSMeξ⟩, rfl, hRjξ.1, hRjξ.2, hRfξ.1, hRfξ.2, hRbξ, hRcξ⟩ (fun al halξ rnd Pd Gd hextdξ hfrdξ hokdξ hcsdξ hpsidξ => ?_)
          obtain rfl := List.mem_singleton.mp halξ
          have hrdξ := zp_int (hokdξ _ rfl).1
          obtain ⟨hPedξ, ⟨Md, hMdξ, hVdξ, hSbdξ⟩, htdξ⟩ := hpsidξ
          subst hPedξ
          clear hextdξ hfrdξ hcsdξ hokdξ
          have hVdξ : ∀ o k, zNs o k → Md o k = (zf_mnn (zo_hd V) nuξ a9ξ).2 o k := hVdξ
          have htdξ : rnd = (zf_mnn (zo_hd V) nuξ a9ξ).1 := htdξ
          have hdoξ : zo_do (zo_hd V) nuξ n1ξ npξ Lwξ K.1 a9ξ b9ξ = zf_mnn (zo_hd V) nuξ a9ξ := by
            unfold zo_do
            rw [if_neg (by omega), if_neg (by omega), if_neg (by omega)]
          rw [hdoξ] at hrunξ
          rw [htdξ] at hrdξ ⊢
          refine zp_drop (L' := [(4, 0, K.1), (0, 2, (A 0 : Int)), (1, 0, (c8 : Int))]) (by simp) ?_
          exact h187ξ (zf_mnn (zo_hd V) nuξ a9ξ) _ zo_kp_mnn hrdξ ⟨Md, hMdξ, hVdξ, hSbdξ⟩ (fun z => (Eq.trans hrunξ) (if_pos z)) (fun z => (Eq.trans hrunξ) (if_neg z))
        · refine zp_load (pc := 175) hx hb (zd_X12_runOne (175, .aload_n 0, 1, 0, []) (List.mem_of_getElem? (i := 107) rfl)) rfl (j := 3) rfl ?_
          refine zp_call (pc := 176) (how := 0) (idx := 514) (mi := 283) (S := []) hx hb hEξ hwξ heffξ hrmξ (zX_rnnq hWξ A (zo_hd V) nuξ n1ξ npξ Lwξ h20hξ) rfl (j := 66) rfl rfl (by decide +kernel) (zd_X12_runOne (176, .invokevirtual 514, 3, 0, []) (List.mem_of_getElem? (i := 108) rfl)) [(A 0 : Int)] rfl ⟨zp_o2 (zM_P hMeξ (List.mem_of_getElem? (i := 0) rfl)), trivial⟩ (Nat.le_of_ble_eq_true rfl) ⟨⟨Me, hMeξ, hVMeξ, hSMeξ⟩, rfl, hRaξ, hRbξ, hRcξ, hRdξ, hReξ, hRfξ, hRgξ, hRkξ⟩ (fun al halξ rnd Pd Gd hextdξ hfrdξ hokdξ hcsdξ hpsidξ => ?_)
          obtain rfl := List.mem_singleton.mp halξ
          have hrdξ := zp_int (hokdξ _ rfl).1
          obtain ⟨hPedξ, ⟨Md, hMdξ, hVdξ, hSbdξ⟩, htdξ⟩ := hpsidξ
          subst hPedξ
          clear hextdξ hfrdξ hcsdξ hokdξ
          have hVdξ : ∀ o k, zNs o k → Md o k = (zf_rnn (zo_hd V) nuξ n1ξ npξ Lwξ).2 o k := hVdξ
          have htdξ : rnd = (zf_rnn (zo_hd V) nuξ n1ξ npξ Lwξ).1 := htdξ
          have hdoξ : zo_do (zo_hd V) nuξ n1ξ npξ Lwξ K.1 a9ξ b9ξ = zf_rnn (zo_hd V) nuξ n1ξ npξ Lwξ := by
            unfold zo_do
            rw [if_neg (by omega), if_neg (by omega), if_pos (by omega)]
          rw [hdoξ] at hrunξ
          rw [htdξ] at hrdξ ⊢
          refine zp_goto (tgt := 187) (pc := 179) hx hb (zd_X12_runOne (179, .goto 8, 3, 0, []) (List.mem_of_getElem? (i := 109) rfl)) rfl ?_
          refine zp_drop (L' := [(4, 0, K.1), (0, 2, (A 0 : Int)), (1, 0, (c8 : Int))]) (by simp) ?_
          exact h187ξ (zf_rnn (zo_hd V) nuξ n1ξ npξ Lwξ) _ zo_kp_rnn hrdξ ⟨Md, hMdξ, hVdξ, hSbdξ⟩ (fun z => (Eq.trans hrunξ) (if_pos z)) (fun z => (Eq.trans hrunξ) (if_neg z))
      · refine zp_load (pc := 160) hx hb (zd_X12_runOne (160, .aload_n 0, 1, 0, []) (List.mem_of_getElem? (i := 99) rfl)) rfl (j := 3) rfl ?_
        refine zp_load (pc := 161) hx hb (zd_X12_runOne (161, .iload_n 2, 1, 0, []) (List.mem_of_getElem? (i := 100) rfl)) rfl (j := 2) rfl ?_
        refine zp_load (pc := 162) hx hb (zd_X12_runOne (162, .iload_n 3, 1, 0, []) (List.mem_of_getElem? (i := 101) rfl)) rfl (j := 1) rfl ?_
        refine zp_call (pc := 163) (how := 0) (idx := 508) (mi := 280) (S := []) hx hb hEξ hwξ heffξ hrmξ (zX_kynq hWξ A (zo_hd V) nuξ npξ Lwξ h20hξ) rfl (j := 64) rfl rfl (by decide +kernel) (zd_X12_runOne (163, .invokevirtual 508, 3, 0, []) (List.mem_of_getElem? (i := 102) rfl)) [(A 0 : Int), a9ξ, b9ξ] rfl ⟨zp_o2 (zM_P hMeξ (List.mem_of_getElem? (i := 0) rfl)), zp_o0 (by omega) (by omega) (by omega) (by omega), zp_o0 (by omega) (by omega) (by omega) (by omega), trivial⟩ (Nat.le_of_ble_eq_true rfl) ⟨⟨Me, hMeξ, hVMeξ, hSMeξ⟩, rfl, hRaξ, hRbξ, hRcξ, hd4ξ, hd2ξ, hd6ξ⟩ (fun al halξ rnd Pd Gd hextdξ hfrdξ hokdξ hcsdξ hpsidξ => ?_)
        obtain rfl := List.mem_singleton.mp halξ
        have hrdξ := zp_int (hokdξ _ rfl).1
        obtain ⟨hPedξ, ⟨Md, hMdξ, hVdξ, hSbdξ⟩, htdξ⟩ := hpsidξ
        subst hPedξ
        clear hextdξ hfrdξ hcsdξ hokdξ
        have hVdξ : ∀ o k, zNs o k → Md o k = (zf_kyn (zo_hd V) nuξ npξ Lwξ a9ξ b9ξ).2 o k := hVdξ
        have htdξ : rnd = (zf_kyn (zo_hd V) nuξ npξ Lwξ a9ξ b9ξ).1 := htdξ
        have hdoξ : zo_do (zo_hd V) nuξ n1ξ npξ Lwξ K.1 a9ξ b9ξ = zf_kyn (zo_hd V) nuξ npξ Lwξ a9ξ b9ξ := by
          unfold zo_do
          rw [if_neg (by omega), if_pos (by omega)]
        rw [hdoξ] at hrunξ
        rw [htdξ] at hrdξ ⊢
        refine zp_goto (tgt := 187) (pc := 166) hx hb (zd_X12_runOne (166, .goto 21, 3, 0, []) (List.mem_of_getElem? (i := 103) rfl)) rfl ?_
        refine zp_drop (L' := [(4, 0, K.1), (0, 2, (A 0 : Int)), (1, 0, (c8 : Int))]) (by simp) ?_
        exact h187ξ (zf_kyn (zo_hd V) nuξ npξ Lwξ a9ξ b9ξ) _ zo_kp_kyn hrdξ ⟨Md, hMdξ, hVdξ, hSbdξ⟩ (fun z => (Eq.trans hrunξ) (if_pos z)) (fun z => (Eq.trans hrunξ) (if_neg z))
    · refine zp_load (pc := 146) hx hb (zd_X12_runOne (146, .aload_n 0, 1, 0, []) (List.mem_of_getElem? (i := 92) rfl)) rfl (j := 3) rfl ?_
      refine zp_load (pc := 147) hx hb (zd_X12_runOne (147, .iload_n 2, 1, 0, []) (List.mem_of_getElem? (i := 93) rfl)) rfl (j := 2) rfl ?_
      refine zp_call (pc := 148) (how := 0) (idx := 502) (mi := 276) (S := []) hx hb hEξ hwξ heffξ hrmξ (zX_wnnq hWξ A (zo_hd V) nuξ Lwξ h20hξ) rfl (j := 61) rfl rfl (by decide +kernel) (zd_X12_runOne (148, .invokevirtual 502, 3, 0, []) (List.mem_of_getElem? (i := 94) rfl)) [(A 0 : Int), a9ξ] rfl ⟨zp_o2 (zM_P hMeξ (List.mem_of_getElem? (i := 0) rfl)), zp_o0 (by omega) (by omega) (by omega) (by omega), trivial⟩ (Nat.le_of_ble_eq_true rfl) ⟨⟨Me, hMeξ, hVMeξ, hSMeξ⟩, rfl, hRaξ, hRbξ, hRcξ, hRgξ.1⟩ (fun al halξ rnd Pd Gd hextdξ hfrdξ hokdξ hcsdξ hpsidξ => ?_)
      obtain rfl := List.mem_singleton.mp halξ
      have hrdξ := zp_int (hokdξ _ rfl).1
      obtain ⟨hPedξ, ⟨Md, hMdξ, hVdξ, hSbdξ⟩, htdξ⟩ := hpsidξ
      subst hPedξ
      clear hextdξ hfrdξ hcsdξ hokdξ
      have hVdξ : ∀ o k, zNs o k → Md o k = (zf_wnn (zo_hd V) nuξ Lwξ a9ξ).2 o k := hVdξ
      have htdξ : rnd = (zf_wnn (zo_hd V) nuξ Lwξ a9ξ).1 := htdξ
      have hdoξ : zo_do (zo_hd V) nuξ n1ξ npξ Lwξ K.1 a9ξ b9ξ = zf_wnn (zo_hd V) nuξ Lwξ a9ξ := by
        unfold zo_do
        rw [if_pos (by omega)]
      rw [hdoξ] at hrunξ
      rw [htdξ] at hrdξ ⊢
      refine zp_goto (tgt := 187) (pc := 151) hx hb (zd_X12_runOne (151, .goto 36, 3, 0, []) (List.mem_of_getElem? (i := 95) rfl)) rfl ?_
      refine zp_drop (L' := [(4, 0, K.1), (0, 2, (A 0 : Int)), (1, 0, (c8 : Int))]) (by simp) ?_
      exact h187ξ (zf_wnn (zo_hd V) nuξ Lwξ a9ξ) _ zo_kp_wnn hrdξ ⟨Md, hMdξ, hVdξ, hSbdξ⟩ (fun z => (Eq.trans hrunξ) (if_pos z)) (fun z => (Eq.trans hrunξ) (if_neg z))
  have h107ξ : ∀ G : Nat → Nat → Int, zMVq A (zo_hd V) u.1 G → zo_tb (zo_eV (zo_hd V)) K.2.2.2.2 = true → zp_J p l e R s m args below meth c Q w u [] 107 [(0, 2, (A 0 : Int)), (1, 0, (c8 : Int))] [] u.1 G := by
    clear h187ξ
    intro G hMVξ htξ
    obtain ⟨Mf, hMfξ, hVMfξ, hSMfξ⟩ := hMVξ
    refine zp_load (pc := 107) hx hb (zd_X12_runOne (107, .aload_n 0, 1, 0, []) (List.mem_of_getElem? (i := 68) rfl)) rfl (j := 0) rfl ?_
    refine zp_load (pc := 108) hx hb (zd_X12_runOne (108, .iload_n 1, 1, 0, []) (List.mem_of_getElem? (i := 69) rfl)) rfl (j := 1) rfl ?_
    refine zp_const (pc := 109) hx hb (zd_X12_runOne (109, .iconst 1, 1, 0, []) (List.mem_of_getElem? (i := 70) rfl)) rfl rfl ?_
    refine zp_add (n := ((c8 : Int) + 1)) (pc := 110) hx hb (zd_X12_runOne (110, .iadd, 1, 0, []) (List.mem_of_getElem? (i := 71) rfl)) (by omega) (zp_r0 (by omega) (by omega)) ?_
    refine zp_call (pc := 111) (how := 0) (idx := 546) (mi := 291) (S := []) hx hb hEξ hwξ heffξ hrmξ (zX_suq hWξ A (zo_hd V) (c8 + 1) K.2.1) rfl (j := 72) rfl rfl (by decide +kernel) (zd_X12_runOne (111, .invokevirtual 546, 3, 0, []) (List.mem_of_getElem? (i := 72) rfl)) [(A 0 : Int), ((c8 : Int) + 1)] rfl ⟨zp_o2 (zM_P hMfξ (List.mem_of_getElem? (i := 0) rfl)), zp_o0 (by omega) (by omega) (by omega) (by omega), trivial⟩ (Nat.le_of_ble_eq_true rfl) ⟨⟨Mf, hMfξ, hVMfξ, hSMfξ⟩, rfl, (show ((c8 : Int) + 1) = ((c8 + 1 : Nat) : Int) by omega), by omega, h20hξ, hvhξ, hKhξ.2.1⟩ (fun al halξ rns Ps Gs hextsξ hfrsξ hoksξ hcssξ hpsisξ => ?_)
    obtain rfl := List.mem_singleton.mp halξ
    have hrsξ := zp_int (hoksξ _ rfl).1
    obtain ⟨hPesξ, os, hobsξ, ⟨Ms, hMsξ, hVsξ, hSsξ⟩, hspsξ⟩ := hpsisξ
    subst hPesξ
    clear hextsξ hfrsξ hoksξ hcssξ
    rcases zo_sp_1 h60hξ hspsξ with ⟨a9ξ, e1, hosξ, hraξ⟩ | ⟨e1, hosξ⟩
    · subst hosξ
      subst hraξ
      have hMVsξ : zMVq A (zo_hd V) u.1 Gs := zMVq_s h60hξ ⟨Ms, hMsξ, hVsξ, hSsξ⟩
      obtain ⟨Mg, hMgξ, hVMgξ, hSMgξ⟩ := hMVsξ
      refine zp_store (L' := [(2, 0, rns), (0, 2, (A 0 : Int)), (1, 0, (c8 : Int))]) (pc := 114) hx hb hnLξ (zd_X12_runOne (114, .istore_n 2, 1, 0, []) (List.mem_of_getElem? (i := 73) rfl)) rfl rfl rfl ?_
      refine zp_load (pc := 115) hx hb (zd_X12_runOne (115, .aload_n 0, 1, 0, []) (List.mem_of_getElem? (i := 74) rfl)) rfl (j := 1) rfl ?_
      refine zp_load (pc := 116) hx hb (zd_X12_runOne (116, .iload_n 1, 1, 0, []) (List.mem_of_getElem? (i := 75) rfl)) rfl (j := 2) rfl ?_
      refine zp_const (pc := 117) hx hb (zd_X12_runOne (117, .iconst 3, 1, 0, []) (List.mem_of_getElem? (i := 76) rfl)) rfl rfl ?_
      refine zp_add (n := ((c8 : Int) + 3)) (pc := 118) hx hb (zd_X12_runOne (118, .iadd, 1, 0, []) (List.mem_of_getElem? (i := 77) rfl)) (by omega) (zp_r0 (by omega) (by omega)) ?_
      refine zp_call (pc := 119) (how := 0) (idx := 546) (mi := 291) (S := []) hx hb hEξ hwξ heffξ hrmξ (zX_suq hWξ A (zo_hd V) (c8 + 3) K.2.2.1) rfl (j := 72) rfl rfl (by decide +kernel) (zd_X12_runOne (119, .invokevirtual 546, 3, 0, []) (List.mem_of_getElem? (i := 78) rfl)) [(A 0 : Int), ((c8 : Int) + 3)] rfl ⟨zp_o2 (zM_P hMgξ (List.mem_of_getElem? (i := 0) rfl)), zp_o0 (by omega) (by omega) (by omega) (by omega), trivial⟩ (Nat.le_of_ble_eq_true rfl) ⟨⟨Mg, hMgξ, hVMgξ, hSMgξ⟩, rfl, (show ((c8 : Int) + 3) = ((c8 + 3 : Nat) : Int) by omega), by omega, h20hξ, hvhξ, hKhξ.2.2.1⟩ (fun al halξ rnt Pt Gt hexttξ hfrtξ hoktξ hcstξ hpsitξ => ?_)
      obtain rfl := List.mem_singleton.mp halξ
      have hrtξ := zp_int (hoktξ _ rfl).1
      obtain ⟨hPetξ, ot, hobtξ, ⟨Mt, hMtξ, hVtξ, hStξ⟩, hsptξ⟩ := hpsitξ
      subst hPetξ
      clear hexttξ hfrtξ hoktξ hcstξ
      rcases zo_sp_1 h60hξ hsptξ with ⟨b9ξ, e2, hotξ, hrbξ⟩ | ⟨e2, hotξ⟩
      · subst hotξ
        subst hrbξ
        have hMVtξ : zMVq A (zo_hd V) u.1 Gt := zMVq_s h60hξ ⟨Mt, hMtξ, hVtξ, hStξ⟩
        obtain ⟨Mh, hMhξ, hVMhξ, hSMhξ⟩ := hMVtξ
        refine zp_store (L' := [(3, 0, rnt), (2, 0, rns), (0, 2, (A 0 : Int)), (1, 0, (c8 : Int))]) (pc := 122) hx hb hnLξ (zd_X12_runOne (122, .istore_n 3, 1, 0, []) (List.mem_of_getElem? (i := 79) rfl)) rfl rfl rfl ?_
        refine zp_load (pc := 123) hx hb (zd_X12_runOne (123, .aload_n 0, 1, 0, []) (List.mem_of_getElem? (i := 80) rfl)) rfl (j := 2) rfl ?_
        refine zp_getf (n := 0) (pc := 124) hx hb hEξ hwξ (zd_X12_runOne (124, .getfield 537, 3, 0, []) (List.mem_of_getElem? (i := 81) rfl)) (j := 78) rfl rfl rfl (zM_P hMhξ (List.mem_of_getElem? (i := 0) rfl)) (((zM_G hMhξ (List.mem_of_getElem? (i := 0) rfl) 60).trans (hVMhξ 0 60 (Or.inr (by decide)))).trans h60hξ) ?_
        refine zp_if (pc := 127) (tgt := 133) hx hb (zd_X12_runOne (127, .ifCond .eq 6, 3, 0, []) (List.mem_of_getElem? (i := 82) rfl)) rfl (fun (hc350ξ : (0 : Int) = 0) => ?_) (fun (hc350ξ : ¬ ((0 : Int) = 0)) => ?_)
        · refine zp_drop (L' := [(3, 0, rnt), (2, 0, rns), (0, 2, (A 0 : Int)), (1, 0, (c8 : Int))]) (by simp) ?_
          exact h133ξ rns rnt _ hrsξ hrtξ ⟨Mh, hMhξ, hVMhξ, hSMhξ⟩ htξ e1 e2
        · exfalso
          omega
      · subst hotξ
        refine zp_store (L' := [(3, 0, rnt), (2, 0, rns), (0, 2, (A 0 : Int)), (1, 0, (c8 : Int))]) (pc := 122) hx hb hnLξ (zd_X12_runOne (122, .istore_n 3, 1, 0, []) (List.mem_of_getElem? (i := 79) rfl)) rfl rfl rfl ?_
        refine zp_load (pc := 123) hx hb (zd_X12_runOne (123, .aload_n 0, 1, 0, []) (List.mem_of_getElem? (i := 80) rfl)) rfl (j := 2) rfl ?_
        refine zp_getf (n := 1) (pc := 124) hx hb hEξ hwξ (zd_X12_runOne (124, .getfield 537, 3, 0, []) (List.mem_of_getElem? (i := 81) rfl)) (j := 78) rfl rfl rfl (zM_P hMtξ (List.mem_of_getElem? (i := 0) rfl)) (((zM_G hMtξ (List.mem_of_getElem? (i := 0) rfl) 60).trans (hVtξ 0 60 (Or.inr (by decide)))).trans zp_set_self) ?_
        refine zp_if (pc := 127) (tgt := 133) hx hb (zd_X12_runOne (127, .ifCond .eq 6, 3, 0, []) (List.mem_of_getElem? (i := 82) rfl)) rfl (fun (hc351ξ : (1 : Int) = 0) => ?_) (fun (hc351ξ : ¬ ((1 : Int) = 0)) => ?_)
        · exfalso
          omega
        · refine zp_const (pc := 130) hx hb (zd_X12_runOne (130, .bipush (-3), 2, 0, []) (List.mem_of_getElem? (i := 83) rfl)) rfl rfl ?_
          refine zp_iret (pc := 132) (n := (-3)) hx hb hEξ hQξ hU5ξ rfl (by decide) (zd_X12_runOne (132, .ireturn, 1, 0, []) (List.mem_of_getElem? (i := 84) rfl)) (j := 0) rfl (zp_o0 (by omega) (by omega) (by omega) (by omega)) ?_
          rw [hpsξ]
          refine ⟨rfl, ?_⟩
          have hffξ : zo_run V nuξ n1ξ npξ Lwξ K = (-3, zo_hd V) := by
            unfold zo_run
            rw [if_pos htξ, e1, e2]
            try rfl
          rw [hffξ]
          exact ⟨1, ⟨Mt, hMtξ, hVtξ, hStξ⟩, rfl⟩
    · subst hosξ
      refine zp_store (L' := [(2, 0, rns), (0, 2, (A 0 : Int)), (1, 0, (c8 : Int))]) (pc := 114) hx hb hnLξ (zd_X12_runOne (114, .istore_n 2, 1, 0, []) (List.mem_of_getElem? (i := 73) rfl)) rfl rfl rfl ?_
      refine zp_load (pc := 115) hx hb (zd_X12_runOne (115, .aload_n 0, 1, 0, []) (List.mem_of_getElem? (i := 74) rfl)) rfl (j := 1) rfl ?_
      refine zp_load (pc := 116) hx hb (zd_X12_runOne (116, .iload_n 1, 1, 0, []) (List.mem_of_getElem? (i := 75) rfl)) rfl (j := 2) rfl ?_
      refine zp_const (pc := 117) hx hb (zd_X12_runOne (117, .iconst 3, 1, 0, []) (List.mem_of_getElem? (i := 76) rfl)) rfl rfl ?_
      refine zp_add (n := ((c8 : Int) + 3)) (pc := 118) hx hb (zd_X12_runOne (118, .iadd, 1, 0, []) (List.mem_of_getElem? (i := 77) rfl)) (by omega) (zp_r0 (by omega) (by omega)) ?_
      refine zp_call (pc := 119) (how := 0) (idx := 546) (mi := 291) (S := []) hx hb hEξ hwξ heffξ hrmξ (zX_suq hWξ A (zp_set (zo_hd V) 0 60 1) (c8 + 3) K.2.2.1) rfl (j := 72) rfl rfl (by decide +kernel) (zd_X12_runOne (119, .invokevirtual 546, 3, 0, []) (List.mem_of_getElem? (i := 78) rfl)) [(A 0 : Int), ((c8 : Int) + 3)] rfl ⟨zp_o2 (zM_P hMsξ (List.mem_of_getElem? (i := 0) rfl)), zp_o0 (by omega) (by omega) (by omega) (by omega), trivial⟩ (Nat.le_of_ble_eq_true rfl) ⟨⟨Ms, hMsξ, hVsξ, hSsξ⟩, rfl, (show ((c8 : Int) + 3) = ((c8 + 3 : Nat) : Int) by omega), by omega, ((zp_set_ne (Or.inr (by decide))).trans h20hξ), (zo_rv_60 hvhξ), (zo_sq_e (fun k => zp_set_ne (Or.inl (by decide))) (fun k => zp_set_ne (Or.inl (by decide))) (fun k => zp_set_ne (Or.inl (by decide))) hKhξ.2.2.1)⟩ (fun al halξ rnt Pt Gt hexttξ hfrtξ hoktξ hcstξ hpsitξ => ?_)
      obtain rfl := List.mem_singleton.mp halξ
      have hrtξ := zp_int (hoktξ _ rfl).1
      obtain ⟨hPetξ, ot, hobtξ, ⟨Mt, hMtξ, hVtξ, hStξ⟩, hsptξ⟩ := hpsitξ
      subst hPetξ
      clear hexttξ hfrtξ hoktξ hcstξ
      obtain ⟨hotξ, hrbξ⟩ := hsptξ.1 (Or.inl (by rw [zp_set_self]; decide))
      rw [zp_set_self] at hotξ
      subst hotξ
      subst hrbξ
      refine zp_store (L' := [(3, 0, (-1)), (2, 0, rns), (0, 2, (A 0 : Int)), (1, 0, (c8 : Int))]) (pc := 122) hx hb hnLξ (zd_X12_runOne (122, .istore_n 3, 1, 0, []) (List.mem_of_getElem? (i := 79) rfl)) rfl rfl rfl ?_
      refine zp_load (pc := 123) hx hb (zd_X12_runOne (123, .aload_n 0, 1, 0, []) (List.mem_of_getElem? (i := 80) rfl)) rfl (j := 2) rfl ?_
      refine zp_getf (n := 1) (pc := 124) hx hb hEξ hwξ (zd_X12_runOne (124, .getfield 537, 3, 0, []) (List.mem_of_getElem? (i := 81) rfl)) (j := 78) rfl rfl rfl (zM_P hMtξ (List.mem_of_getElem? (i := 0) rfl)) (((zM_G hMtξ (List.mem_of_getElem? (i := 0) rfl) 60).trans (hVtξ 0 60 (Or.inr (by decide)))).trans zp_set_self) ?_
      refine zp_if (pc := 127) (tgt := 133) hx hb (zd_X12_runOne (127, .ifCond .eq 6, 3, 0, []) (List.mem_of_getElem? (i := 82) rfl)) rfl (fun (hc352ξ : (1 : Int) = 0) => ?_) (fun (hc352ξ : ¬ ((1 : Int) = 0)) => ?_)
      · exfalso
        omega
      · refine zp_const (pc := 130) hx hb (zd_X12_runOne (130, .bipush (-3), 2, 0, []) (List.mem_of_getElem? (i := 83) rfl)) rfl rfl ?_
        refine zp_iret (pc := 132) (n := (-3)) hx hb hEξ hQξ hU5ξ rfl (by decide) (zd_X12_runOne (132, .ireturn, 1, 0, []) (List.mem_of_getElem? (i := 84) rfl)) (j := 0) rfl (zp_o0 (by omega) (by omega) (by omega) (by omega)) ?_
        rw [hpsξ]
        refine ⟨rfl, ?_⟩
        have hffξ : zo_run V nuξ n1ξ npξ Lwξ K = (-3, zo_hd V) := by
          unfold zo_run
          rw [if_pos htξ, e1]
          try rfl
        rw [hffξ]
        refine ⟨1, ?_, rfl⟩
        rw [← zp_set_set (V := zo_hd V) (v := 1) (v' := 1)]
        exact ⟨Mt, hMtξ, hVtξ, hStξ⟩
  refine zp_load (pc := 0) hx hb (zd_X12_runOne (0, .aload_n 0, 1, 0, []) (List.mem_of_getElem? (i := 0) rfl)) rfl (j := 0) rfl ?_
  refine zp_getf (n := (A 36 : Int)) (pc := 1) hx hb hEξ hwξ (zd_X12_runOne (1, .getfield 104, 3, 0, []) (List.mem_of_getElem? (i := 1) rfl)) (j := 54) rfl rfl rfl (zM_P hMξ (List.mem_of_getElem? (i := 0) rfl)) ((zM_G hMξ (List.mem_of_getElem? (i := 0) rfl) 36).trans (zM_F hMξ (List.mem_of_getElem? (i := 18) rfl))) ?_
  refine zp_const (pc := 4) hx hb (zd_X12_runOne (4, .iconst 1, 1, 0, []) (List.mem_of_getElem? (i := 2) rfl)) rfl rfl ?_
  refine zp_load (pc := 5) hx hb (zd_X12_runOne (5, .aload_n 0, 1, 0, []) (List.mem_of_getElem? (i := 3) rfl)) rfl (j := 0) rfl ?_
  refine zp_call (pc := 6) (how := 0) (idx := 411) (mi := 241) (S := [(0, 1), (2, (A 36 : Int))]) hx hb hEξ hwξ heffξ hrmξ (zX_todq hWξ A M) rfl (j := 41) rfl rfl (by decide +kernel) (zd_X12_runOne (6, .invokevirtual 411, 3, 0, []) (List.mem_of_getElem? (i := 4) rfl)) [(A 0 : Int)] rfl ⟨zp_o2 (zM_P hMξ (List.mem_of_getElem? (i := 0) rfl)), trivial⟩ (Nat.le_of_ble_eq_true rfl) ⟨hMξ, rfl, (show -2147483648 ≤ M 3 (2000 + 5) ∧ M 3 (2000 + 5) ≤ 2147483647 by rw [(hVξ 3 (2000 + 5) (Or.inl (by decide)))]; omega)⟩ (fun al halξ rnd353ξ Pd353 Gd353 hextd353ξ hfrd353ξ hokd353ξ hcsd353ξ hpsid353ξ => ?_)
  obtain rfl := List.mem_singleton.mp halξ
  have hrd353ξ := zp_int (hokd353ξ _ rfl).1
  obtain ⟨hPed353ξ, hGed353ξ, htd353ξ⟩ := hpsid353ξ
  rw [hPed353ξ, hGed353ξ]
  clear hextd353ξ hfrd353ξ hcsd353ξ hPed353ξ hGed353ξ
  have htd353ξ : rnd353ξ = (V 3 (2000 + 5)) := Eq.trans htd353ξ ((hVξ 3 (2000 + 5) (Or.inl (by decide))))
  have htd353ξ := (Eq.symm htd353ξ)
  subst htd353ξ
  refine zp_i2l (pc := 9) hx hb (zd_X12_runOne (9, .i2l, 1, 0, []) (List.mem_of_getElem? (i := 5) rfl)) ?_
  refine zp_last (j := 1) (pc := 10) hx hb hwξ heffξ (zd_X12_runOne (10, .lastore, 1, 0, []) (List.mem_of_getElem? (i := 6) rfl)) (show zp_ia 2 76 = some (13, 1, 0, (-9223372036854775808), 9223372036854775807) from rfl) (zM_P hMξ (List.mem_of_getElem? (i := 19) rfl)) (by omega) (by omega) rfl ?_
  refine zp_load (pc := 11) hx hb (zd_X12_runOne (11, .aload_n 0, 1, 0, []) (List.mem_of_getElem? (i := 7) rfl)) rfl (j := 0) rfl ?_
  refine zp_getf (n := (A 36 : Int)) (pc := 12) hx hb hEξ hwξ (zd_X12_runOne (12, .getfield 104, 3, 0, []) (List.mem_of_getElem? (i := 8) rfl)) (j := 54) rfl rfl rfl (zM_P hMξ (List.mem_of_getElem? (i := 0) rfl)) ((zp_set_ne (Or.inl (zM_ne hMξ (List.mem_of_getElem? (i := 0) rfl) (List.mem_of_getElem? (i := 19) rfl) (by decide)))).trans (((zM_G hMξ (List.mem_of_getElem? (i := 0) rfl) 36).trans (zM_F hMξ (List.mem_of_getElem? (i := 18) rfl))))) ?_
  refine zp_const (pc := 15) hx hb (zd_X12_runOne (15, .iconst 2, 1, 0, []) (List.mem_of_getElem? (i := 9) rfl)) rfl rfl ?_
  refine zp_load (pc := 16) hx hb (zd_X12_runOne (16, .aload_n 0, 1, 0, []) (List.mem_of_getElem? (i := 10) rfl)) rfl (j := 0) rfl ?_
  refine zp_getf (n := (A 3 : Int)) (pc := 17) hx hb hEξ hwξ (zd_X12_runOne (17, .getfield 13, 3, 0, []) (List.mem_of_getElem? (i := 11) rfl)) (j := 21) rfl rfl rfl (zM_P hMξ (List.mem_of_getElem? (i := 0) rfl)) ((zp_set_ne (Or.inl (zM_ne hMξ (List.mem_of_getElem? (i := 0) rfl) (List.mem_of_getElem? (i := 19) rfl) (by decide)))).trans (((zM_G hMξ (List.mem_of_getElem? (i := 0) rfl) 3).trans (zM_F hMξ (List.mem_of_getElem? (i := 1) rfl))))) ?_
  refine zp_const (pc := 20) hx hb (zd_X12_runOne (20, .bipush 10, 2, 0, []) (List.mem_of_getElem? (i := 12) rfl)) rfl rfl ?_
  refine zp_ialdT (j := 10) (v := (V 3 (2000 + 10))) (pc := 22) hx hb hwξ (zd_X12_runOne (22, .iaload, 1, 0, []) (List.mem_of_getElem? (i := 13) rfl)) zl_T59 rfl (zl_kd 10) (zM_P hMξ (List.mem_of_getElem? (i := 2) rfl)) (by omega) (show 10 < 5580 by omega) ((zp_set_ne (Or.inl (zM_ne hMξ (List.mem_of_getElem? (i := 2) rfl) (List.mem_of_getElem? (i := 19) rfl) (by decide)))).trans (((zM_G hMξ (List.mem_of_getElem? (i := 2) rfl) (2000 + 10)).trans (hVξ 3 (2000 + 10) (Or.inl (by decide)))))) (fun _ => ?_)
  refine zp_i2l (pc := 23) hx hb (zd_X12_runOne (23, .i2l, 1, 0, []) (List.mem_of_getElem? (i := 14) rfl)) ?_
  refine zp_last (j := 2) (pc := 24) hx hb hwξ heffξ (zd_X12_runOne (24, .lastore, 1, 0, []) (List.mem_of_getElem? (i := 15) rfl)) (show zp_ia 2 76 = some (13, 1, 0, (-9223372036854775808), 9223372036854775807) from rfl) (zM_P hMξ (List.mem_of_getElem? (i := 19) rfl)) (by omega) (by omega) rfl ?_
  refine zp_load (pc := 25) hx hb (zd_X12_runOne (25, .aload_n 0, 1, 0, []) (List.mem_of_getElem? (i := 16) rfl)) rfl (j := 0) rfl ?_
  refine zp_getf (n := (A 36 : Int)) (pc := 26) hx hb hEξ hwξ (zd_X12_runOne (26, .getfield 104, 3, 0, []) (List.mem_of_getElem? (i := 17) rfl)) (j := 54) rfl rfl rfl (zM_P hMξ (List.mem_of_getElem? (i := 0) rfl)) ((zp_set_ne (Or.inl (zM_ne hMξ (List.mem_of_getElem? (i := 0) rfl) (List.mem_of_getElem? (i := 19) rfl) (by decide)))).trans ((zp_set_ne (Or.inl (zM_ne hMξ (List.mem_of_getElem? (i := 0) rfl) (List.mem_of_getElem? (i := 19) rfl) (by decide)))).trans (((zM_G hMξ (List.mem_of_getElem? (i := 0) rfl) 36).trans (zM_F hMξ (List.mem_of_getElem? (i := 18) rfl)))))) ?_
  refine zp_const (pc := 29) hx hb (zd_X12_runOne (29, .iconst 3, 1, 0, []) (List.mem_of_getElem? (i := 18) rfl)) rfl rfl ?_
  refine zp_load (pc := 30) hx hb (zd_X12_runOne (30, .aload_n 0, 1, 0, []) (List.mem_of_getElem? (i := 19) rfl)) rfl (j := 0) rfl ?_
  refine zp_getf (n := (A 3 : Int)) (pc := 31) hx hb hEξ hwξ (zd_X12_runOne (31, .getfield 13, 3, 0, []) (List.mem_of_getElem? (i := 20) rfl)) (j := 21) rfl rfl rfl (zM_P hMξ (List.mem_of_getElem? (i := 0) rfl)) ((zp_set_ne (Or.inl (zM_ne hMξ (List.mem_of_getElem? (i := 0) rfl) (List.mem_of_getElem? (i := 19) rfl) (by decide)))).trans ((zp_set_ne (Or.inl (zM_ne hMξ (List.mem_of_getElem? (i := 0) rfl) (List.mem_of_getElem? (i := 19) rfl) (by decide)))).trans (((zM_G hMξ (List.mem_of_getElem? (i := 0) rfl) 3).trans (zM_F hMξ (List.mem_of_getElem? (i := 1) rfl)))))) ?_
  refine zp_const (pc := 34) hx hb (zd_X12_runOne (34, .bipush 8, 2, 0, []) (List.mem_of_getElem? (i := 21) rfl)) rfl rfl ?_
  refine zp_ialdT (j := 8) (v := (V 3 (2000 + 8))) (pc := 36) hx hb hwξ (zd_X12_runOne (36, .iaload, 1, 0, []) (List.mem_of_getElem? (i := 22) rfl)) zl_T59 rfl (zl_kd 8) (zM_P hMξ (List.mem_of_getElem? (i := 2) rfl)) (by omega) (show 8 < 5580 by omega) ((zp_set_ne (Or.inl (zM_ne hMξ (List.mem_of_getElem? (i := 2) rfl) (List.mem_of_getElem? (i := 19) rfl) (by decide)))).trans ((zp_set_ne (Or.inl (zM_ne hMξ (List.mem_of_getElem? (i := 2) rfl) (List.mem_of_getElem? (i := 19) rfl) (by decide)))).trans (((zM_G hMξ (List.mem_of_getElem? (i := 2) rfl) (2000 + 8)).trans (hVξ 3 (2000 + 8) (Or.inl (by decide))))))) (fun _ => ?_)
  refine zp_i2l (pc := 37) hx hb (zd_X12_runOne (37, .i2l, 1, 0, []) (List.mem_of_getElem? (i := 23) rfl)) ?_
  refine zp_last (j := 3) (pc := 38) hx hb hwξ heffξ (zd_X12_runOne (38, .lastore, 1, 0, []) (List.mem_of_getElem? (i := 24) rfl)) (show zp_ia 2 76 = some (13, 1, 0, (-9223372036854775808), 9223372036854775807) from rfl) (zM_P hMξ (List.mem_of_getElem? (i := 19) rfl)) (by omega) (by omega) rfl ?_
  refine zp_load (pc := 39) hx hb (zd_X12_runOne (39, .aload_n 0, 1, 0, []) (List.mem_of_getElem? (i := 25) rfl)) rfl (j := 0) rfl ?_
  refine zp_getf (n := (A 36 : Int)) (pc := 40) hx hb hEξ hwξ (zd_X12_runOne (40, .getfield 104, 3, 0, []) (List.mem_of_getElem? (i := 26) rfl)) (j := 54) rfl rfl rfl (zM_P hMξ (List.mem_of_getElem? (i := 0) rfl)) ((zp_set_ne (Or.inl (zM_ne hMξ (List.mem_of_getElem? (i := 0) rfl) (List.mem_of_getElem? (i := 19) rfl) (by decide)))).trans ((zp_set_ne (Or.inl (zM_ne hMξ (List.mem_of_getElem? (i := 0) rfl) (List.mem_of_getElem? (i := 19) rfl) (by decide)))).trans ((zp_set_ne (Or.inl (zM_ne hMξ (List.mem_of_getElem? (i := 0) rfl) (List.mem_of_getElem? (i := 19) rfl) (by decide)))).trans (((zM_G hMξ (List.mem_of_getElem? (i := 0) rfl) 36).trans (zM_F hMξ (List.mem_of_getElem? (i := 18) rfl))))))) ?_
  refine zp_const (pc := 43) hx hb (zd_X12_runOne (43, .iconst 4, 1, 0, []) (List.mem_of_getElem? (i := 27) rfl)) rfl rfl ?_
  refine zp_load (pc := 44) hx hb (zd_X12_runOne (44, .aload_n 0, 1, 0, []) (List.mem_of_getElem? (i := 28) rfl)) rfl (j := 0) rfl ?_
  refine zp_getf (n := (V 0 57)) (pc := 45) hx hb hEξ hwξ (zd_X12_runOne (45, .getfield 540, 3, 0, []) (List.mem_of_getElem? (i := 29) rfl)) (j := 75) rfl rfl rfl (zM_P hMξ (List.mem_of_getElem? (i := 0) rfl)) ((zp_set_ne (Or.inl (zM_ne hMξ (List.mem_of_getElem? (i := 0) rfl) (List.mem_of_getElem? (i := 19) rfl) (by decide)))).trans ((zp_set_ne (Or.inl (zM_ne hMξ (List.mem_of_getElem? (i := 0) rfl) (List.mem_of_getElem? (i := 19) rfl) (by decide)))).trans ((zp_set_ne (Or.inl (zM_ne hMξ (List.mem_of_getElem? (i := 0) rfl) (List.mem_of_getElem? (i := 19) rfl) (by decide)))).trans (((zM_G hMξ (List.mem_of_getElem? (i := 0) rfl) 57).trans (hVξ 0 57 (Or.inr (by decide)))))))) ?_
  refine zp_kn (k := 57) (a := (A 0)) hwξ (show zp_fd 92 57 = some (12, 0, 0, (-2147483648), 2147483647) from rfl) rfl (zM_P hMξ (List.mem_of_getElem? (i := 0) rfl)) (fun hf356ξ => ?_)
  have hf356bξ := zp_int hf356ξ
  rw [((zp_set_ne (Or.inl (zM_ne hMξ (List.mem_of_getElem? (i := 0) rfl) (List.mem_of_getElem? (i := 19) rfl) (by decide)))).trans ((zp_set_ne (Or.inl (zM_ne hMξ (List.mem_of_getElem? (i := 0) rfl) (List.mem_of_getElem? (i := 19) rfl) (by decide)))).trans ((zp_set_ne (Or.inl (zM_ne hMξ (List.mem_of_getElem? (i := 0) rfl) (List.mem_of_getElem? (i := 19) rfl) (by decide)))).trans (((zM_G hMξ (List.mem_of_getElem? (i := 0) rfl) 57).trans (hVξ 0 57 (Or.inr (by decide))))))))] at hf356bξ
  clear hf356ξ
  refine zp_i2l (pc := 48) hx hb (zd_X12_runOne (48, .i2l, 1, 0, []) (List.mem_of_getElem? (i := 30) rfl)) ?_
  refine zp_last (j := 4) (pc := 49) hx hb hwξ heffξ (zd_X12_runOne (49, .lastore, 1, 0, []) (List.mem_of_getElem? (i := 31) rfl)) (show zp_ia 2 76 = some (13, 1, 0, (-9223372036854775808), 9223372036854775807) from rfl) (zM_P hMξ (List.mem_of_getElem? (i := 19) rfl)) (by omega) (by omega) rfl ?_
  refine zp_load (pc := 50) hx hb (zd_X12_runOne (50, .aload_n 0, 1, 0, []) (List.mem_of_getElem? (i := 32) rfl)) rfl (j := 0) rfl ?_
  refine zp_getf (n := (A 36 : Int)) (pc := 51) hx hb hEξ hwξ (zd_X12_runOne (51, .getfield 104, 3, 0, []) (List.mem_of_getElem? (i := 33) rfl)) (j := 54) rfl rfl rfl (zM_P hMξ (List.mem_of_getElem? (i := 0) rfl)) ((zp_set_ne (Or.inl (zM_ne hMξ (List.mem_of_getElem? (i := 0) rfl) (List.mem_of_getElem? (i := 19) rfl) (by decide)))).trans ((zp_set_ne (Or.inl (zM_ne hMξ (List.mem_of_getElem? (i := 0) rfl) (List.mem_of_getElem? (i := 19) rfl) (by decide)))).trans ((zp_set_ne (Or.inl (zM_ne hMξ (List.mem_of_getElem? (i := 0) rfl) (List.mem_of_getElem? (i := 19) rfl) (by decide)))).trans ((zp_set_ne (Or.inl (zM_ne hMξ (List.mem_of_getElem? (i := 0) rfl) (List.mem_of_getElem? (i := 19) rfl) (by decide)))).trans (((zM_G hMξ (List.mem_of_getElem? (i := 0) rfl) 36).trans (zM_F hMξ (List.mem_of_getElem? (i := 18) rfl)))))))) ?_
  refine zp_const (pc := 54) hx hb (zd_X12_runOne (54, .iconst 5, 1, 0, []) (List.mem_of_getElem? (i := 34) rfl)) rfl rfl ?_
  refine zp_load (pc := 55) hx hb (zd_X12_runOne (55, .aload_n 0, 1, 0, []) (List.mem_of_getElem? (i := 35) rfl)) rfl (j := 0) rfl ?_
  refine zp_getf (n := (V 0 58)) (pc := 56) hx hb hEξ hwξ (zd_X12_runOne (56, .getfield 543, 3, 0, []) (List.mem_of_getElem? (i := 36) rfl)) (j := 76) rfl rfl rfl (zM_P hMξ (List.mem_of_getElem? (i := 0) rfl)) ((zp_set_ne (Or.inl (zM_ne hMξ (List.mem_of_getElem? (i := 0) rfl) (List.mem_of_getElem? (i := 19) rfl) (by decide)))).trans ((zp_set_ne (Or.inl (zM_ne hMξ (List.mem_of_getElem? (i := 0) rfl) (List.mem_of_getElem? (i := 19) rfl) (by decide)))).trans ((zp_set_ne (Or.inl (zM_ne hMξ (List.mem_of_getElem? (i := 0) rfl) (List.mem_of_getElem? (i := 19) rfl) (by decide)))).trans ((zp_set_ne (Or.inl (zM_ne hMξ (List.mem_of_getElem? (i := 0) rfl) (List.mem_of_getElem? (i := 19) rfl) (by decide)))).trans (((zM_G hMξ (List.mem_of_getElem? (i := 0) rfl) 58).trans (hVξ 0 58 (Or.inr (by decide))))))))) ?_
  refine zp_kn (k := 58) (a := (A 0)) hwξ (show zp_fd 92 58 = some (12, 0, 0, (-2147483648), 2147483647) from rfl) rfl (zM_P hMξ (List.mem_of_getElem? (i := 0) rfl)) (fun hf357ξ => ?_)
  have hf357bξ := zp_int hf357ξ
  rw [((zp_set_ne (Or.inl (zM_ne hMξ (List.mem_of_getElem? (i := 0) rfl) (List.mem_of_getElem? (i := 19) rfl) (by decide)))).trans ((zp_set_ne (Or.inl (zM_ne hMξ (List.mem_of_getElem? (i := 0) rfl) (List.mem_of_getElem? (i := 19) rfl) (by decide)))).trans ((zp_set_ne (Or.inl (zM_ne hMξ (List.mem_of_getElem? (i := 0) rfl) (List.mem_of_getElem? (i := 19) rfl) (by decide)))).trans ((zp_set_ne (Or.inl (zM_ne hMξ (List.mem_of_getElem? (i := 0) rfl) (List.mem_of_getElem? (i := 19) rfl) (by decide)))).trans (((zM_G hMξ (List.mem_of_getElem? (i := 0) rfl) 58).trans (hVξ 0 58 (Or.inr (by decide)))))))))] at hf357bξ
  clear hf357ξ
  refine zp_i2l (pc := 59) hx hb (zd_X12_runOne (59, .i2l, 1, 0, []) (List.mem_of_getElem? (i := 37) rfl)) ?_
  refine zp_last (j := 5) (pc := 60) hx hb hwξ heffξ (zd_X12_runOne (60, .lastore, 1, 0, []) (List.mem_of_getElem? (i := 38) rfl)) (show zp_ia 2 76 = some (13, 1, 0, (-9223372036854775808), 9223372036854775807) from rfl) (zM_P hMξ (List.mem_of_getElem? (i := 19) rfl)) (by omega) (by omega) rfl ?_
  refine zp_load (pc := 61) hx hb (zd_X12_runOne (61, .aload_n 0, 1, 0, []) (List.mem_of_getElem? (i := 39) rfl)) rfl (j := 0) rfl ?_
  refine zp_const (pc := 62) hx hb (zd_X12_runOne (62, .iconst 0, 1, 0, []) (List.mem_of_getElem? (i := 40) rfl)) rfl rfl ?_
  refine zp_putf (pc := 63) hx hb hEξ hwξ heffξ (zd_X12_runOne (63, .putfield 537, 3, 0, []) (List.mem_of_getElem? (i := 41) rfl)) (j := 78) rfl rfl rfl (zM_P hMξ (List.mem_of_getElem? (i := 0) rfl)) (zp_o0 (by decide) (by decide) (by decide) (by decide)) ?_
  have hMhξ : zM A zYq zFq (zp_set (zp_set (zp_set (zp_set (zp_set (zp_set M 36 (2000 + 1) (V 3 (2000 + 5))) 36 (2000 + 2) (V 3 (2000 + 10))) 36 (2000 + 3) (V 3 (2000 + 8))) 36 (2000 + 4) (V 0 57)) 36 (2000 + 5) (V 0 58)) 0 60 0) u.1 (zp_set (zp_set (zp_set (zp_set (zp_set (zp_set (zp_n u.2.1) (A 36) (2000 + 1) (V 3 (2000 + 5))) (A 36) (2000 + 2) (V 3 (2000 + 10))) (A 36) (2000 + 3) (V 3 (2000 + 8))) (A 36) (2000 + 4) (V 0 57)) (A 36) (2000 + 5) (V 0 58)) (A 0) 60 0) := (zM_set (zM_setE (zM_setE (zM_setE (zM_setE (zM_setE hMξ (List.mem_of_getElem? (i := 19) rfl)) (List.mem_of_getElem? (i := 19) rfl)) (List.mem_of_getElem? (i := 19) rfl)) (List.mem_of_getElem? (i := 19) rfl)) (List.mem_of_getElem? (i := 19) rfl)) (List.mem_of_getElem? (i := 0) rfl) (by decide))
  have hVhξ : ∀ o k, zNs o k → (zp_set (zp_set (zp_set (zp_set (zp_set (zp_set M 36 (2000 + 1) (V 3 (2000 + 5))) 36 (2000 + 2) (V 3 (2000 + 10))) 36 (2000 + 3) (V 3 (2000 + 8))) 36 (2000 + 4) (V 0 57)) 36 (2000 + 5) (V 0 58)) 0 60 0) o k = zo_hd V o k := (zV_set (zV_set (zV_set (zV_set (zV_set (zV_set hVξ))))))
  have hShξ : zSb (zp_set (zp_set (zp_set (zp_set (zp_set (zp_set M 36 (2000 + 1) (V 3 (2000 + 5))) 36 (2000 + 2) (V 3 (2000 + 10))) 36 (2000 + 3) (V 3 (2000 + 8))) 36 (2000 + 4) (V 0 57)) 36 (2000 + 5) (V 0 58)) 0 60 0) := (zSb_set (by decide) (zSb_set (by decide) (zSb_set (by decide) (zSb_set (by decide) (zSb_set (by decide) (zSb_set (by decide) hSbξ))))))
  obtain ⟨Gh, hGhξ⟩ : ∃ G9ξ, G9ξ = (zp_set (zp_set (zp_set (zp_set (zp_set (zp_set (zp_n u.2.1) (A 36) (2000 + 1) (V 3 (2000 + 5))) (A 36) (2000 + 2) (V 3 (2000 + 10))) (A 36) (2000 + 3) (V 3 (2000 + 8))) (A 36) (2000 + 4) (V 0 57)) (A 36) (2000 + 5) (V 0 58)) (A 0) 60 0) := ⟨_, rfl⟩
  rw [← hGhξ] at hMhξ ⊢
  obtain ⟨Mh, hMheξ⟩ : ∃ M9ξ, M9ξ = (zp_set (zp_set (zp_set (zp_set (zp_set (zp_set M 36 (2000 + 1) (V 3 (2000 + 5))) 36 (2000 + 2) (V 3 (2000 + 10))) 36 (2000 + 3) (V 3 (2000 + 8))) 36 (2000 + 4) (V 0 57)) 36 (2000 + 5) (V 0 58)) 0 60 0) := ⟨_, rfl⟩
  rw [← hMheξ] at hMhξ hVhξ hShξ
  have hsq5ξ := hKhξ.2.2.2
  cases htstξ : K.2.2.2.2 with
  | none =>
    have h56eξ : zo_hd V 56 (2000 + (c8 + 5)) = zo_hd V 56 (2000 + (c8 + 6)) := by
      rcases hsq5ξ with ⟨-, z9ξ⟩ | ⟨x9ξ, b9ξ, e9ξ, k9ξ, f9ξ, hx9ξ, -⟩
      · exact z9ξ
      · rw [htstξ] at hx9ξ
        cases hx9ξ
    refine zp_load (pc := 66) hx hb (zd_X12_runOne (66, .aload_n 0, 1, 0, []) (List.mem_of_getElem? (i := 42) rfl)) rfl (j := 0) rfl ?_
    refine zp_getf (n := (A 56 : Int)) (pc := 67) hx hb hEξ hwξ (zd_X12_runOne (67, .getfield 149, 3, 0, []) (List.mem_of_getElem? (i := 43) rfl)) (j := 74) rfl rfl rfl (zM_P hMhξ (List.mem_of_getElem? (i := 0) rfl)) ((zM_G hMhξ (List.mem_of_getElem? (i := 0) rfl) 56).trans (zM_F hMhξ (List.mem_of_getElem? (i := 32) rfl))) ?_
    refine zp_load (pc := 70) hx hb (zd_X12_runOne (70, .iload_n 1, 1, 0, []) (List.mem_of_getElem? (i := 44) rfl)) rfl (j := 1) rfl ?_
    refine zp_const (pc := 71) hx hb (zd_X12_runOne (71, .iconst 5, 1, 0, []) (List.mem_of_getElem? (i := 45) rfl)) rfl rfl ?_
    refine zp_add (n := ((c8 : Int) + 5)) (pc := 72) hx hb (zd_X12_runOne (72, .iadd, 1, 0, []) (List.mem_of_getElem? (i := 46) rfl)) (by omega) (zp_r0 (by omega) (by omega)) ?_
    refine zp_iald (j := (c8 + 5)) (v := ((zo_hd V) 56 (2000 + (c8 + 5)))) (pc := 73) hx hb hwξ (zd_X12_runOne (73, .iaload, 1, 0, []) (List.mem_of_getElem? (i := 47) rfl)) (show zp_ia 1 90 = some (96, 0, 0, (-2147483648), 2147483647) from rfl) (zM_P hMhξ (List.mem_of_getElem? (i := 33) rfl)) (by omega) (by omega) ((zM_G hMhξ (List.mem_of_getElem? (i := 33) rfl) (2000 + (c8 + 5))).trans (hVhξ 56 (2000 + (c8 + 5)) (Or.inl (by decide)))) (fun hk358ξ => ?_)
    have hk358bξ := zp_int hk358ξ
    clear hk358ξ
    refine zp_load (pc := 74) hx hb (zd_X12_runOne (74, .aload_n 0, 1, 0, []) (List.mem_of_getElem? (i := 48) rfl)) rfl (j := 0) rfl ?_
    refine zp_getf (n := (A 56 : Int)) (pc := 75) hx hb hEξ hwξ (zd_X12_runOne (75, .getfield 149, 3, 0, []) (List.mem_of_getElem? (i := 49) rfl)) (j := 74) rfl rfl rfl (zM_P hMhξ (List.mem_of_getElem? (i := 0) rfl)) ((zM_G hMhξ (List.mem_of_getElem? (i := 0) rfl) 56).trans (zM_F hMhξ (List.mem_of_getElem? (i := 32) rfl))) ?_
    refine zp_load (pc := 78) hx hb (zd_X12_runOne (78, .iload_n 1, 1, 0, []) (List.mem_of_getElem? (i := 50) rfl)) rfl (j := 1) rfl ?_
    refine zp_const (pc := 79) hx hb (zd_X12_runOne (79, .bipush 6, 2, 0, []) (List.mem_of_getElem? (i := 51) rfl)) rfl rfl ?_
    refine zp_add (n := ((c8 : Int) + 6)) (pc := 81) hx hb (zd_X12_runOne (81, .iadd, 1, 0, []) (List.mem_of_getElem? (i := 52) rfl)) (by omega) (zp_r0 (by omega) (by omega)) ?_
    refine zp_iald (j := (c8 + 6)) (v := ((zo_hd V) 56 (2000 + (c8 + 6)))) (pc := 82) hx hb hwξ (zd_X12_runOne (82, .iaload, 1, 0, []) (List.mem_of_getElem? (i := 53) rfl)) (show zp_ia 1 90 = some (96, 0, 0, (-2147483648), 2147483647) from rfl) (zM_P hMhξ (List.mem_of_getElem? (i := 33) rfl)) (by omega) (by omega) ((zM_G hMhξ (List.mem_of_getElem? (i := 33) rfl) (2000 + (c8 + 6))).trans (hVhξ 56 (2000 + (c8 + 6)) (Or.inl (by decide)))) (fun hk359ξ => ?_)
    have hk359bξ := zp_int hk359ξ
    clear hk359ξ
    refine zp_icmp (pc := 83) (tgt := 107) hx hb (zd_X12_runOne (83, .if_icmp .ge 24, 3, 0, []) (List.mem_of_getElem? (i := 54) rfl)) rfl (fun (hc360ξ : ((zo_hd V) 56 (2000 + (c8 + 6))) ≤ ((zo_hd V) 56 (2000 + (c8 + 5)))) => ?_) (fun (hc360ξ : ¬ (((zo_hd V) 56 (2000 + (c8 + 6))) ≤ ((zo_hd V) 56 (2000 + (c8 + 5))))) => ?_)
    · refine zp_drop (L' := [(0, 2, (A 0 : Int)), (1, 0, (c8 : Int))]) (by simp) ?_
      exact h107ξ _ ⟨Mh, hMhξ, hVhξ, hShξ⟩ (by rw [htstξ]; rfl)
    · exfalso
      omega
  | some y9ξ =>
    obtain ⟨b9ξ, e9ξ, k9ξ, f9ξ, hb9ξ, he9ξ, helξ, hk9ξ, hy9ξ⟩ : ∃ b e k f : Nat, zo_hd V 56 (2000 + (c8 + 5)) = (b : Int) ∧ zo_hd V 56 (2000 + (c8 + 6)) = (e : Int) ∧ e ≤ 400 ∧ k ≤ 400 ∧ yE (fun q => zo_hd V 24 (2000 + q)) (fun q => zo_hd V 25 (2000 + q)) f b e k y9ξ := by
      rcases hsq5ξ with ⟨z9ξ, -⟩ | ⟨x9ξ, b, e, k, f, hx9ξ, h1ξ, h2ξ, h3ξ, h4ξ, h5ξ⟩
      · rw [htstξ] at z9ξ
        cases z9ξ
      · rw [htstξ] at hx9ξ
        obtain rfl := Option.some.inj hx9ξ
        exact ⟨b, e, k, f, h1ξ, h2ξ, h3ξ, h4ξ, h5ξ⟩
    have hlt9ξ := yE_lt hy9ξ
    refine zp_load (pc := 66) hx hb (zd_X12_runOne (66, .aload_n 0, 1, 0, []) (List.mem_of_getElem? (i := 42) rfl)) rfl (j := 0) rfl ?_
    refine zp_getf (n := (A 56 : Int)) (pc := 67) hx hb hEξ hwξ (zd_X12_runOne (67, .getfield 149, 3, 0, []) (List.mem_of_getElem? (i := 43) rfl)) (j := 74) rfl rfl rfl (zM_P hMhξ (List.mem_of_getElem? (i := 0) rfl)) ((zM_G hMhξ (List.mem_of_getElem? (i := 0) rfl) 56).trans (zM_F hMhξ (List.mem_of_getElem? (i := 32) rfl))) ?_
    refine zp_load (pc := 70) hx hb (zd_X12_runOne (70, .iload_n 1, 1, 0, []) (List.mem_of_getElem? (i := 44) rfl)) rfl (j := 1) rfl ?_
    refine zp_const (pc := 71) hx hb (zd_X12_runOne (71, .iconst 5, 1, 0, []) (List.mem_of_getElem? (i := 45) rfl)) rfl rfl ?_
    refine zp_add (n := ((c8 : Int) + 5)) (pc := 72) hx hb (zd_X12_runOne (72, .iadd, 1, 0, []) (List.mem_of_getElem? (i := 46) rfl)) (by omega) (zp_r0 (by omega) (by omega)) ?_
    refine zp_iald (j := (c8 + 5)) (v := ((zo_hd V) 56 (2000 + (c8 + 5)))) (pc := 73) hx hb hwξ (zd_X12_runOne (73, .iaload, 1, 0, []) (List.mem_of_getElem? (i := 47) rfl)) (show zp_ia 1 90 = some (96, 0, 0, (-2147483648), 2147483647) from rfl) (zM_P hMhξ (List.mem_of_getElem? (i := 33) rfl)) (by omega) (by omega) ((zM_G hMhξ (List.mem_of_getElem? (i := 33) rfl) (2000 + (c8 + 5))).trans (hVhξ 56 (2000 + (c8 + 5)) (Or.inl (by decide)))) (fun hk361ξ => ?_)
    have hk361bξ := zp_int hk361ξ
    clear hk361ξ
    refine zp_load (pc := 74) hx hb (zd_X12_runOne (74, .aload_n 0, 1, 0, []) (List.mem_of_getElem? (i := 48) rfl)) rfl (j := 0) rfl ?_
    refine zp_getf (n := (A 56 : Int)) (pc := 75) hx hb hEξ hwξ (zd_X12_runOne (75, .getfield 149, 3, 0, []) (List.mem_of_getElem? (i := 49) rfl)) (j := 74) rfl rfl rfl (zM_P hMhξ (List.mem_of_getElem? (i := 0) rfl)) ((zM_G hMhξ (List.mem_of_getElem? (i := 0) rfl) 56).trans (zM_F hMhξ (List.mem_of_getElem? (i := 32) rfl))) ?_
    refine zp_load (pc := 78) hx hb (zd_X12_runOne (78, .iload_n 1, 1, 0, []) (List.mem_of_getElem? (i := 50) rfl)) rfl (j := 1) rfl ?_
    refine zp_const (pc := 79) hx hb (zd_X12_runOne (79, .bipush 6, 2, 0, []) (List.mem_of_getElem? (i := 51) rfl)) rfl rfl ?_
    refine zp_add (n := ((c8 : Int) + 6)) (pc := 81) hx hb (zd_X12_runOne (81, .iadd, 1, 0, []) (List.mem_of_getElem? (i := 52) rfl)) (by omega) (zp_r0 (by omega) (by omega)) ?_
    refine zp_iald (j := (c8 + 6)) (v := ((zo_hd V) 56 (2000 + (c8 + 6)))) (pc := 82) hx hb hwξ (zd_X12_runOne (82, .iaload, 1, 0, []) (List.mem_of_getElem? (i := 53) rfl)) (show zp_ia 1 90 = some (96, 0, 0, (-2147483648), 2147483647) from rfl) (zM_P hMhξ (List.mem_of_getElem? (i := 33) rfl)) (by omega) (by omega) ((zM_G hMhξ (List.mem_of_getElem? (i := 33) rfl) (2000 + (c8 + 6))).trans (hVhξ 56 (2000 + (c8 + 6)) (Or.inl (by decide)))) (fun hk362ξ => ?_)
    have hk362bξ := zp_int hk362ξ
    clear hk362ξ
    refine zp_icmp (pc := 83) (tgt := 107) hx hb (zd_X12_runOne (83, .if_icmp .ge 24, 3, 0, []) (List.mem_of_getElem? (i := 54) rfl)) rfl (fun (hc363ξ : ((zo_hd V) 56 (2000 + (c8 + 6))) ≤ ((zo_hd V) 56 (2000 + (c8 + 5)))) => ?_) (fun (hc363ξ : ¬ (((zo_hd V) 56 (2000 + (c8 + 6))) ≤ ((zo_hd V) 56 (2000 + (c8 + 5))))) => ?_)
    · exfalso
      omega
    · refine zp_load (pc := 86) hx hb (zd_X12_runOne (86, .aload_n 0, 1, 0, []) (List.mem_of_getElem? (i := 55) rfl)) rfl (j := 0) rfl ?_
      refine zp_load (pc := 87) hx hb (zd_X12_runOne (87, .iload_n 1, 1, 0, []) (List.mem_of_getElem? (i := 56) rfl)) rfl (j := 1) rfl ?_
      refine zp_const (pc := 88) hx hb (zd_X12_runOne (88, .iconst 5, 1, 0, []) (List.mem_of_getElem? (i := 57) rfl)) rfl rfl ?_
      refine zp_add (n := ((c8 : Int) + 5)) (pc := 89) hx hb (zd_X12_runOne (89, .iadd, 1, 0, []) (List.mem_of_getElem? (i := 58) rfl)) (by omega) (zp_r0 (by omega) (by omega)) ?_
      refine zp_call (pc := 90) (how := 0) (idx := 546) (mi := 291) (S := []) hx hb hEξ hwξ heffξ hrmξ (zX_suq hWξ A (zo_hd V) (c8 + 5) K.2.2.2.2) rfl (j := 72) rfl rfl (by decide +kernel) (zd_X12_runOne (90, .invokevirtual 546, 3, 0, []) (List.mem_of_getElem? (i := 59) rfl)) [(A 0 : Int), ((c8 : Int) + 5)] rfl ⟨zp_o2 (zM_P hMhξ (List.mem_of_getElem? (i := 0) rfl)), zp_o0 (by omega) (by omega) (by omega) (by omega), trivial⟩ (Nat.le_of_ble_eq_true rfl) ⟨⟨Mh, hMhξ, hVhξ, hShξ⟩, rfl, (show ((c8 : Int) + 5) = ((c8 + 5 : Nat) : Int) by omega), by omega, h20hξ, hvhξ, hKhξ.2.2.2⟩ (fun al halξ rnr Pr Gr hextrξ hfrrξ hokrξ hcsrξ hpsirξ => ?_)
      obtain rfl := List.mem_singleton.mp halξ
      have hrrξ := zp_int (hokrξ _ rfl).1
      obtain ⟨hPerξ, or, hobrξ, ⟨Mr, hMrξ, hVrξ, hSrξ⟩, hsprξ⟩ := hpsirξ
      subst hPerξ
      clear hextrξ hfrrξ hokrξ hcsrξ
      rcases zo_sp_1 h60hξ hsprξ with ⟨v9ξ, e0, horξ, hrvξ⟩ | ⟨e0, horξ⟩
      · subst horξ
        rw [htstξ] at e0
        have e0 : y9ξ (zo_eV (zo_hd V)) = _ := e0
        subst hrvξ
        have hMVrξ : zMVq A (zo_hd V) u.1 Gr := zMVq_s h60hξ ⟨Mr, hMrξ, hVrξ, hSrξ⟩
        obtain ⟨Mi, hMiξ, hVMiξ, hSMiξ⟩ := hMVrξ
        refine zp_store (L' := [(2, 0, rnr), (0, 2, (A 0 : Int)), (1, 0, (c8 : Int))]) (pc := 93) hx hb hnLξ (zd_X12_runOne (93, .istore_n 2, 1, 0, []) (List.mem_of_getElem? (i := 60) rfl)) rfl rfl rfl ?_
        refine zp_load (pc := 94) hx hb (zd_X12_runOne (94, .aload_n 0, 1, 0, []) (List.mem_of_getElem? (i := 61) rfl)) rfl (j := 1) rfl ?_
        refine zp_getf (n := 0) (pc := 95) hx hb hEξ hwξ (zd_X12_runOne (95, .getfield 537, 3, 0, []) (List.mem_of_getElem? (i := 62) rfl)) (j := 78) rfl rfl rfl (zM_P hMiξ (List.mem_of_getElem? (i := 0) rfl)) (((zM_G hMiξ (List.mem_of_getElem? (i := 0) rfl) 60).trans (hVMiξ 0 60 (Or.inr (by decide)))).trans h60hξ) ?_
        refine zp_if (pc := 98) (tgt := 105) hx hb (zd_X12_runOne (98, .ifCond .ne 7, 3, 0, []) (List.mem_of_getElem? (i := 63) rfl)) rfl (fun (hc364ξ : ¬ (0 : Int) = 0) => ?_) (fun (hc364ξ : ¬ (¬ (0 : Int) = 0)) => ?_)
        · exfalso
          omega
        · refine zp_load (pc := 101) hx hb (zd_X12_runOne (101, .iload_n 2, 1, 0, []) (List.mem_of_getElem? (i := 64) rfl)) rfl (j := 0) rfl ?_
          refine zp_if (pc := 102) (tgt := 107) hx hb (zd_X12_runOne (102, .ifCond .ne 5, 3, 0, []) (List.mem_of_getElem? (i := 65) rfl)) rfl (fun (hc365ξ : ¬ rnr = 0) => ?_) (fun (hc365ξ : ¬ (¬ rnr = 0)) => ?_)
          · refine zp_drop (L' := [(0, 2, (A 0 : Int)), (1, 0, (c8 : Int))]) (by simp) ?_
            exact h107ξ _ ⟨Mi, hMiξ, hVMiξ, hSMiξ⟩ (by rw [htstξ]; unfold zo_tb; dsimp only; rw [e0]; exact decide_eq_true (by omega))
          · refine zp_const (pc := 105) hx hb (zd_X12_runOne (105, .iconst 0, 1, 0, []) (List.mem_of_getElem? (i := 66) rfl)) rfl rfl ?_
            refine zp_iret (pc := 106) (n := 0) hx hb hEξ hQξ hU5ξ rfl (by decide) (zd_X12_runOne (106, .ireturn, 1, 0, []) (List.mem_of_getElem? (i := 67) rfl)) (j := 0) rfl (zp_o0 (by omega) (by omega) (by omega) (by omega)) ?_
            rw [hpsξ]
            refine ⟨rfl, ?_⟩
            have hffξ : zo_run V nuξ n1ξ npξ Lwξ K = (0, zo_hd V) := by
              unfold zo_run
              rw [if_neg]
              rw [htstξ]
              unfold zo_tb
              dsimp only
              rw [e0]
              intro z9ξ
              exact absurd (of_decide_eq_true z9ξ) (by omega)
            rw [hffξ]
            obtain ⟨z9ξ, hz9ξ⟩ := zMVq_u (o := 0) (k := 60) (show zMVq A (zo_hd V) u.1 _ from ⟨Mi, hMiξ, hVMiξ, hSMiξ⟩)
            exact ⟨z9ξ, hz9ξ, rfl⟩
      · subst horξ
        rw [htstξ] at e0
        have e0 : y9ξ (zo_eV (zo_hd V)) = _ := e0
        refine zp_store (L' := [(2, 0, rnr), (0, 2, (A 0 : Int)), (1, 0, (c8 : Int))]) (pc := 93) hx hb hnLξ (zd_X12_runOne (93, .istore_n 2, 1, 0, []) (List.mem_of_getElem? (i := 60) rfl)) rfl rfl rfl ?_
        refine zp_load (pc := 94) hx hb (zd_X12_runOne (94, .aload_n 0, 1, 0, []) (List.mem_of_getElem? (i := 61) rfl)) rfl (j := 1) rfl ?_
        refine zp_getf (n := 1) (pc := 95) hx hb hEξ hwξ (zd_X12_runOne (95, .getfield 537, 3, 0, []) (List.mem_of_getElem? (i := 62) rfl)) (j := 78) rfl rfl rfl (zM_P hMrξ (List.mem_of_getElem? (i := 0) rfl)) (((zM_G hMrξ (List.mem_of_getElem? (i := 0) rfl) 60).trans (hVrξ 0 60 (Or.inr (by decide)))).trans zp_set_self) ?_
        refine zp_if (pc := 98) (tgt := 105) hx hb (zd_X12_runOne (98, .ifCond .ne 7, 3, 0, []) (List.mem_of_getElem? (i := 63) rfl)) rfl (fun (hc366ξ : ¬ (1 : Int) = 0) => ?_) (fun (hc366ξ : ¬ (¬ (1 : Int) = 0)) => ?_)
        · refine zp_const (pc := 105) hx hb (zd_X12_runOne (105, .iconst 0, 1, 0, []) (List.mem_of_getElem? (i := 66) rfl)) rfl rfl ?_
          refine zp_iret (pc := 106) (n := 0) hx hb hEξ hQξ hU5ξ rfl (by decide) (zd_X12_runOne (106, .ireturn, 1, 0, []) (List.mem_of_getElem? (i := 67) rfl)) (j := 0) rfl (zp_o0 (by omega) (by omega) (by omega) (by omega)) ?_
          rw [hpsξ]
          refine ⟨rfl, ?_⟩
          have hffξ : zo_run V nuξ n1ξ npξ Lwξ K = (0, zo_hd V) := by
            unfold zo_run
            rw [if_neg]
            rw [htstξ]
            unfold zo_tb
            dsimp only
            rw [e0]
            decide
          rw [hffξ]
          exact ⟨1, ⟨Mr, hMrξ, hVrξ, hSrξ⟩, rfl⟩
        · exfalso
          omega
