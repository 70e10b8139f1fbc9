/-! part i3: the class over logical cells: the law in force, what the rules are about -/
section ZI3
variable {p : Program} {l : Launch} {e : Env} {R : Room} {s : State} {m : MethodId} {args : Array Value} {below : List Frame} {meth : Method} {c : Code} {Q : State → Prop}
variable {cc : ByteArray} {w : zk_W} {u : zk_M} {Ts : List Jvm.Cond} {own : String}
variable {xs : List Nat} {pc : Nat} {L : List (Nat × Nat × Int)} {S : List (Nat × Int)} {P : Nat → Option Nat} {G : Nat → Nat → Int}
theorem zp_rarr {xs : List Nat} {P : Nat → Option Nat} {F : Nat → va_E} {H : Heap} (h : zp_wt w s xs P F H) {a t : Nat} {T : zk_T} (hpξ : P a = some t) (hTξ : w.1[t]? = some T) (hsξ : T.1 = 3) : ∃ cA n f, F a = .inl (cA, n, .inr (.inr (.inr (.inr f)))) ∧ T.2.1 ≤ n ∧ n ≤ T.2.2.1 ∧ ArrOfT s cA (.object (zk_rn w T)) ∧ (∀ j, j < n → zk_fv P (zk_fj T j) (va_rf (f j))) ∧ H[a]? = some (vp_cell cA (n, .inr (.inr (.inr (.inr f))))) ∧ w.2.2.2.1 ≤ a := by
  obtain ⟨h1ξ, h2ξ, h3ξ⟩ := h.el hpξ hTξ
  unfold zk_el at h1ξ
  rw [hsξ] at h1ξ
  obtain ⟨cA, n, f, e1, e2⟩ := h1ξ
  rw [e1] at h2ξ
  exact ⟨cA, n, f, e1, e2.1, e2.2.1, e2.2.2.1, e2.2.2.2.2, h2ξ, h3ξ⟩
/-- a reference read from an array -/
theorem zp_aald (hx : p.tables.exec = Jvm.exec) (hb : c.code = cc) (hwξ : w.1 = zt_types) {a t j len x : Nat} {i v lo hi : Int} (hdgξ : decode cc pc = .ok (.aaload, 1)) (hTξ : zt_types[t]? = some (3, len, len, [(2, x, lo, hi)])) (hpξ : P a = some t) (hi' : i = (j : Int)) (hjξ : j < len) (hvξ : G a (2000 + j) = v) (kk : zk_ok P (2, x, lo, hi) v → zp_J p l e R s m args below meth c Q w u xs (pc + 1) L ((2, v) :: S) P G) : zp_J p l e R s m args below meth c Q w u xs pc L ((0, i) :: (2, (a : Int)) :: S) P G := by
  intro F H locs ls hFξ hIξ hLξ hkLξ hkSξ
  rw [← hwξ] at hTξ
  obtain ⟨cA, n, f, o1, o2, o3, o4, o5, o6, o7⟩ := zp_rarr hIξ.1 hpξ hTξ rfl
  have o2 : len ≤ n := o2
  obtain ⟨z, z1, z2⟩ := o5 j (by omega)
  have z1 : zk_ok P (2, x, lo, hi) z := z1
  have z2 : va_rf (f j) = zk_mk 2 z := z2
  obtain ⟨k1ξ, k2⟩ := zp_tl hkSξ
  obtain ⟨i1, i2⟩ := zp_ix (n := n) hi' (by omega) k1ξ.2.1
  have e9ξ : zk_rd (.inl (cA, n, .inr (.inr (.inr (.inr f))))) (2000 + j) = some (va_rf (f j)) := by
    unfold zk_rd zk_av
    dsimp only
    rw [if_neg (by omega), if_pos ⟨by omega, by omega⟩, Nat.add_sub_cancel_left]
  have ez : v = z := by
    rw [← hvξ, ← hFξ]
    unfold zp_n
    rw [o1, e9ξ, z2]
    exact zp_num_mk z1 (show _ ≤ 2 from Nat.le_of_ble_eq_true rfl)
  subst ez
  show W p l e R s m args below meth c H locs 0 0 Q (F0 m pc ls (.int (Int32.ofInt i) :: zk_mk 2 (a : Int) :: S.map (fun q => zk_mk q.1 q.2)))
  rw [zp_ref]
  refine zw_aald hx hb o6 o4 i1 hdgξ ?_
  rw [i2, z2]
  exact kk z1 F H locs ls hFξ hIξ hLξ hkLξ (List.forall_mem_cons.mpr ⟨zp_ok_k z1 (show _ ≤ 2 from Nat.le_of_ble_eq_true rfl), (zp_tl k2).2⟩)
/-- an end with a reference -/
theorem zp_aret (hx : p.tables.exec = Jvm.exec) (hb : c.code = cc) {E : zk_Ev} (hEξ : zk_ctx l R s m args meth c w u zt_TB own zt_TB zt_mn E) {ψ : (Nat → Option Nat) → (Nat → Nat → Int) → List Int → (Nat → Option Nat) → (Nat → Nat → Int) → Int → Prop} (hQξ : Q = MQ below (fun _ st o t => zk_postX w (zk_ev E) (zp_B ψ) u.1 u.2.1 u.2.2.1 st t o) args s (zk_Kr (zk_ev E)).2.2.1 (zk_Kr (zk_ev E)).2.2.2 (fun q => w.2.2.2.1 ≤ q)) (h5ξ : u.2.2.2.2.1 = []) {C : String} (hretξ : (zk_ev E).2.2.2.1 = some (.object C)) (hk2ξ : zk_Kk (zk_ev E) ≠ 2) (hdgξ : decode cc pc = .ok (.areturn, 1)) {j x : Nat} {lo hi n : Int} (halξ : (zk_Ka (zk_ev E))[j]? = some (some (2, x, lo, hi), [])) (hnξ : zk_ok P (2, x, lo, hi) n) (hBξ : ψ u.1 (zp_n u.2.1) u.2.2.1 P G n) : zp_J p l e R s m args below meth c Q w u [] pc L [(2, n)] P G := by
  obtain ⟨⟨e1, e2, e3⟩, e4, e5, e6, e7, e8, e9ξ, e10, e11, e12, e13, e14, e15, e16, e17, e18, e19, y1, y2, y3⟩ := hEξ
  intro F H locs ls hFξ hIξ hLξ hkLξ hkSξ
  have hGξ := zp_toG hIξ hLξ h5ξ
  have hB2ξ : zp_B ψ u.1 u.2.1 u.2.2.1 P F n := by unfold zp_B; rw [hFξ]; exact hBξ
  refine W.widen (Nat.zero_le (zk_Kr (zk_ev E)).2.2.1) (Nat.zero_le (zk_Kr (zk_ev E)).2.2.2) ?_
  rw [hQξ]
  have fin : ∀ t : State, t.heap = H → s.WarmedH t.vm → zk_postX w (zk_ev E) (zp_B ψ) u.1 u.2.1 u.2.2.1 s t (.returned (some (zk_mk 2 n))) := fun t htξ hWξ => zk_fin (al := (some (2, x, lo, hi), [])) (rn := n) (X0 := fun _ => True) e8 e7 e3 e19 hGξ (by unfold zk_rct; rw [if_neg hk2ξ]) (List.mem_of_getElem? halξ) (fun f h => by cases h; exact ⟨hnξ, Nat.le_refl _⟩) (fun q h => absurd h List.not_mem_nil) (Or.inl ⟨hk2ξ, hB2ξ⟩) t htξ hWξ
  have hrξ := e18.2.1
  rw [hretξ] at hrξ
  have hvξ : zk_mk 2 n = .null ∨ ∃ a, zk_mk 2 n = .ref a := by
    rw [zk_mk_ref (Nat.le_refl _)]
    split
    · exact Or.inl rfl
    · exact Or.inr ⟨_, rfl⟩
  exact W.aret hx hb hrξ (Or.inl ⟨_, rfl⟩) hvξ (fun t htξ hWξ => fin t htξ hWξ) hIξ.2.2.2.1.2.2 hdgξ e18.1
/-- a switch by keys -/
theorem zp_lsw (hx : p.tables.exec = Jvm.exec) (hb : c.code = cc) {d v off : Int} {ks : Array (Int × Int)} {len tgt : Nat} (hdgξ : decode cc pc = .ok (.lookupswitch d ks, len)) (hpξ : (ks.toList.zip (ks.toList.drop 1)).all (fun (a, next) => a.1 < next.1) = true) (hoξ : Op.lookupswitch.offset ks.toList d v = off) (htξ : (pc : Int) + off = (tgt : Int)) (kk : zp_J p l e R s m args below meth c Q w u xs tgt L S P G) : zp_J p l e R s m args below meth c Q w u xs pc L ((0, v) :: S) P G := by
  intro F H locs ls hFξ hIξ hLξ hkLξ hkSξ
  have rv : zk_rg 0 v := (zp_tl hkSξ).1.2.1
  have ev : (Int32.ofInt v).toInt = v := zk_i32 rv
  exact lv_lookup hx hb hdgξ hpξ (by rw [ev]; exact hoξ) htξ (kk F H locs ls hFξ hIξ hLξ hkLξ (zp_tl hkSξ).2)
end ZI3
/-- a law's text from cell c on is the law L -/
noncomputable def zLT (Y : List (Nat × Nat)) (F : List (Nat × Nat × Nat)) (V : Nat → Nat → Int) (c : Nat) (L : List yK) : Prop := 100 ≤ c ∧ ((c, 9) ∈ Y ∧ (c + 1, 36) ∈ Y ∧ (c + 2, 37) ∈ Y ∧ (c + 3, 40) ∈ Y ∧ (c + 4, 41) ∈ Y) ∧ ((c, 0, c + 1) ∈ F ∧ (c, 1, c + 2) ∈ F ∧ (c, 4, c + 3) ∈ F ∧ (c, 5, c + 4) ∈ F) ∧ ∃ (N n0 n1ξ n4 nc : Nat) (A : Nat → Nat → Int) (C : Nat → Int), V c 6 = (nc : Int) ∧ (V (c + 1) 1000 = (n0 : Int) ∧ V (c + 2) 1000 = (n1ξ : Int) ∧ V (c + 3) 1000 = (n4 : Int) ∧ V (c + 4) 1000 = (N : Int)) ∧ ((∀ j, V (c + 1) (2000 + j) = A 0 j) ∧ (∀ j, V (c + 2) (2000 + j) = A 1 j) ∧ (∀ j, V (c + 3) (2000 + j) = A 4 j) ∧ ∀ j, V (c + 4) (2000 + j) = C j) ∧ (nc ≤ n0 ∧ nc ≤ n1ξ ∧ nc ≤ n4 ∧ N ≤ 872 ∧ nc ≤ 12 ∧ L.length = nc) ∧ zXs A C N false 0 L
/-- the law in force -/
noncomputable def zLF (A : Nat → Nat) (Y : List (Nat × Nat)) (F : List (Nat × Nat × Nat)) (V : Nat → Nat → Int) (L : List yK) : Prop := ((V 1 15 < 0 ∨ V 1 14 ≤ V 1 15 ∨ 6 ≤ V 1 15) ∧ L = []) ∨ ∃ i c : Nat, V 1 15 = (i : Int) ∧ i < 6 ∧ V 1 15 < V 1 14 ∧ V 40 (2000 + i) = (A c : Int) ∧ zLT Y F V c L
theorem zLT_c {Y : List (Nat × Nat)} {F : List (Nat × Nat × Nat)} {V V' : Nat → Nat → Int} {c : Nat} {L : List yK} (h : zLT Y F V c L) (hVξ : ∀ o k, 100 ≤ o → V' o k = V o k) : zLT Y F V' c L := by
  obtain ⟨h1ξ, h2ξ, h3ξ, N, n0, n1ξ, n4, nc, A, C, a1, ⟨a2, a3, a4, a5⟩, ⟨b1, b2, b3, b4⟩, c1, c2⟩ := h
  exact ⟨h1ξ, h2ξ, h3ξ, N, n0, n1ξ, n4, nc, A, C, (hVξ _ _ h1ξ).trans a1, ⟨(hVξ _ _ (by omega)).trans a2, (hVξ _ _ (by omega)).trans a3, (hVξ _ _ (by omega)).trans a4, (hVξ _ _ (by omega)).trans a5⟩, ⟨fun j => (hVξ _ _ (by omega)).trans (b1 j), fun j => (hVξ _ _ (by omega)).trans (b2 j), fun j => (hVξ _ _ (by omega)).trans (b3 j), fun j => (hVξ _ _ (by omega)).trans (b4 j)⟩, c1, c2⟩
theorem zLF_f {A : Nat → Nat} {Y : List (Nat × Nat)} {F : List (Nat × Nat × Nat)} {V V' : Nat → Nat → Int} {L : List yK} (h : zLF A Y F V L) (hVξ : ∀ o k, (o = 1 ∨ o = 40 ∨ 100 ≤ o) → V' o k = V o k) : zLF A Y F V' L := by
  rcases h with ⟨h1ξ, h2ξ⟩ | ⟨i, c, h1ξ, h2ξ, h3ξ, h4ξ, h5ξ⟩
  · refine Or.inl ⟨?_, h2ξ⟩
    rw [hVξ 1 15 (Or.inl rfl), hVξ 1 14 (Or.inl rfl)]
    exact h1ξ
  · refine Or.inr ⟨i, c, (hVξ 1 15 (Or.inl rfl)).trans h1ξ, h2ξ, ?_, (hVξ 40 _ (Or.inr (Or.inl rfl))).trans h4ξ, zLT_c h5ξ (fun o k h9ξ => hVξ o k (Or.inr (Or.inr h9ξ)))⟩
    rw [hVξ 1 15 (Or.inl rfl), hVξ 1 14 (Or.inl rfl)]
    exact h3ξ
theorem zLn {L : List Nat} {o : Nat} (h : o = 1 ∨ o = 40 ∨ 100 ≤ o) (hLξ : ∀ x ∈ L, ¬ (x = 1 ∨ x = 40 ∨ 100 ≤ x)) : o ∉ L := fun h8ξ => hLξ o h8ξ h
/-- what stands, as a row of the reference hasξ it; g: the going, b: its arrays -/
noncomputable def zRc (V : Nat → Nat → Int) (g b : Nat) : Nat → Int := fun j =>
  if j < 11 then (if j = 0 then V 1 1 else if j = 1 then V 1 3 else if j = 2 then V 1 9 else if j = 3 then V 1 14 else if j = 4 then V 1 15 else if j = 5 then V g 6 else if j = 6 then V 1 16 else if j = 7 then V 1 17 else if j = 8 then V g 3 else if j = 9 then V g 4 else V g 5)
  else if j < 29 then (if (j - 11) % 3 = 0 then V b (2000 + (j - 11) / 3) else if (j - 11) % 3 = 1 then V 31 (2000 + (j - 11) / 3) else V (b + 1) (2000 + (j - 11) / 3))
  else if j < 39 then V (b + 2) (2000 + (j - 29))
  else if j < 89 then V (32 + (j - 39) % 5) (2000 + (j - 39) / 5)
  else if j < 153 then V 30 (2000 + (j - 89))
  else V (37 + (j - 153) % 3) (2000 + (j - 153) / 3)
theorem zRc_o {V : Nat → Nat → Int} {g b p : Nat} (h : p < 6) : zRc V g b (3 * p + 11) = V b (2000 + p) := by
  unfold zRc
  rw [if_neg (by omega), if_pos (by omega), if_pos (by omega), show (3 * p + 11 - 11) / 3 = p by omega]
theorem zRc_l {V : Nat → Nat → Int} {g b p : Nat} (h : p < 6) : zRc V g b (3 * p + 13) = V (b + 1) (2000 + p) := by
  unfold zRc
  rw [if_neg (by omega), if_pos (by omega), if_neg (by omega), if_neg (by omega), show (3 * p + 13 - 11) / 3 = p by omega]
theorem zRc_d {V : Nat → Nat → Int} {g b w : Nat} (h : w < 10) : zRc V g b (w + 29) = V (b + 2) (2000 + w) := by
  unfold zRc
  rw [if_neg (by omega), if_neg (by omega), if_pos (by omega), show w + 29 - 29 = w by omega]
theorem zRc_w {V : Nat → Nat → Int} {g b w i : Nat} (h : w < 10) (hi : i < 5) : zRc V g b (5 * w + (39 + i)) = V (32 + i) (2000 + w) := by
  unfold zRc
  rw [if_neg (by omega), if_neg (by omega), if_neg (by omega), if_pos (by omega), show (5 * w + (39 + i) - 39) % 5 = i by omega, show (5 * w + (39 + i) - 39) / 5 = w by omega]
theorem zRc_s {V : Nat → Nat → Int} {g b k i : Nat} (hi : i < 3) : zRc V g b (3 * k + (153 + i)) = V (37 + i) (2000 + k) := by
  unfold zRc
  rw [if_neg (by omega), if_neg (by omega), if_neg (by omega), if_neg (by omega), if_neg (by omega), show (3 * k + (153 + i) - 153) % 3 = i by omega, show (3 * k + (153 + i) - 153) / 3 = k by omega]
/-- the names of the words stand for what the row says -/
theorem zc_eo {R Wd : Nat → Int} {t pw h p o l : Int} (h0ξ : Wd 0 = t) (h6ξ : Wd 6 = R 8) (h7ξ : Wd 7 = R 5) (h8ξ : Wd 8 = R 7) (hoξ : o = zg_po R 0 p) (hlξ : l = zg_po R 2 p) : zg_eo (zg_ew R zd_S0 t pw h p) (zg_wp (zg_wh Wd h pw) p o l) := by
  intro s v hvξ
  subst hoξ hlξ
  rcases hvξ with ⟨h1ξ, -, -⟩ | ⟨h1ξ, h2ξ, h3ξ⟩
  · subst h1ξ
    unfold yl_o yl_a
    rw [if_pos rfl, if_pos rfl, if_pos rfl]
    rfl
  · subst h1ξ
    have h3ξ : v < 9 := h3ξ
    have e1 : yl_o false 2 v = v + 1 := by
      unfold yl_o
      rw [if_neg (by decide), if_neg (fun z => absurd z.1 (by decide)), if_neg (fun z => absurd z.1 (by decide))]
    rw [e1, if_neg (show ¬ (2 : Int) = 1 by decide)]
    have h4ξ : v = 0 ∨ v = 1 ∨ v = 2 ∨ v = 3 ∨ v = 4 ∨ v = 5 ∨ v = 6 ∨ v = 7 ∨ v = 8 := by omega
    rcases h4ξ with rfl | rfl | rfl | rfl | rfl | rfl | rfl | rfl | rfl
    · exact (Eq.symm h0ξ)
    · rfl
    · rfl
    · rfl
    · rfl
    · rfl
    · exact (Eq.symm h6ξ)
    · exact (Eq.symm h7ξ)
    · exact (Eq.symm h8ξ)
/-- the rules are about turns t and what the row R says, by the law L -/
noncomputable def zAb (A : Nat → Nat) (Y : List (Nat × Nat)) (F : List (Nat × Nat × Nat)) (V : Nat → Nat → Int) (L : List yK) (R : Nat → Int) (t : Int) (M : Nat → Nat → Int) : Prop := (M 66 (2000 + 0) = t ∧ M 66 (2000 + 6) = R 8 ∧ M 66 (2000 + 7) = R 5 ∧ M 66 (2000 + 8) = R 7) ∧ (∀ j, j < 9 → -2147483648 ≤ M 66 (2000 + j) ∧ M 66 (2000 + j) ≤ 2147483648) ∧ ((M 4 2 = -1 ∧ L = []) ∨ ∃ c, M 4 2 = (A c : Int) ∧ zLT Y F V c L)
theorem zAb_f {A : Nat → Nat} {Y : List (Nat × Nat)} {F : List (Nat × Nat × Nat)} {V V' : Nat → Nat → Int} {L : List yK} {R R' : Nat → Int} {t : Int} {M M' : Nat → Nat → Int} (h : zAb A Y F V L R t M) (hMξ : ∀ o k, o = 66 ∨ (o = 4 ∧ k = 2) → M' o k = M o k) (hVξ : ∀ o k, 100 ≤ o → V' o k = V o k) (hRξ : R' 8 = R 8 ∧ R' 5 = R 5 ∧ R' 7 = R 7) : zAb A Y F V' L R' t M' := by
  obtain ⟨⟨h0ξ, h6ξ, h7ξ, h8ξ⟩, hb, hlξ⟩ := h
  refine ⟨⟨(hMξ _ _ (Or.inl rfl)).trans h0ξ, (hMξ _ _ (Or.inl rfl)).trans ((Eq.trans h6ξ) hRξ.1.symm), (hMξ _ _ (Or.inl rfl)).trans ((Eq.trans h7ξ) hRξ.2.1.symm), (hMξ _ _ (Or.inl rfl)).trans ((Eq.trans h8ξ) hRξ.2.2.symm)⟩, fun j hjξ => by rw [hMξ _ _ (Or.inl rfl)]; exact hb j hjξ, ?_⟩
  rcases hlξ with ⟨e, e2⟩ | ⟨c, e, e2⟩
  · exact Or.inl ⟨(hMξ _ _ (Or.inr ⟨rfl, rfl⟩)).trans e, e2⟩
  · exact Or.inr ⟨c, (hMξ _ _ (Or.inr ⟨rfl, rfl⟩)).trans e, zLT_c e2 hVξ⟩
/-- behind a question to the rules -/
theorem zAb_n {A : Nat → Nat} {Y : List (Nat × Nat)} {F : List (Nat × Nat × Nat)} {V : Nat → Nat → Int} {L : List yK} {R : Nat → Int} {t : Int} {M M' : Nat → Nat → Int} (h : zAb A Y F V L R t M) {pw hrξ p o l : Int} (hWξ : ∀ j, M' 66 (2000 + j) = zg_wp (zg_wh (fun j => M 66 (2000 + j)) hrξ pw) p o l j) (hb : ∀ j, j < 9 → -2147483648 ≤ zg_wp (zg_wh (fun j => M 66 (2000 + j)) hrξ pw) p o l j ∧ zg_wp (zg_wh (fun j => M 66 (2000 + j)) hrξ pw) p o l j ≤ 2147483648) (h4ξ : M' 4 2 = M 4 2) : zAb A Y F V L R t M' := by
  obtain ⟨⟨h0ξ, h6ξ, h7ξ, h8ξ⟩, -, hlξ⟩ := h
  exact ⟨⟨(hWξ 0).trans h0ξ, (hWξ 6).trans h6ξ, (hWξ 7).trans h7ξ, (hWξ 8).trans h8ξ⟩, fun j hjξ => by rw [hWξ]; exact hb j hjξ, by rw [h4ξ]; exact hlξ⟩
theorem zc_wb {Wd : Nat → Int} {pw hrξ p o l : Int} (h : ∀ j, j < 9 → -2147483648 ≤ Wd j ∧ Wd j ≤ 2147483648) (h1ξ : -2147483648 ≤ pw ∧ pw ≤ 2147483648) (h2ξ : -2147483648 ≤ hrξ ∧ hrξ ≤ 2147483648) (h3ξ : -2147483648 ≤ p ∧ p ≤ 2147483648) (h4ξ : -2147483648 ≤ o ∧ o ≤ 2147483648) (h5ξ : -2147483648 ≤ l ∧ l ≤ 2147483648) : ∀ j, j < 9 → -2147483648 ≤ zg_wp (zg_wh Wd hrξ pw) p o l j ∧ zg_wp (zg_wh Wd hrξ pw) p o l j ≤ 2147483648 := fun j hjξ => by
  unfold zg_wp zg_wh
  split
  · exact h5ξ
  · split
    · exact h4ξ
    · split
      · exact h3ξ
      · split
        · exact h1ξ
        · split
          · exact h2ξ
          · exact h j hjξ
/-- what the rules ask for -/
theorem zg_lawM {A : Nat → Nat} {Y : List (Nat × Nat)} {F : List (Nat × Nat × Nat)} {V : Nat → Nat → Int} {L : List yK} {R : Nat → Int} {t : Int} {M : Nat → Nat → Int} {P : Nat → Option Nat} {G : Nat → Nat → Int} (hMξ : zM A Y F M P G) (hYFξ : zMc Y F) (hVξ : ∀ o k, zNc o → M o k = V o k) (h : zAb A Y F V L R t M) {pw hrξ p o l : Int} (h1ξ : -2147483648 ≤ pw ∧ pw ≤ 2147483648) (h2ξ : -2147483648 ≤ hrξ ∧ hrξ ≤ 2147483648) (h3ξ : -2147483648 ≤ p ∧ p ≤ 2147483648) (h4ξ : -2147483648 ≤ o ∧ o ≤ 2147483648) (h5ξ : -2147483648 ≤ l ∧ l ≤ 2147483648) (hoξ : o = zg_po R 0 p) (hlξ : l = zg_po R 2 p) : zg_law (A 4) (A 66) (fun j => M 66 (2000 + j)) (zg_wp (zg_wh (fun j => M 66 (2000 + j)) hrξ pw) p o l) (zg_ew R zd_S0 t pw hrξ p) L P G := by
  obtain ⟨⟨e0, e6, e7, e8⟩, hb, hlwξ⟩ := h
  have y4 := hYFξ.1 (4, 6) (List.mem_of_getElem? (i := 4) rfl)
  have y66 := hYFξ.1 (66, 27) (by decide)
  have y67 := hYFξ.1 (67, 28) (by decide)
  have f0 := hYFξ.2.1 (4, 0, 66) (by decide)
  have f1 := hYFξ.2.1 (4, 1, 67) (by decide)
  refine ⟨⟨zM_P hMξ y4, zM_P hMξ y66, (zM_G hMξ y4 0).trans (zM_F hMξ f0), fun j => zM_G hMξ y66 _, zc_wb hb h1ξ h2ξ h3ξ h4ξ h5ξ, zc_eo e0 e6 e7 e8 hoξ hlξ⟩, ?_⟩
  rcases hlwξ with ⟨e, e2⟩ | ⟨c, e, hcξ, ⟨q0, q1, q2, q3, q4⟩, ⟨g0, g1, g2, g3⟩, N, n0, n1ξ, n4, nc, AA, C, a1, ⟨a2, a3, a4, a5⟩, ⟨b1, b2, b3, b4⟩, c1, c2⟩
  · exact Or.inl ⟨(zM_G hMξ y4 2).trans e, e2⟩
  · have hnξ : ∀ i, zNc (c + i) := fun i hi => by
      have : ∀ x ∈ ([4, 5, 13, 21, 66, 67, 68, 69, 70] : List Nat), x < 100 := by decide
      have := this _ hi
      omega
    refine Or.inr ⟨A c, A (c + 1), A (c + 2), A (c + 3), A (c + 4), A 67, N, n0, n1ξ, n4, nc, AA, C, ⟨⟨(zM_G hMξ y4 0).trans (zM_F hMξ f0), (zM_G hMξ y4 1).trans (zM_F hMξ f1), (zM_G hMξ y4 2).trans e⟩, ⟨(zM_G hMξ q0 0).trans (zM_F hMξ g0), (zM_G hMξ q0 1).trans (zM_F hMξ g1), (zM_G hMξ q0 4).trans (zM_F hMξ g2), (zM_G hMξ q0 5).trans (zM_F hMξ g3), (zM_G hMξ q0 6).trans ((hVξ c 6 (hnξ 0)).trans a1)⟩, ⟨(zM_G hMξ q1 1000).trans ((hVξ _ _ (hnξ 1)).trans a2), (zM_G hMξ q2 1000).trans ((hVξ _ _ (hnξ 2)).trans a3), (zM_G hMξ q3 1000).trans ((hVξ _ _ (hnξ 3)).trans a4), (zM_G hMξ q4 1000).trans ((hVξ _ _ (hnξ 4)).trans a5)⟩, fun j => (zM_G hMξ q1 _).trans ((hVξ _ _ (hnξ 1)).trans (b1 j)), fun j => (zM_G hMξ q2 _).trans ((hVξ _ _ (hnξ 2)).trans (b2 j)), fun j => (zM_G hMξ q3 _).trans ((hVξ _ _ (hnξ 3)).trans (b3 j)), fun j => (zM_G hMξ q4 _).trans ((hVξ _ _ (hnξ 4)).trans (b4 j)), fun j => zM_G hMξ y66 _⟩, ⟨zM_P hMξ y4, zM_P hMξ q0, zM_P hMξ q1, zM_P hMξ q2, zM_P hMξ q3, zM_P hMξ q4, zM_P hMξ y67, zM_P hMξ y66⟩, c1, c2⟩
noncomputable def zMAc (A : Nat → Nat) (Y : List (Nat × Nat)) (F : List (Nat × Nat × Nat)) (V : Nat → Nat → Int) (L : List yK) (R : Nat → Int) (t : Int) (P : Nat → Option Nat) (G : Nat → Nat → Int) : Prop := ∃ M, zM A Y F M P G ∧ (∀ o k, zNc o → M o k = V o k) ∧ zAb A Y F V L R t M
theorem zp_o2n {P : Nat → Option Nat} {t a : Nat} (h : P a = some t) : zk_ok P (2, t, -1, 0) (a : Int) := ⟨by show (-1 : Int) ≤ a; omega, by show (-1 : Int) ≤ a; omega, fun h9ξ => absurd h9ξ (by show ¬ (0 : Int) < 0; decide), fun _ => by show P (a : Int).toNat = some t; rw [Int.toNat_natCast]; exact h⟩
noncomputable def zK_lif1 : zk_K := (zt_mn 91, prog_11_method_10_code, 1, (Option.some (Jvm.ClassFile.FieldType.object "WoundTown$Text")), 1, 9, [(2, 10, 0, 0)], [(some (2, 9, (-1), 0), [])], [], (0, 0, 0, 0))
noncomputable def zφ_lif1 (A : Nat → Nat) (Y : List (Nat × Nat)) (F : List (Nat × Nat × Nat)) (V : Nat → Nat → Int) (Lwξ : List yK) : (Nat → Option Nat) → (Nat → Nat → Int) → List Int → Prop := fun P G ps => zMVc A Y F V P G ∧ ps.getD 0 0 = (A 1 : Int) ∧ zMc Y F ∧ zLF A Y F V Lwξ
noncomputable def zψ_lif1 (A : Nat → Nat) (Y : List (Nat × Nat)) (F : List (Nat × Nat × Nat)) (V : Nat → Nat → Int) (Lwξ : List yK) : (Nat → Option Nat) → (Nat → Nat → Int) → List Int → (Nat → Option Nat) → (Nat → Nat → Int) → Int → Prop := fun P G ps P' G' rn => P' = P ∧ G' = G ∧ ((rn = -1 ∧ Lwξ = []) ∨ ∃ c, rn = (A c : Int) ∧ zLT Y F V c Lwξ)
theorem zX_lif1 {l : Launch} {w : zk_W} (hWξ : zh_W w) (A : Nat → Nat) (Y : List (Nat × Nat)) (F : List (Nat × Nat × Nat)) (V : Nat → Nat → Int) (Lwξ : List yK) : zk_metX l w zt_dv zt_TB zK_lif1 (zp_A (zφ_lif1 A Y F V Lwξ)) (zp_B (zψ_lif1 A Y F V Lwξ)) ∧ zk_cok w zt_TB zK_lif1 := by
  refine zp_methX (cn := "WoundTown$Town") zp_lkallN hWξ (pl := 941) rfl (by decide +kernel) (fun p e R s m args below meth c Q u hx hb hEξ hQξ hU5ξ heffξ hnLξ hokξ hφ => ?_)
  have hwξ := hWξ.1
  obtain ⟨p0ξ, hpsξ, tk0⟩ := zp_ps1 hokξ
  have hrmξ : zk_Kr (zk_ev (zt_types, zp_lkN, zt_dv, [], [], zp_lcN, zK_lif1)) = zk_Kr zK_lif1 := rfl
  rw [hpsξ] at hφ ⊢
  have hφ : zMVc A Y F V u.1 (zp_n u.2.1) ∧ p0ξ = (A 1 : Int) ∧ zMc Y F ∧ zLF A Y F V Lwξ := hφ
  obtain ⟨⟨M, hMξ, hVξ, hSbξ⟩, rfl, hYFξ, hlwξ⟩ := hφ
  have hYF0ξ := hYFξ
  obtain ⟨hYbξ, hFbξ, hFxξ, -⟩ := hYFξ
  show zp_J p l e R s m args below meth c Q w u [] 0 [(0, 2, (A 1 : Int))] [] u.1 (zp_n u.2.1)
  rcases hlwξ with ⟨hnξ | hnξ | hnξ, hLξ⟩ | ⟨i9ξ, c9ξ, hi9ξ, hi6ξ, hlcξ, hc9ξ, hT9ξ⟩
  · refine zp_load (pc := 0) hx hb (zd_X9_lawInForce (0, .aload_n 0, 1, 0, []) (List.mem_of_getElem? (i := 0) rfl)) rfl (j := 0) rfl ?_
    refine zp_getf (n := (V 1 15)) (pc := 1) hx hb hEξ hwξ (zd_X9_lawInForce (1, .getfield 48, 3, 0, []) (List.mem_of_getElem? (i := 1) rfl)) (j := 22) rfl rfl rfl (zM_P hMξ (hYbξ _ (List.mem_of_getElem? (i := 1) rfl))) ((zM_G hMξ (hYbξ _ (List.mem_of_getElem? (i := 1) rfl)) 15).trans (hVξ 1 15 (by decide))) ?_
    refine zp_kn (k := 15) (a := (A 1)) hwξ (show zp_fd 10 15 = some (9, 0, 0, (-2147483648), 2147483647) from rfl) rfl (zM_P hMξ (hYbξ _ (List.mem_of_getElem? (i := 1) rfl))) (fun hf417ξ => ?_)
    have hf417bξ := zp_int hf417ξ
    rw [((zM_G hMξ (hYbξ _ (List.mem_of_getElem? (i := 1) rfl)) 15).trans (hVξ 1 15 (by decide)))] at hf417bξ
    clear hf417ξ
    refine zp_if (pc := 4) (tgt := 39) hx hb (zd_X9_lawInForce (4, .ifCond .lt 35, 3, 0, []) (List.mem_of_getElem? (i := 2) rfl)) rfl (fun (hc418ξ : (V 1 15) < 0) => ?_) (fun (hc418ξ : ¬ ((V 1 15) < 0)) => ?_)
    · refine zp_const (pc := 39) hx hb (zd_X9_lawInForce (39, .aconst_null, 1, 0, []) (List.mem_of_getElem? (i := 18) rfl)) rfl rfl ?_
      refine zp_aret (pc := 40) (n := (-1)) hx hb hEξ hQξ hU5ξ rfl (by decide) (zd_X9_lawInForce (40, .areturn, 1, 0, []) (List.mem_of_getElem? (i := 19) rfl)) (j := 0) rfl ⟨by decide, by decide, fun _ => by decide, fun h9ξ => absurd h9ξ (by decide)⟩ ?_
      rw [hpsξ]
      refine ⟨rfl, rfl, ?_⟩
      exact Or.inl ⟨rfl, hLξ⟩
    · exfalso
      omega
  · refine zp_load (pc := 0) hx hb (zd_X9_lawInForce (0, .aload_n 0, 1, 0, []) (List.mem_of_getElem? (i := 0) rfl)) rfl (j := 0) rfl ?_
    refine zp_getf (n := (V 1 15)) (pc := 1) hx hb hEξ hwξ (zd_X9_lawInForce (1, .getfield 48, 3, 0, []) (List.mem_of_getElem? (i := 1) rfl)) (j := 22) rfl rfl rfl (zM_P hMξ (hYbξ _ (List.mem_of_getElem? (i := 1) rfl))) ((zM_G hMξ (hYbξ _ (List.mem_of_getElem? (i := 1) rfl)) 15).trans (hVξ 1 15 (by decide))) ?_
    refine zp_kn (k := 15) (a := (A 1)) hwξ (show zp_fd 10 15 = some (9, 0, 0, (-2147483648), 2147483647) from rfl) rfl (zM_P hMξ (hYbξ _ (List.mem_of_getElem? (i := 1) rfl))) (fun hf419ξ => ?_)
    have hf419bξ := zp_int hf419ξ
    rw [((zM_G hMξ (hYbξ _ (List.mem_of_getElem? (i := 1) rfl)) 15).trans (hVξ 1 15 (by decide)))] at hf419bξ
    clear hf419ξ
    refine zp_if (pc := 4) (tgt := 39) hx hb (zd_X9_lawInForce (4, .ifCond .lt 35, 3, 0, []) (List.mem_of_getElem? (i := 2) rfl)) rfl (fun (hc420ξ : (V 1 15) < 0) => ?_) (fun (hc420ξ : ¬ ((V 1 15) < 0)) => ?_)
    · refine zp_const (pc := 39) hx hb (zd_X9_lawInForce (39, .aconst_null, 1, 0, []) (List.mem_of_getElem? (i := 18) rfl)) rfl rfl ?_
      refine zp_aret (pc := 40) (n := (-1)) hx hb hEξ hQξ hU5ξ rfl (by decide) (zd_X9_lawInForce (40, .areturn, 1, 0, []) (List.mem_of_getElem? (i := 19) rfl)) (j := 0) rfl ⟨by decide, by decide, fun _ => by decide, fun h9ξ => absurd h9ξ (by decide)⟩ ?_
      rw [hpsξ]
      refine ⟨rfl, rfl, ?_⟩
      exact Or.inl ⟨rfl, hLξ⟩
    · refine zp_load (pc := 7) hx hb (zd_X9_lawInForce (7, .aload_n 0, 1, 0, []) (List.mem_of_getElem? (i := 3) rfl)) rfl (j := 0) rfl ?_
      refine zp_getf (n := (V 1 15)) (pc := 8) hx hb hEξ hwξ (zd_X9_lawInForce (8, .getfield 48, 3, 0, []) (List.mem_of_getElem? (i := 4) rfl)) (j := 22) rfl rfl rfl (zM_P hMξ (hYbξ _ (List.mem_of_getElem? (i := 1) rfl))) ((zM_G hMξ (hYbξ _ (List.mem_of_getElem? (i := 1) rfl)) 15).trans (hVξ 1 15 (by decide))) ?_
      refine zp_load (pc := 11) hx hb (zd_X9_lawInForce (11, .aload_n 0, 1, 0, []) (List.mem_of_getElem? (i := 5) rfl)) rfl (j := 0) rfl ?_
      refine zp_getf (n := (V 1 14)) (pc := 12) hx hb hEξ hwξ (zd_X9_lawInForce (12, .getfield 77, 3, 0, []) (List.mem_of_getElem? (i := 6) rfl)) (j := 21) rfl rfl rfl (zM_P hMξ (hYbξ _ (List.mem_of_getElem? (i := 1) rfl))) ((zM_G hMξ (hYbξ _ (List.mem_of_getElem? (i := 1) rfl)) 14).trans (hVξ 1 14 (by decide))) ?_
      refine zp_kn (k := 14) (a := (A 1)) hwξ (show zp_fd 10 14 = some (9, 0, 0, 0, 6) from rfl) rfl (zM_P hMξ (hYbξ _ (List.mem_of_getElem? (i := 1) rfl))) (fun hf421ξ => ?_)
      have hf421bξ := zp_int hf421ξ
      rw [((zM_G hMξ (hYbξ _ (List.mem_of_getElem? (i := 1) rfl)) 14).trans (hVξ 1 14 (by decide)))] at hf421bξ
      clear hf421ξ
      refine zp_icmp (pc := 15) (tgt := 39) hx hb (zd_X9_lawInForce (15, .if_icmp .ge 24, 3, 0, []) (List.mem_of_getElem? (i := 7) rfl)) rfl (fun (hc422ξ : (V 1 14) ≤ (V 1 15)) => ?_) (fun (hc422ξ : ¬ ((V 1 14) ≤ (V 1 15))) => ?_)
      · refine zp_const (pc := 39) hx hb (zd_X9_lawInForce (39, .aconst_null, 1, 0, []) (List.mem_of_getElem? (i := 18) rfl)) rfl rfl ?_
        refine zp_aret (pc := 40) (n := (-1)) hx hb hEξ hQξ hU5ξ rfl (by decide) (zd_X9_lawInForce (40, .areturn, 1, 0, []) (List.mem_of_getElem? (i := 19) rfl)) (j := 0) rfl ⟨by decide, by decide, fun _ => by decide, fun h9ξ => absurd h9ξ (by decide)⟩ ?_
        rw [hpsξ]
        refine ⟨rfl, rfl, ?_⟩
        exact Or.inl ⟨rfl, hLξ⟩
      · exfalso
        omega
  · refine zp_load (pc := 0) hx hb (zd_X9_lawInForce (0, .aload_n 0, 1, 0, []) (List.mem_of_getElem? (i := 0) rfl)) rfl (j := 0) rfl ?_
    refine zp_getf (n := (V 1 15)) (pc := 1) hx hb hEξ hwξ (zd_X9_lawInForce (1, .getfield 48, 3, 0, []) (List.mem_of_getElem? (i := 1) rfl)) (j := 22) rfl rfl rfl (zM_P hMξ (hYbξ _ (List.mem_of_getElem? (i := 1) rfl))) ((zM_G hMξ (hYbξ _ (List.mem_of_getElem? (i := 1) rfl)) 15).trans (hVξ 1 15 (by decide))) ?_
    refine zp_kn (k := 15) (a := (A 1)) hwξ (show zp_fd 10 15 = some (9, 0, 0, (-2147483648), 2147483647) from rfl) rfl (zM_P hMξ (hYbξ _ (List.mem_of_getElem? (i := 1) rfl))) (fun hf423ξ => ?_)
    have hf423bξ := zp_int hf423ξ
    rw [((zM_G hMξ (hYbξ _ (List.mem_of_getElem? (i := 1) rfl)) 15).trans (hVξ 1 15 (by decide)))] at hf423bξ
    clear hf423ξ
    refine zp_if (pc := 4) (tgt := 39) hx hb (zd_X9_lawInForce (4, .ifCond .lt 35, 3, 0, []) (List.mem_of_getElem? (i := 2) rfl)) rfl (fun (hc424ξ : (V 1 15) < 0) => ?_) (fun (hc424ξ : ¬ ((V 1 15) < 0)) => ?_)
    · exfalso
      omega
    · refine zp_load (pc := 7) hx hb (zd_X9_lawInForce (7, .aload_n 0, 1, 0, []) (List.mem_of_getElem? (i := 3) rfl)) rfl (j := 0) rfl ?_
      refine zp_getf (n := (V 1 15)) (pc := 8) hx hb hEξ hwξ (zd_X9_lawInForce (8, .getfield 48, 3, 0, []) (List.mem_of_getElem? (i := 4) rfl)) (j := 22) rfl rfl rfl (zM_P hMξ (hYbξ _ (List.mem_of_getElem? (i := 1) rfl))) ((zM_G hMξ (hYbξ _ (List.mem_of_getElem? (i := 1) rfl)) 15).trans (hVξ 1 15 (by decide))) ?_
      refine zp_load (pc := 11) hx hb (zd_X9_lawInForce (11, .aload_n 0, 1, 0, []) (List.mem_of_getElem? (i := 5) rfl)) rfl (j := 0) rfl ?_
      refine zp_getf (n := (V 1 14)) (pc := 12) hx hb hEξ hwξ (zd_X9_lawInForce (12, .getfield 77, 3, 0, []) (List.mem_of_getElem? (i := 6) rfl)) (j := 21) rfl rfl rfl (zM_P hMξ (hYbξ _ (List.mem_of_getElem? (i := 1) rfl))) ((zM_G hMξ (hYbξ _ (List.mem_of_getElem? (i := 1) rfl)) 14).trans (hVξ 1 14 (by decide))) ?_
      refine zp_kn (k := 14) (a := (A 1)) hwξ (show zp_fd 10 14 = some (9, 0, 0, 0, 6) from rfl) rfl (zM_P hMξ (hYbξ _ (List.mem_of_getElem? (i := 1) rfl))) (fun hf425ξ => ?_)
      have hf425bξ := zp_int hf425ξ
      rw [((zM_G hMξ (hYbξ _ (List.mem_of_getElem? (i := 1) rfl)) 14).trans (hVξ 1 14 (by decide)))] at hf425bξ
      clear hf425ξ
      refine zp_icmp (pc := 15) (tgt := 39) hx hb (zd_X9_lawInForce (15, .if_icmp .ge 24, 3, 0, []) (List.mem_of_getElem? (i := 7) rfl)) rfl (fun (hc426ξ : (V 1 14) ≤ (V 1 15)) => ?_) (fun (hc426ξ : ¬ ((V 1 14) ≤ (V 1 15))) => ?_)
      · refine zp_const (pc := 39) hx hb (zd_X9_lawInForce (39, .aconst_null, 1, 0, []) (List.mem_of_getElem? (i := 18) rfl)) rfl rfl ?_
        refine zp_aret (pc := 40) (n := (-1)) hx hb hEξ hQξ hU5ξ rfl (by decide) (zd_X9_lawInForce (40, .areturn, 1, 0, []) (List.mem_of_getElem? (i := 19) rfl)) (j := 0) rfl ⟨by decide, by decide, fun _ => by decide, fun h9ξ => absurd h9ξ (by decide)⟩ ?_
        rw [hpsξ]
        refine ⟨rfl, rfl, ?_⟩
        exact Or.inl ⟨rfl, hLξ⟩
      · exfalso
        omega
  · rw [hi9ξ] at hlcξ
    refine zp_load (pc := 0) hx hb (zd_X9_lawInForce (0, .aload_n 0, 1, 0, []) (List.mem_of_getElem? (i := 0) rfl)) rfl (j := 0) rfl ?_
    refine zp_getf (n := (i9ξ : Int)) (pc := 1) hx hb hEξ hwξ (zd_X9_lawInForce (1, .getfield 48, 3, 0, []) (List.mem_of_getElem? (i := 1) rfl)) (j := 22) rfl rfl rfl (zM_P hMξ (hYbξ _ (List.mem_of_getElem? (i := 1) rfl))) (((zM_G hMξ (hYbξ _ (List.mem_of_getElem? (i := 1) rfl)) 15).trans (hVξ 1 15 (by decide))).trans hi9ξ) ?_
    refine zp_if (pc := 4) (tgt := 39) hx hb (zd_X9_lawInForce (4, .ifCond .lt 35, 3, 0, []) (List.mem_of_getElem? (i := 2) rfl)) rfl (fun (hc427ξ : (i9ξ : Int) < 0) => ?_) (fun (hc427ξ : ¬ ((i9ξ : Int) < 0)) => ?_)
    · exfalso
      omega
    · refine zp_load (pc := 7) hx hb (zd_X9_lawInForce (7, .aload_n 0, 1, 0, []) (List.mem_of_getElem? (i := 3) rfl)) rfl (j := 0) rfl ?_
      refine zp_getf (n := (i9ξ : Int)) (pc := 8) hx hb hEξ hwξ (zd_X9_lawInForce (8, .getfield 48, 3, 0, []) (List.mem_of_getElem? (i := 4) rfl)) (j := 22) rfl rfl rfl (zM_P hMξ (hYbξ _ (List.mem_of_getElem? (i := 1) rfl))) (((zM_G hMξ (hYbξ _ (List.mem_of_getElem? (i := 1) rfl)) 15).trans (hVξ 1 15 (by decide))).trans hi9ξ) ?_
      refine zp_load (pc := 11) hx hb (zd_X9_lawInForce (11, .aload_n 0, 1, 0, []) (List.mem_of_getElem? (i := 5) rfl)) rfl (j := 0) rfl ?_
      refine zp_getf (n := (V 1 14)) (pc := 12) hx hb hEξ hwξ (zd_X9_lawInForce (12, .getfield 77, 3, 0, []) (List.mem_of_getElem? (i := 6) rfl)) (j := 21) rfl rfl rfl (zM_P hMξ (hYbξ _ (List.mem_of_getElem? (i := 1) rfl))) ((zM_G hMξ (hYbξ _ (List.mem_of_getElem? (i := 1) rfl)) 14).trans (hVξ 1 14 (by decide))) ?_
      refine zp_kn (k := 14) (a := (A 1)) hwξ (show zp_fd 10 14 = some (9, 0, 0, 0, 6) from rfl) rfl (zM_P hMξ (hYbξ _ (List.mem_of_getElem? (i := 1) rfl))) (fun hf428ξ => ?_)
      have hf428bξ := zp_int hf428ξ
      rw [((zM_G hMξ (hYbξ _ (List.mem_of_getElem? (i := 1) rfl)) 14).trans (hVξ 1 14 (by decide)))] at hf428bξ
      clear hf428ξ
      refine zp_icmp (pc := 15) (tgt := 39) hx hb (zd_X9_lawInForce (15, .if_icmp .ge 24, 3, 0, []) (List.mem_of_getElem? (i := 7) rfl)) rfl (fun (hc429ξ : (V 1 14) ≤ (i9ξ : Int)) => ?_) (fun (hc429ξ : ¬ ((V 1 14) ≤ (i9ξ : Int))) => ?_)
      · exfalso
        omega
      · refine zp_load (pc := 18) hx hb (zd_X9_lawInForce (18, .aload_n 0, 1, 0, []) (List.mem_of_getElem? (i := 8) rfl)) rfl (j := 0) rfl ?_
        refine zp_getf (n := (i9ξ : Int)) (pc := 19) hx hb hEξ hwξ (zd_X9_lawInForce (19, .getfield 48, 3, 0, []) (List.mem_of_getElem? (i := 9) rfl)) (j := 22) rfl rfl rfl (zM_P hMξ (hYbξ _ (List.mem_of_getElem? (i := 1) rfl))) (((zM_G hMξ (hYbξ _ (List.mem_of_getElem? (i := 1) rfl)) 15).trans (hVξ 1 15 (by decide))).trans hi9ξ) ?_
        refine zp_const (pc := 22) hx hb (zd_X9_lawInForce (22, .bipush 6, 2, 0, []) (List.mem_of_getElem? (i := 10) rfl)) rfl rfl ?_
        refine zp_icmp (pc := 24) (tgt := 39) hx hb (zd_X9_lawInForce (24, .if_icmp .ge 15, 3, 0, []) (List.mem_of_getElem? (i := 11) rfl)) rfl (fun (hc430ξ : 6 ≤ (i9ξ : Int)) => ?_) (fun (hc430ξ : ¬ (6 ≤ (i9ξ : Int))) => ?_)
        · exfalso
          omega
        · refine zp_load (pc := 27) hx hb (zd_X9_lawInForce (27, .aload_n 0, 1, 0, []) (List.mem_of_getElem? (i := 12) rfl)) rfl (j := 0) rfl ?_
          refine zp_getf (n := (A 40 : Int)) (pc := 28) hx hb hEξ hwξ (zd_X9_lawInForce (28, .getfield 44, 3, 0, []) (List.mem_of_getElem? (i := 13) rfl)) (j := 20) rfl rfl rfl (zM_P hMξ (hYbξ _ (List.mem_of_getElem? (i := 1) rfl))) ((zM_G hMξ (hYbξ _ (List.mem_of_getElem? (i := 1) rfl)) 13).trans (zM_F hMξ (hFbξ _ (List.mem_of_getElem? (i := 23) rfl)))) ?_
          refine zp_load (pc := 31) hx hb (zd_X9_lawInForce (31, .aload_n 0, 1, 0, []) (List.mem_of_getElem? (i := 14) rfl)) rfl (j := 0) rfl ?_
          refine zp_getf (n := (i9ξ : Int)) (pc := 32) hx hb hEξ hwξ (zd_X9_lawInForce (32, .getfield 48, 3, 0, []) (List.mem_of_getElem? (i := 15) rfl)) (j := 22) rfl rfl rfl (zM_P hMξ (hYbξ _ (List.mem_of_getElem? (i := 1) rfl))) (((zM_G hMξ (hYbξ _ (List.mem_of_getElem? (i := 1) rfl)) 15).trans (hVξ 1 15 (by decide))).trans hi9ξ) ?_
          refine zp_aald (j := i9ξ) (v := (A c9ξ : Int)) (len := 6) (x := 9) (lo := (-1)) (hi := 0) (pc := 35) hx hb hwξ (zd_X9_lawInForce (35, .aaload, 1, 0, []) (List.mem_of_getElem? (i := 16) rfl)) rfl (zM_P hMξ (hYbξ _ (List.mem_of_getElem? (i := 27) rfl))) (by omega) (by omega) (((zM_G hMξ (hYbξ _ (List.mem_of_getElem? (i := 27) rfl)) (2000 + i9ξ)).trans (hVξ 40 (2000 + i9ξ) (by decide))).trans hc9ξ) (fun hk431ξ => ?_)
          refine zp_goto (tgt := 40) (pc := 36) hx hb (zd_X9_lawInForce (36, .goto 4, 3, 0, []) (List.mem_of_getElem? (i := 17) rfl)) rfl ?_
          refine zp_aret (pc := 40) (n := (A c9ξ : Int)) hx hb hEξ hQξ hU5ξ rfl (by decide) (zd_X9_lawInForce (40, .areturn, 1, 0, []) (List.mem_of_getElem? (i := 19) rfl)) (j := 0) rfl (zp_o2n (zM_P hMξ hT9ξ.2.1.1)) ?_
          rw [hpsξ]
          refine ⟨rfl, rfl, ?_⟩
          exact Or.inr ⟨c9ξ, rfl, hT9ξ⟩
theorem zV_scr {N : Nat → Prop} {M V : Nat → Nat → Int} {o k : Nat} {v : Int} (h : ∀ o k, N o → M o k = V o k) (hoξ : ¬ N o) : ∀ o' k', N o' → zp_set M o k v o' k' = V o' k' := fun o' k' hkξ => by
  rw [zp_set_ne (Or.inl (fun e => hoξ (by rw [← e]; exact hkξ)))]
  exact h o' k' hkξ
noncomputable def zK_abt2 : zk_K := (zt_mn 90, prog_8_method_2_code, 4, (Option.none : Option Jvm.ClassFile.FieldType), 1, 6, [(2, 6, 0, 0), (2, 10, 0, 0), (2, 2, 0, 0), (0, 0, (-2147483648), 2147483647)], [(none, [])], [(6, 2, 0), (27, 1001, 0)], (1, 60, 0, 0))
noncomputable def zφ_abt2 (A : Nat → Nat) (Y : List (Nat × Nat)) (F : List (Nat × Nat × Nat)) (V : Nat → Nat → Int) (Lwξ : List yK) : (Nat → Option Nat) → (Nat → Nat → Int) → List Int → Prop := fun P G ps => zMVc A Y F V P G ∧ ps.getD 0 0 = (A 4 : Int) ∧ zMc Y F ∧ (ps.getD 1 0) = (A 1 : Int) ∧ (ps.getD 2 0) = (A 2 : Int) ∧ zLF A Y F V Lwξ
noncomputable def zψ_abt2 (A : Nat → Nat) (Y : List (Nat × Nat)) (F : List (Nat × Nat × Nat)) (V : Nat → Nat → Int) (Lwξ : List yK) : (Nat → Option Nat) → (Nat → Nat → Int) → List Int → (Nat → Option Nat) → (Nat → Nat → Int) → Int → Prop := fun P G ps P' G' rn => P' = P ∧ zMAc A Y F V Lwξ (zRc V 2 50) (ps.getD 3 0) P' G'
theorem zX_abt2 {l : Launch} {w : zk_W} (hWξ : zh_W w) (A : Nat → Nat) (Y : List (Nat × Nat)) (F : List (Nat × Nat × Nat)) (V : Nat → Nat → Int) (Lwξ : List yK) : zk_metX l w zt_dv zt_TB zK_abt2 (zp_A (zφ_abt2 A Y F V Lwξ)) (zp_B (zψ_abt2 A Y F V Lwξ)) ∧ zk_cok w zt_TB zK_abt2 := by
  refine zp_methX (cn := "WoundTown$Rules") zp_lkallRu hWξ (pl := 937) rfl (by decide +kernel) (fun p e R s m args below meth c Q u hx hb hEξ hQξ hU5ξ heffξ hnLξ hokξ hφ => ?_)
  have hwξ := hWξ.1
  obtain ⟨p0ξ, p1ξ, p2ξ, p3ξ, hpsξ, tk0, tk1, tk2, tk3⟩ := zp_ps4 hokξ
  have hrmξ : zk_Kr (zk_ev (zt_types, zp_lkRu, zt_dv, [], [], zp_lcRu, zK_abt2)) = zk_Kr zK_abt2 := rfl
  rw [hpsξ] at hφ ⊢
  have hφ : zMVc A Y F V u.1 (zp_n u.2.1) ∧ p0ξ = (A 4 : Int) ∧ zMc Y F ∧ p1ξ = (A 1 : Int) ∧ p2ξ = (A 2 : Int) ∧ zLF A Y F V Lwξ := hφ
  obtain ⟨⟨M, hMξ, hVξ, hSbξ⟩, rfl, hYFξ, rfl, rfl, hlwξ⟩ := hφ
  have hYF0ξ := hYFξ
  obtain ⟨hYbξ, hFbξ, hFxξ, -⟩ := hYFξ
  have hi3ξ := zp_int tk3
  show zp_J p l e R s m args below meth c Q w u [] 0 [(0, 2, (A 4 : Int)), (1, 2, (A 1 : Int)), (2, 2, (A 2 : Int)), (3, 0, p3ξ)] [] u.1 (zp_n u.2.1)
  refine zp_ka hwξ (Or.inl rfl) (show zp_ia 1 27 = some (9, 0, 0, (-2147483648), 2147483647) from rfl) (zM_P hMξ (hYbξ _ (List.mem_of_getElem? (i := 44) rfl))) (fun hwbξ => ?_)
  refine zp_load (pc := 0) hx hb (zd_X6_about (0, .aload_n 0, 1, 0, []) (List.mem_of_getElem? (i := 0) rfl)) rfl (j := 0) rfl ?_
  refine zp_load (pc := 1) hx hb (zd_X6_about (1, .aload_n 1, 1, 0, []) (List.mem_of_getElem? (i := 1) rfl)) rfl (j := 1) rfl ?_
  refine zp_call (pc := 2) (how := 0) (idx := 19) (mi := 91) (S := [(2, (A 4 : Int))]) hx hb hEξ hwξ heffξ hrmξ (zX_lif1 hWξ A Y F V Lwξ) rfl (j := 0) rfl rfl (by decide +kernel) (zd_X6_about (2, .invokevirtual 19, 3, 0, []) (List.mem_of_getElem? (i := 2) rfl)) [(A 1 : Int)] rfl ⟨zp_o2 (zM_P hMξ (hYbξ _ (List.mem_of_getElem? (i := 1) rfl))), trivial⟩ (Nat.le_of_ble_eq_true rfl) ⟨⟨M, hMξ, hVξ, trivial⟩, rfl, hYF0ξ, hlwξ⟩ (fun al halξ rnf432ξ Pf432 Gf432 hextf432ξ hfrf432ξ hokf432ξ hcsf432ξ hpsif432ξ => ?_)
  obtain rfl := List.mem_singleton.mp halξ
  obtain ⟨hPef432ξ, hGef432ξ, htf432ξ⟩ := hpsif432ξ
  have hokf432ξ : zk_ok Pf432 (2, 9, -1, 0) rnf432ξ := (hokf432ξ _ rfl).1
  subst hPef432ξ hGef432ξ
  clear hextf432ξ hfrf432ξ hcsf432ξ
  refine zp_putr (pc := 5) hx hb hEξ hwξ heffξ (zd_X6_about (5, .putfield 25, 3, 0, []) (List.mem_of_getElem? (i := 3) rfl)) (j := 6) rfl rfl rfl (zM_P hMξ (hYbξ _ (List.mem_of_getElem? (i := 4) rfl))) hokf432ξ ?_
  refine zp_load (pc := 8) hx hb (zd_X6_about (8, .aload_n 0, 1, 0, []) (List.mem_of_getElem? (i := 4) rfl)) rfl (j := 0) rfl ?_
  refine zp_getf (n := (A 66 : Int)) (pc := 9) hx hb hEξ hwξ (zd_X6_about (9, .getfield 11, 3, 0, []) (List.mem_of_getElem? (i := 5) rfl)) (j := 4) rfl rfl rfl (zM_P hMξ (hYbξ _ (List.mem_of_getElem? (i := 4) rfl))) ((zp_set_ne (Or.inr (by decide))).trans (((zM_G hMξ (hYbξ _ (List.mem_of_getElem? (i := 4) rfl)) 0).trans (zM_F hMξ (hFbξ _ (List.mem_of_getElem? (i := 41) rfl)))))) ?_
  refine zp_const (pc := 12) hx hb (zd_X6_about (12, .iconst 0, 1, 0, []) (List.mem_of_getElem? (i := 6) rfl)) rfl rfl ?_
  refine zp_load (pc := 13) hx hb (zd_X6_about (13, .iload_n 3, 1, 0, []) (List.mem_of_getElem? (i := 7) rfl)) rfl (j := 3) rfl ?_
  refine zp_iast (j := 0) (pc := 14) hx hb hwξ heffξ (zd_X6_about (14, .iastore, 1, 0, []) (List.mem_of_getElem? (i := 8) rfl)) (show zp_ia 1 27 = some (9, 0, 0, (-2147483648), 2147483647) from rfl) (zM_P hMξ (hYbξ _ (List.mem_of_getElem? (i := 44) rfl))) (by omega) (by omega) (zp_o0 (by omega) (by omega) (by omega) (by omega)) rfl ?_
  refine zp_load (pc := 15) hx hb (zd_X6_about (15, .aload_n 0, 1, 0, []) (List.mem_of_getElem? (i := 9) rfl)) rfl (j := 0) rfl ?_
  refine zp_getf (n := (A 66 : Int)) (pc := 16) hx hb hEξ hwξ (zd_X6_about (16, .getfield 11, 3, 0, []) (List.mem_of_getElem? (i := 10) rfl)) (j := 4) rfl rfl rfl (zM_P hMξ (hYbξ _ (List.mem_of_getElem? (i := 4) rfl))) ((zp_set_ne (Or.inl (zM_ne hMξ (hYbξ _ (List.mem_of_getElem? (i := 4) rfl)) (hYbξ _ (List.mem_of_getElem? (i := 44) rfl)) (by decide)))).trans ((zp_set_ne (Or.inr (by decide))).trans (((zM_G hMξ (hYbξ _ (List.mem_of_getElem? (i := 4) rfl)) 0).trans (zM_F hMξ (hFbξ _ (List.mem_of_getElem? (i := 41) rfl))))))) ?_
  refine zp_const (pc := 19) hx hb (zd_X6_about (19, .bipush 6, 2, 0, []) (List.mem_of_getElem? (i := 11) rfl)) rfl rfl ?_
  refine zp_load (pc := 21) hx hb (zd_X6_about (21, .aload_n 2, 1, 0, []) (List.mem_of_getElem? (i := 12) rfl)) rfl (j := 2) rfl ?_
  refine zp_getf (n := (V 2 3)) (pc := 22) hx hb hEξ hwξ (zd_X6_about (22, .getfield 29, 3, 0, []) (List.mem_of_getElem? (i := 13) rfl)) (j := 0) rfl rfl rfl (zM_P hMξ (hYbξ _ (List.mem_of_getElem? (i := 2) rfl))) ((zp_set_ne (Or.inl (zM_ne hMξ (hYbξ _ (List.mem_of_getElem? (i := 2) rfl)) (hYbξ _ (List.mem_of_getElem? (i := 44) rfl)) (by decide)))).trans ((zp_set_ne (Or.inl (zM_ne hMξ (hYbξ _ (List.mem_of_getElem? (i := 2) rfl)) (hYbξ _ (List.mem_of_getElem? (i := 4) rfl)) (by decide)))).trans (((zM_G hMξ (hYbξ _ (List.mem_of_getElem? (i := 2) rfl)) 3).trans (hVξ 2 3 (by decide)))))) ?_
  refine zp_kn (k := 3) (a := (A 2)) hwξ (show zp_fd 2 3 = some (2, 0, 0, (-2147483648), 2147483647) from rfl) rfl (zM_P hMξ (hYbξ _ (List.mem_of_getElem? (i := 2) rfl))) (fun hf433ξ => ?_)
  have hf433bξ := zp_int hf433ξ
  rw [((zp_set_ne (Or.inl (zM_ne hMξ (hYbξ _ (List.mem_of_getElem? (i := 2) rfl)) (hYbξ _ (List.mem_of_getElem? (i := 44) rfl)) (by decide)))).trans ((zp_set_ne (Or.inl (zM_ne hMξ (hYbξ _ (List.mem_of_getElem? (i := 2) rfl)) (hYbξ _ (List.mem_of_getElem? (i := 4) rfl)) (by decide)))).trans (((zM_G hMξ (hYbξ _ (List.mem_of_getElem? (i := 2) rfl)) 3).trans (hVξ 2 3 (by decide))))))] at hf433bξ
  clear hf433ξ
  refine zp_iast (j := 6) (pc := 25) hx hb hwξ heffξ (zd_X6_about (25, .iastore, 1, 0, []) (List.mem_of_getElem? (i := 14) rfl)) (show zp_ia 1 27 = some (9, 0, 0, (-2147483648), 2147483647) from rfl) (zM_P hMξ (hYbξ _ (List.mem_of_getElem? (i := 44) rfl))) (by omega) (by omega) (zp_o0 (by omega) (by omega) (by omega) (by omega)) rfl ?_
  refine zp_load (pc := 26) hx hb (zd_X6_about (26, .aload_n 0, 1, 0, []) (List.mem_of_getElem? (i := 15) rfl)) rfl (j := 0) rfl ?_
  refine zp_getf (n := (A 66 : Int)) (pc := 27) hx hb hEξ hwξ (zd_X6_about (27, .getfield 11, 3, 0, []) (List.mem_of_getElem? (i := 16) rfl)) (j := 4) rfl rfl rfl (zM_P hMξ (hYbξ _ (List.mem_of_getElem? (i := 4) rfl))) ((zp_set_ne (Or.inl (zM_ne hMξ (hYbξ _ (List.mem_of_getElem? (i := 4) rfl)) (hYbξ _ (List.mem_of_getElem? (i := 44) rfl)) (by decide)))).trans ((zp_set_ne (Or.inl (zM_ne hMξ (hYbξ _ (List.mem_of_getElem? (i := 4) rfl)) (hYbξ _ (List.mem_of_getElem? (i := 44) rfl)) (by decide)))).trans ((zp_set_ne (Or.inr (by decide))).trans (((zM_G hMξ (hYbξ _ (List.mem_of_getElem? (i := 4) rfl)) 0).trans (zM_F hMξ (hFbξ _ (List.mem_of_getElem? (i := 41) rfl)))))))) ?_
  refine zp_const (pc := 30) hx hb (zd_X6_about (30, .bipush 7, 2, 0, []) (List.mem_of_getElem? (i := 17) rfl)) rfl rfl ?_
  refine zp_load (pc := 32) hx hb (zd_X6_about (32, .aload_n 2, 1, 0, []) (List.mem_of_getElem? (i := 18) rfl)) rfl (j := 2) rfl ?_
  refine zp_getf (n := (V 2 6)) (pc := 33) hx hb hEξ hwξ (zd_X6_about (33, .getfield 35, 3, 0, []) (List.mem_of_getElem? (i := 19) rfl)) (j := 1) rfl rfl rfl (zM_P hMξ (hYbξ _ (List.mem_of_getElem? (i := 2) rfl))) ((zp_set_ne (Or.inl (zM_ne hMξ (hYbξ _ (List.mem_of_getElem? (i := 2) rfl)) (hYbξ _ (List.mem_of_getElem? (i := 44) rfl)) (by decide)))).trans ((zp_set_ne (Or.inl (zM_ne hMξ (hYbξ _ (List.mem_of_getElem? (i := 2) rfl)) (hYbξ _ (List.mem_of_getElem? (i := 44) rfl)) (by decide)))).trans ((zp_set_ne (Or.inl (zM_ne hMξ (hYbξ _ (List.mem_of_getElem? (i := 2) rfl)) (hYbξ _ (List.mem_of_getElem? (i := 4) rfl)) (by decide)))).trans (((zM_G hMξ (hYbξ _ (List.mem_of_getElem? (i := 2) rfl)) 6).trans (hVξ 2 6 (by decide))))))) ?_
  refine zp_kn (k := 6) (a := (A 2)) hwξ (show zp_fd 2 6 = some (2, 0, 0, (-2147483648), 2147483647) from rfl) rfl (zM_P hMξ (hYbξ _ (List.mem_of_getElem? (i := 2) rfl))) (fun hf434ξ => ?_)
  have hf434bξ := zp_int hf434ξ
  rw [((zp_set_ne (Or.inl (zM_ne hMξ (hYbξ _ (List.mem_of_getElem? (i := 2) rfl)) (hYbξ _ (List.mem_of_getElem? (i := 44) rfl)) (by decide)))).trans ((zp_set_ne (Or.inl (zM_ne hMξ (hYbξ _ (List.mem_of_getElem? (i := 2) rfl)) (hYbξ _ (List.mem_of_getElem? (i := 44) rfl)) (by decide)))).trans ((zp_set_ne (Or.inl (zM_ne hMξ (hYbξ _ (List.mem_of_getElem? (i := 2) rfl)) (hYbξ _ (List.mem_of_getElem? (i := 4) rfl)) (by decide)))).trans (((zM_G hMξ (hYbξ _ (List.mem_of_getElem? (i := 2) rfl)) 6).trans (hVξ 2 6 (by decide)))))))] at hf434bξ
  clear hf434ξ
  refine zp_iast (j := 7) (pc := 36) hx hb hwξ heffξ (zd_X6_about (36, .iastore, 1, 0, []) (List.mem_of_getElem? (i := 20) rfl)) (show zp_ia 1 27 = some (9, 0, 0, (-2147483648), 2147483647) from rfl) (zM_P hMξ (hYbξ _ (List.mem_of_getElem? (i := 44) rfl))) (by omega) (by omega) (zp_o0 (by omega) (by omega) (by omega) (by omega)) rfl ?_
  refine zp_load (pc := 37) hx hb (zd_X6_about (37, .aload_n 0, 1, 0, []) (List.mem_of_getElem? (i := 21) rfl)) rfl (j := 0) rfl ?_
  refine zp_getf (n := (A 66 : Int)) (pc := 38) hx hb hEξ hwξ (zd_X6_about (38, .getfield 11, 3, 0, []) (List.mem_of_getElem? (i := 22) rfl)) (j := 4) rfl rfl rfl (zM_P hMξ (hYbξ _ (List.mem_of_getElem? (i := 4) rfl))) ((zp_set_ne (Or.inl (zM_ne hMξ (hYbξ _ (List.mem_of_getElem? (i := 4) rfl)) (hYbξ _ (List.mem_of_getElem? (i := 44) rfl)) (by decide)))).trans ((zp_set_ne (Or.inl (zM_ne hMξ (hYbξ _ (List.mem_of_getElem? (i := 4) rfl)) (hYbξ _ (List.mem_of_getElem? (i := 44) rfl)) (by decide)))).trans ((zp_set_ne (Or.inl (zM_ne hMξ (hYbξ _ (List.mem_of_getElem? (i := 4) rfl)) (hYbξ _ (List.mem_of_getElem? (i := 44) rfl)) (by decide)))).trans ((zp_set_ne (Or.inr (by decide))).trans (((zM_G hMξ (hYbξ _ (List.mem_of_getElem? (i := 4) rfl)) 0).trans (zM_F hMξ (hFbξ _ (List.mem_of_getElem? (i := 41) rfl))))))))) ?_
  refine zp_const (pc := 41) hx hb (zd_X6_about (41, .bipush 8, 2, 0, []) (List.mem_of_getElem? (i := 23) rfl)) rfl rfl ?_
  refine zp_load (pc := 43) hx hb (zd_X6_about (43, .aload_n 1, 1, 0, []) (List.mem_of_getElem? (i := 24) rfl)) rfl (j := 1) rfl ?_
  refine zp_getf (n := (V 1 17)) (pc := 44) hx hb hEξ hwξ (zd_X6_about (44, .getfield 38, 3, 0, []) (List.mem_of_getElem? (i := 25) rfl)) (j := 2) rfl rfl rfl (zM_P hMξ (hYbξ _ (List.mem_of_getElem? (i := 1) rfl))) ((zp_set_ne (Or.inl (zM_ne hMξ (hYbξ _ (List.mem_of_getElem? (i := 1) rfl)) (hYbξ _ (List.mem_of_getElem? (i := 44) rfl)) (by decide)))).trans ((zp_set_ne (Or.inl (zM_ne hMξ (hYbξ _ (List.mem_of_getElem? (i := 1) rfl)) (hYbξ _ (List.mem_of_getElem? (i := 44) rfl)) (by decide)))).trans ((zp_set_ne (Or.inl (zM_ne hMξ (hYbξ _ (List.mem_of_getElem? (i := 1) rfl)) (hYbξ _ (List.mem_of_getElem? (i := 44) rfl)) (by decide)))).trans ((zp_set_ne (Or.inl (zM_ne hMξ (hYbξ _ (List.mem_of_getElem? (i := 1) rfl)) (hYbξ _ (List.mem_of_getElem? (i := 4) rfl)) (by decide)))).trans (((zM_G hMξ (hYbξ _ (List.mem_of_getElem? (i := 1) rfl)) 17).trans (hVξ 1 17 (by decide)))))))) ?_
  refine zp_kn (k := 17) (a := (A 1)) hwξ (show zp_fd 10 17 = some (9, 0, 0, (-2147483648), 2147483647) from rfl) rfl (zM_P hMξ (hYbξ _ (List.mem_of_getElem? (i := 1) rfl))) (fun hf435ξ => ?_)
  have hf435bξ := zp_int hf435ξ
  rw [((zp_set_ne (Or.inl (zM_ne hMξ (hYbξ _ (List.mem_of_getElem? (i := 1) rfl)) (hYbξ _ (List.mem_of_getElem? (i := 44) rfl)) (by decide)))).trans ((zp_set_ne (Or.inl (zM_ne hMξ (hYbξ _ (List.mem_of_getElem? (i := 1) rfl)) (hYbξ _ (List.mem_of_getElem? (i := 44) rfl)) (by decide)))).trans ((zp_set_ne (Or.inl (zM_ne hMξ (hYbξ _ (List.mem_of_getElem? (i := 1) rfl)) (hYbξ _ (List.mem_of_getElem? (i := 44) rfl)) (by decide)))).trans ((zp_set_ne (Or.inl (zM_ne hMξ (hYbξ _ (List.mem_of_getElem? (i := 1) rfl)) (hYbξ _ (List.mem_of_getElem? (i := 4) rfl)) (by decide)))).trans (((zM_G hMξ (hYbξ _ (List.mem_of_getElem? (i := 1) rfl)) 17).trans (hVξ 1 17 (by decide))))))))] at hf435bξ
  clear hf435ξ
  refine zp_iast (j := 8) (pc := 47) hx hb hwξ heffξ (zd_X6_about (47, .iastore, 1, 0, []) (List.mem_of_getElem? (i := 26) rfl)) (show zp_ia 1 27 = some (9, 0, 0, (-2147483648), 2147483647) from rfl) (zM_P hMξ (hYbξ _ (List.mem_of_getElem? (i := 44) rfl))) (by omega) (by omega) (zp_o0 (by omega) (by omega) (by omega) (by omega)) rfl ?_
  refine zp_vret (pc := 48) hx hb hEξ hQξ hU5ξ rfl (by decide) (zd_X6_about (48, .return_, 1, 0, []) (List.mem_of_getElem? (i := 27) rfl)) (j := 0) rfl ?_
  rw [hpsξ]
  refine ⟨rfl, ?_⟩
  refine ⟨(zp_set (zp_set (zp_set (zp_set (zp_set M 4 2 rnf432ξ) 66 (2000 + 0) p3ξ) 66 (2000 + 6) (V 2 3)) 66 (2000 + 7) (V 2 6)) 66 (2000 + 8) (V 1 17)), (zM_setE (zM_setE (zM_setE (zM_setE (zM_set hMξ (hYbξ _ (List.mem_of_getElem? (i := 4) rfl)) (zFx hFxξ (o := 4) (k := 2) (by decide) (by decide))) (hYbξ _ (List.mem_of_getElem? (i := 44) rfl))) (hYbξ _ (List.mem_of_getElem? (i := 44) rfl))) (hYbξ _ (List.mem_of_getElem? (i := 44) rfl))) (hYbξ _ (List.mem_of_getElem? (i := 44) rfl))), (zV_scr (zV_scr (zV_scr (zV_scr (zV_scr hVξ (by decide)) (by decide)) (by decide)) (by decide)) (by decide)), ⟨((zp_set_ne (Or.inr (by omega))).trans ((zp_set_ne (Or.inr (by omega))).trans ((zp_set_ne (Or.inr (by omega))).trans (zp_set_self)))), ((zp_set_ne (Or.inr (by omega))).trans ((zp_set_ne (Or.inr (by omega))).trans (zp_set_self))), ((zp_set_ne (Or.inr (by omega))).trans (zp_set_self)), zp_set_self⟩, fun j hjξ => ?_, ?_⟩
  · have h9ξ := zp_int (hwbξ j hjξ)
    rw [zM_G hMξ (hYbξ _ (List.mem_of_getElem? (i := 44) rfl))] at h9ξ
    have h3ξ : -2147483648 ≤ p3ξ ∧ p3ξ ≤ 2147483647 := ⟨by omega, by omega⟩
    have e6 : -2147483648 ≤ V 2 3 ∧ V 2 3 ≤ 2147483647 := by omega
    have e7 : -2147483648 ≤ V 2 6 ∧ V 2 6 ≤ 2147483647 := by omega
    have e8 : -2147483648 ≤ V 1 17 ∧ V 1 17 ≤ 2147483647 := by omega
    unfold zp_set
    repeat' split
    all_goals omega
  · rcases htf432ξ with ⟨e, e2⟩ | ⟨c, e, e2⟩
    · exact Or.inl ⟨((zp_set_ne (Or.inl (by decide))).trans ((zp_set_ne (Or.inl (by decide))).trans ((zp_set_ne (Or.inl (by decide))).trans ((zp_set_ne (Or.inl (by decide))).trans (zp_set_self))))).trans e, e2⟩
    · exact Or.inr ⟨c, ((zp_set_ne (Or.inl (by decide))).trans ((zp_set_ne (Or.inl (by decide))).trans ((zp_set_ne (Or.inl (by decide))).trans ((zp_set_ne (Or.inl (by decide))).trans (zp_set_self))))).trans e, e2⟩
noncomputable def zK_abt7 : zk_K := (zt_mn 90, prog_8_method_2_code, 4, (Option.none : Option Jvm.ClassFile.FieldType), 1, 6, [(2, 6, 0, 0), (2, 10, 0, 0), (2, 2, 0, 0), (0, 0, (-2147483648), 2147483647)], [(none, [])], [(6, 2, 0), (27, 1001, 0)], (1, 60, 0, 0))
noncomputable def zφ_abt7 (A : Nat → Nat) (Y : List (Nat × Nat)) (F : List (Nat × Nat × Nat)) (V : Nat → Nat → Int) (Lwξ : List yK) : (Nat → Option Nat) → (Nat → Nat → Int) → List Int → Prop := fun P G ps => zMVc A Y F V P G ∧ ps.getD 0 0 = (A 4 : Int) ∧ zMc Y F ∧ (ps.getD 1 0) = (A 1 : Int) ∧ (ps.getD 2 0) = (A 7 : Int) ∧ zLF A Y F V Lwξ
noncomputable def zψ_abt7 (A : Nat → Nat) (Y : List (Nat × Nat)) (F : List (Nat × Nat × Nat)) (V : Nat → Nat → Int) (Lwξ : List yK) : (Nat → Option Nat) → (Nat → Nat → Int) → List Int → (Nat → Option Nat) → (Nat → Nat → Int) → Int → Prop := fun P G ps P' G' rn => P' = P ∧ zMAc A Y F V Lwξ (zRc V 7 53) (ps.getD 3 0) P' G'
theorem zX_abt7 {l : Launch} {w : zk_W} (hWξ : zh_W w) (A : Nat → Nat) (Y : List (Nat × Nat)) (F : List (Nat × Nat × Nat)) (V : Nat → Nat → Int) (Lwξ : List yK) : zk_metX l w zt_dv zt_TB zK_abt7 (zp_A (zφ_abt7 A Y F V Lwξ)) (zp_B (zψ_abt7 A Y F V Lwξ)) ∧ zk_cok w zt_TB zK_abt7 := by
  refine zp_methX (cn := "WoundTown$Rules") zp_lkallRu hWξ (pl := 937) rfl (by decide +kernel) (fun p e R s m args below meth c Q u hx hb hEξ hQξ hU5ξ heffξ hnLξ hokξ hφ => ?_)
  have hwξ := hWξ.1
  obtain ⟨p0ξ, p1ξ, p2ξ, p3ξ, hpsξ, tk0, tk1, tk2, tk3⟩ := zp_ps4 hokξ
  have hrmξ : zk_Kr (zk_ev (zt_types, zp_lkRu, zt_dv, [], [], zp_lcRu, zK_abt7)) = zk_Kr zK_abt7 := rfl
  rw [hpsξ] at hφ ⊢
  have hφ : zMVc A Y F V u.1 (zp_n u.2.1) ∧ p0ξ = (A 4 : Int) ∧ zMc Y F ∧ p1ξ = (A 1 : Int) ∧ p2ξ = (A 7 : Int) ∧ zLF A Y F V Lwξ := hφ
  obtain ⟨⟨M, hMξ, hVξ, hSbξ⟩, rfl, hYFξ, rfl, rfl, hlwξ⟩ := hφ
  have hYF0ξ := hYFξ
  obtain ⟨hYbξ, hFbξ, hFxξ, -⟩ := hYFξ
  have hi3ξ := zp_int tk3
  show zp_J p l e R s m args below meth c Q w u [] 0 [(0, 2, (A 4 : Int)), (1, 2, (A 1 : Int)), (2, 2, (A 7 : Int)), (3, 0, p3ξ)] [] u.1 (zp_n u.2.1)
  refine zp_ka hwξ (Or.inl rfl) (show zp_ia 1 27 = some (9, 0, 0, (-2147483648), 2147483647) from rfl) (zM_P hMξ (hYbξ _ (List.mem_of_getElem? (i := 44) rfl))) (fun hwbξ => ?_)
  refine zp_load (pc := 0) hx hb (zd_X6_about (0, .aload_n 0, 1, 0, []) (List.mem_of_getElem? (i := 0) rfl)) rfl (j := 0) rfl ?_
  refine zp_load (pc := 1) hx hb (zd_X6_about (1, .aload_n 1, 1, 0, []) (List.mem_of_getElem? (i := 1) rfl)) rfl (j := 1) rfl ?_
  refine zp_call (pc := 2) (how := 0) (idx := 19) (mi := 91) (S := [(2, (A 4 : Int))]) hx hb hEξ hwξ heffξ hrmξ (zX_lif1 hWξ A Y F V Lwξ) rfl (j := 0) rfl rfl (by decide +kernel) (zd_X6_about (2, .invokevirtual 19, 3, 0, []) (List.mem_of_getElem? (i := 2) rfl)) [(A 1 : Int)] rfl ⟨zp_o2 (zM_P hMξ (hYbξ _ (List.mem_of_getElem? (i := 1) rfl))), trivial⟩ (Nat.le_of_ble_eq_true rfl) ⟨⟨M, hMξ, hVξ, trivial⟩, rfl, hYF0ξ, hlwξ⟩ (fun al halξ rnf436ξ Pf436 Gf436 hextf436ξ hfrf436ξ hokf436ξ hcsf436ξ hpsif436ξ => ?_)
  obtain rfl := List.mem_singleton.mp halξ
  obtain ⟨hPef436ξ, hGef436ξ, htf436ξ⟩ := hpsif436ξ
  have hokf436ξ : zk_ok Pf436 (2, 9, -1, 0) rnf436ξ := (hokf436ξ _ rfl).1
  subst hPef436ξ hGef436ξ
  clear hextf436ξ hfrf436ξ hcsf436ξ
  refine zp_putr (pc := 5) hx hb hEξ hwξ heffξ (zd_X6_about (5, .putfield 25, 3, 0, []) (List.mem_of_getElem? (i := 3) rfl)) (j := 6) rfl rfl rfl (zM_P hMξ (hYbξ _ (List.mem_of_getElem? (i := 4) rfl))) hokf436ξ ?_
  refine zp_load (pc := 8) hx hb (zd_X6_about (8, .aload_n 0, 1, 0, []) (List.mem_of_getElem? (i := 4) rfl)) rfl (j := 0) rfl ?_
  refine zp_getf (n := (A 66 : Int)) (pc := 9) hx hb hEξ hwξ (zd_X6_about (9, .getfield 11, 3, 0, []) (List.mem_of_getElem? (i := 5) rfl)) (j := 4) rfl rfl rfl (zM_P hMξ (hYbξ _ (List.mem_of_getElem? (i := 4) rfl))) ((zp_set_ne (Or.inr (by decide))).trans (((zM_G hMξ (hYbξ _ (List.mem_of_getElem? (i := 4) rfl)) 0).trans (zM_F hMξ (hFbξ _ (List.mem_of_getElem? (i := 41) rfl)))))) ?_
  refine zp_const (pc := 12) hx hb (zd_X6_about (12, .iconst 0, 1, 0, []) (List.mem_of_getElem? (i := 6) rfl)) rfl rfl ?_
  refine zp_load (pc := 13) hx hb (zd_X6_about (13, .iload_n 3, 1, 0, []) (List.mem_of_getElem? (i := 7) rfl)) rfl (j := 3) rfl ?_
  refine zp_iast (j := 0) (pc := 14) hx hb hwξ heffξ (zd_X6_about (14, .iastore, 1, 0, []) (List.mem_of_getElem? (i := 8) rfl)) (show zp_ia 1 27 = some (9, 0, 0, (-2147483648), 2147483647) from rfl) (zM_P hMξ (hYbξ _ (List.mem_of_getElem? (i := 44) rfl))) (by omega) (by omega) (zp_o0 (by omega) (by omega) (by omega) (by omega)) rfl ?_
  refine zp_load (pc := 15) hx hb (zd_X6_about (15, .aload_n 0, 1, 0, []) (List.mem_of_getElem? (i := 9) rfl)) rfl (j := 0) rfl ?_
  refine zp_getf (n := (A 66 : Int)) (pc := 16) hx hb hEξ hwξ (zd_X6_about (16, .getfield 11, 3, 0, []) (List.mem_of_getElem? (i := 10) rfl)) (j := 4) rfl rfl rfl (zM_P hMξ (hYbξ _ (List.mem_of_getElem? (i := 4) rfl))) ((zp_set_ne (Or.inl (zM_ne hMξ (hYbξ _ (List.mem_of_getElem? (i := 4) rfl)) (hYbξ _ (List.mem_of_getElem? (i := 44) rfl)) (by decide)))).trans ((zp_set_ne (Or.inr (by decide))).trans (((zM_G hMξ (hYbξ _ (List.mem_of_getElem? (i := 4) rfl)) 0).trans (zM_F hMξ (hFbξ _ (List.mem_of_getElem? (i := 41) rfl))))))) ?_
  refine zp_const (pc := 19) hx hb (zd_X6_about (19, .bipush 6, 2, 0, []) (List.mem_of_getElem? (i := 11) rfl)) rfl rfl ?_
  refine zp_load (pc := 21) hx hb (zd_X6_about (21, .aload_n 2, 1, 0, []) (List.mem_of_getElem? (i := 12) rfl)) rfl (j := 2) rfl ?_
  refine zp_getf (n := (V 7 3)) (pc := 22) hx hb hEξ hwξ (zd_X6_about (22, .getfield 29, 3, 0, []) (List.mem_of_getElem? (i := 13) rfl)) (j := 0) rfl rfl rfl (zM_P hMξ (hYbξ _ (List.mem_of_getElem? (i := 7) rfl))) ((zp_set_ne (Or.inl (zM_ne hMξ (hYbξ _ (List.mem_of_getElem? (i := 7) rfl)) (hYbξ _ (List.mem_of_getElem? (i := 44) rfl)) (by decide)))).trans ((zp_set_ne (Or.inl (zM_ne hMξ (hYbξ _ (List.mem_of_getElem? (i := 7) rfl)) (hYbξ _ (List.mem_of_getElem? (i := 4) rfl)) (by decide)))).trans (((zM_G hMξ (hYbξ _ (List.mem_of_getElem? (i := 7) rfl)) 3).trans (hVξ 7 3 (by decide)))))) ?_
  refine zp_kn (k := 3) (a := (A 7)) hwξ (show zp_fd 2 3 = some (2, 0, 0, (-2147483648), 2147483647) from rfl) rfl (zM_P hMξ (hYbξ _ (List.mem_of_getElem? (i := 7) rfl))) (fun hf437ξ => ?_)
  have hf437bξ := zp_int hf437ξ
  rw [((zp_set_ne (Or.inl (zM_ne hMξ (hYbξ _ (List.mem_of_getElem? (i := 7) rfl)) (hYbξ _ (List.mem_of_getElem? (i := 44) rfl)) (by decide)))).trans ((zp_set_ne (Or.inl (zM_ne hMξ (hYbξ _ (List.mem_of_getElem? (i := 7) rfl)) (hYbξ _ (List.mem_of_getElem? (i := 4) rfl)) (by decide)))).trans (((zM_G hMξ (hYbξ _ (List.mem_of_getElem? (i := 7) rfl)) 3).trans (hVξ 7 3 (by decide))))))] at hf437bξ
  clear hf437ξ
  refine zp_iast (j := 6) (pc := 25) hx hb hwξ heffξ (zd_X6_about (25, .iastore, 1, 0, []) (List.mem_of_getElem? (i := 14) rfl)) (show zp_ia 1 27 = some (9, 0, 0, (-2147483648), 2147483647) from rfl) (zM_P hMξ (hYbξ _ (List.mem_of_getElem? (i := 44) rfl))) (by omega) (by omega) (zp_o0 (by omega) (by omega) (by omega) (by omega)) rfl ?_
  refine zp_load (pc := 26) hx hb (zd_X6_about (26, .aload_n 0, 1, 0, []) (List.mem_of_getElem? (i := 15) rfl)) rfl (j := 0) rfl ?_
  refine zp_getf (n := (A 66 : Int)) (pc := 27) hx hb hEξ hwξ (zd_X6_about (27, .getfield 11, 3, 0, []) (List.mem_of_getElem? (i := 16) rfl)) (j := 4) rfl rfl rfl (zM_P hMξ (hYbξ _ (List.mem_of_getElem? (i := 4) rfl))) ((zp_set_ne (Or.inl (zM_ne hMξ (hYbξ _ (List.mem_of_getElem? (i := 4) rfl)) (hYbξ _ (List.mem_of_getElem? (i := 44) rfl)) (by decide)))).trans ((zp_set_ne (Or.inl (zM_ne hMξ (hYbξ _ (List.mem_of_getElem? (i := 4) rfl)) (hYbξ _ (List.mem_of_getElem? (i := 44) rfl)) (by decide)))).trans ((zp_set_ne (Or.inr (by decide))).trans (((zM_G hMξ (hYbξ _ (List.mem_of_getElem? (i := 4) rfl)) 0).trans (zM_F hMξ (hFbξ _ (List.mem_of_getElem? (i := 41) rfl)))))))) ?_
  refine zp_const (pc := 30) hx hb (zd_X6_about (30, .bipush 7, 2, 0, []) (List.mem_of_getElem? (i := 17) rfl)) rfl rfl ?_
  refine zp_load (pc := 32) hx hb (zd_X6_about (32, .aload_n 2, 1, 0, []) (List.mem_of_getElem? (i := 18) rfl)) rfl (j := 2) rfl ?_
  refine zp_getf (n := (V 7 6)) (pc := 33) hx hb hEξ hwξ (zd_X6_about (33, .getfield 35, 3, 0, []) (List.mem_of_getElem? (i := 19) rfl)) (j := 1) rfl rfl rfl (zM_P hMξ (hYbξ _ (List.mem_of_getElem? (i := 7) rfl))) ((zp_set_ne (Or.inl (zM_ne hMξ (hYbξ _ (List.mem_of_getElem? (i := 7) rfl)) (hYbξ _ (List.mem_of_getElem? (i := 44) rfl)) (by decide)))).trans ((zp_set_ne (Or.inl (zM_ne hMξ (hYbξ _ (List.mem_of_getElem? (i := 7) rfl)) (hYbξ _ (List.mem_of_getElem? (i := 44) rfl)) (by decide)))).trans ((zp_set_ne (Or.inl (zM_ne hMξ (hYbξ _ (List.mem_of_getElem? (i := 7) rfl)) (hYbξ _ (List.mem_of_getElem? (i := 4) rfl)) (by decide)))).trans (((zM_G hMξ (hYbξ _ (List.mem_of_getElem? (i := 7) rfl)) 6).trans (hVξ 7 6 (by decide))))))) ?_
  refine zp_kn (k := 6) (a := (A 7)) hwξ (show zp_fd 2 6 = some (2, 0, 0, (-2147483648), 2147483647) from rfl) rfl (zM_P hMξ (hYbξ _ (List.mem_of_getElem? (i := 7) rfl))) (fun hf438ξ => ?_)
  have hf438bξ := zp_int hf438ξ
  rw [((zp_set_ne (Or.inl (zM_ne hMξ (hYbξ _ (List.mem_of_getElem? (i := 7) rfl)) (hYbξ _ (List.mem_of_getElem? (i := 44) rfl)) (by decide)))).trans ((zp_set_ne (Or.inl (zM_ne hMξ (hYbξ _ (List.mem_of_getElem? (i := 7) rfl)) (hYbξ _ (List.mem_of_getElem? (i := 44) rfl)) (by decide)))).trans ((zp_set_ne (Or.inl (zM_ne hMξ (hYbξ _ (List.mem_of_getElem? (i := 7) rfl)) (hYbξ _ (List.mem_of_getElem? (i := 4) rfl)) (by decide)))).trans (((zM_G hMξ (hYbξ _ (List.mem_of_getElem? (i := 7) rfl)) 6).trans (hVξ 7 6 (by decide)))))))] at hf438bξ
  clear hf438ξ
  refine zp_iast (j := 7) (pc := 36) hx hb hwξ heffξ (zd_X6_about (36, .iastore, 1, 0, []) (List.mem_of_getElem? (i := 20) rfl)) (show zp_ia 1 27 = some (9, 0, 0, (-2147483648), 2147483647) from rfl) (zM_P hMξ (hYbξ _ (List.mem_of_getElem? (i := 44) rfl))) (by omega) (by omega) (zp_o0 (by omega) (by omega) (by omega) (by omega)) rfl ?_
  refine zp_load (pc := 37) hx hb (zd_X6_about (37, .aload_n 0, 1, 0, []) (List.mem_of_getElem? (i := 21) rfl)) rfl (j := 0) rfl ?_
  refine zp_getf (n := (A 66 : Int)) (pc := 38) hx hb hEξ hwξ (zd_X6_about (38, .getfield 11, 3, 0, []) (List.mem_of_getElem? (i := 22) rfl)) (j := 4) rfl rfl rfl (zM_P hMξ (hYbξ _ (List.mem_of_getElem? (i := 4) rfl))) ((zp_set_ne (Or.inl (zM_ne hMξ (hYbξ _ (List.mem_of_getElem? (i := 4) rfl)) (hYbξ _ (List.mem_of_getElem? (i := 44) rfl)) (by decide)))).trans ((zp_set_ne (Or.inl (zM_ne hMξ (hYbξ _ (List.mem_of_getElem? (i := 4) rfl)) (hYbξ _ (List.mem_of_getElem? (i := 44) rfl)) (by decide)))).trans ((zp_set_ne (Or.inl (zM_ne hMξ (hYbξ _ (List.mem_of_getElem? (i := 4) rfl)) (hYbξ _ (List.mem_of_getElem? (i := 44) rfl)) (by decide)))).trans ((zp_set_ne (Or.inr (by decide))).trans (((zM_G hMξ (hYbξ _ (List.mem_of_getElem? (i := 4) rfl)) 0).trans (zM_F hMξ (hFbξ _ (List.mem_of_getElem? (i := 41) rfl))))))))) ?_
  refine zp_const (pc := 41) hx hb (zd_X6_about (41, .bipush 8, 2, 0, []) (List.mem_of_getElem? (i := 23) rfl)) rfl rfl ?_
  refine zp_load (pc := 43) hx hb (zd_X6_about (43, .aload_n 1, 1, 0, []) (List.mem_of_getElem? (i := 24) rfl)) rfl (j := 1) rfl ?_
  refine zp_getf (n := (V 1 17)) (pc := 44) hx hb hEξ hwξ (zd_X6_about (44, .getfield 38, 3, 0, []) (List.mem_of_getElem? (i := 25) rfl)) (j := 2) rfl rfl rfl (zM_P hMξ (hYbξ _ (List.mem_of_getElem? (i := 1) rfl))) ((zp_set_ne (Or.inl (zM_ne hMξ (hYbξ _ (List.mem_of_getElem? (i := 1) rfl)) (hYbξ _ (List.mem_of_getElem? (i := 44) rfl)) (by decide)))).trans ((zp_set_ne (Or.inl (zM_ne hMξ (hYbξ _ (List.mem_of_getElem? (i := 1) rfl)) (hYbξ _ (List.mem_of_getElem? (i := 44) rfl)) (by decide)))).trans ((zp_set_ne (Or.inl (zM_ne hMξ (hYbξ _ (List.mem_of_getElem? (i := 1) rfl)) (hYbξ _ (List.mem_of_getElem? (i := 44) rfl)) (by decide)))).trans ((zp_set_ne (Or.inl (zM_ne hMξ (hYbξ _ (List.mem_of_getElem? (i := 1) rfl)) (hYbξ _ (List.mem_of_getElem? (i := 4) rfl)) (by decide)))).trans (((zM_G hMξ (hYbξ _ (List.mem_of_getElem? (i := 1) rfl)) 17).trans (hVξ 1 17 (by decide)))))))) ?_
  refine zp_kn (k := 17) (a := (A 1)) hwξ (show zp_fd 10 17 = some (9, 0, 0, (-2147483648), 2147483647) from rfl) rfl (zM_P hMξ (hYbξ _ (List.mem_of_getElem? (i := 1) rfl))) (fun hf439ξ => ?_)
  have hf439bξ := zp_int hf439ξ
  rw [((zp_set_ne (Or.inl (zM_ne hMξ (hYbξ _ (List.mem_of_getElem? (i := 1) rfl)) (hYbξ _ (List.mem_of_getElem? (i := 44) rfl)) (by decide)))).trans ((zp_set_ne (Or.inl (zM_ne hMξ (hYbξ _ (List.mem_of_getElem? (i := 1) rfl)) (hYbξ _ (List.mem_of_getElem? (i := 44) rfl)) (by decide)))).trans ((zp_set_ne (Or.inl (zM_ne hMξ (hYbξ _ (List.mem_of_getElem? (i := 1) rfl)) (hYbξ _ (List.mem_of_getElem? (i := 44) rfl)) (by decide)))).trans ((zp_set_ne (Or.inl (zM_ne hMξ (hYbξ _ (List.mem_of_getElem? (i := 1) rfl)) (hYbξ _ (List.mem_of_getElem? (i := 4) rfl)) (by decide)))).trans (((zM_G hMξ (hYbξ _ (List.mem_of_getElem? (i := 1) rfl)) 17).trans (hVξ 1 17 (by decide))))))))] at hf439bξ
  clear hf439ξ
  refine zp_iast (j := 8) (pc := 47) hx hb hwξ heffξ (zd_X6_about (47, .iastore, 1, 0, []) (List.mem_of_getElem? (i := 26) rfl)) (show zp_ia 1 27 = some (9, 0, 0, (-2147483648), 2147483647) from rfl) (zM_P hMξ (hYbξ _ (List.mem_of_getElem? (i := 44) rfl))) (by omega) (by omega) (zp_o0 (by omega) (by omega) (by omega) (by omega)) rfl ?_
  refine zp_vret (pc := 48) hx hb hEξ hQξ hU5ξ rfl (by decide) (zd_X6_about (48, .return_, 1, 0, []) (List.mem_of_getElem? (i := 27) rfl)) (j := 0) rfl ?_
  rw [hpsξ]
  refine ⟨rfl, ?_⟩
  refine ⟨(zp_set (zp_set (zp_set (zp_set (zp_set M 4 2 rnf436ξ) 66 (2000 + 0) p3ξ) 66 (2000 + 6) (V 7 3)) 66 (2000 + 7) (V 7 6)) 66 (2000 + 8) (V 1 17)), (zM_setE (zM_setE (zM_setE (zM_setE (zM_set hMξ (hYbξ _ (List.mem_of_getElem? (i := 4) rfl)) (zFx hFxξ (o := 4) (k := 2) (by decide) (by decide))) (hYbξ _ (List.mem_of_getElem? (i := 44) rfl))) (hYbξ _ (List.mem_of_getElem? (i := 44) rfl))) (hYbξ _ (List.mem_of_getElem? (i := 44) rfl))) (hYbξ _ (List.mem_of_getElem? (i := 44) rfl))), (zV_scr (zV_scr (zV_scr (zV_scr (zV_scr hVξ (by decide)) (by decide)) (by decide)) (by decide)) (by decide)), ⟨((zp_set_ne (Or.inr (by omega))).trans ((zp_set_ne (Or.inr (by omega))).trans ((zp_set_ne (Or.inr (by omega))).trans (zp_set_self)))), ((zp_set_ne (Or.inr (by omega))).trans ((zp_set_ne (Or.inr (by omega))).trans (zp_set_self))), ((zp_set_ne (Or.inr (by omega))).trans (zp_set_self)), zp_set_self⟩, fun j hjξ => ?_, ?_⟩
  · have h9ξ := zp_int (hwbξ j hjξ)
    rw [zM_G hMξ (hYbξ _ (List.mem_of_getElem? (i := 44) rfl))] at h9ξ
    have h3ξ : -2147483648 ≤ p3ξ ∧ p3ξ ≤ 2147483647 := ⟨by omega, by omega⟩
    have e6 : -2147483648 ≤ V 7 3 ∧ V 7 3 ≤ 2147483647 := by omega
    have e7 : -2147483648 ≤ V 7 6 ∧ V 7 6 ≤ 2147483647 := by omega
    have e8 : -2147483648 ≤ V 1 17 ∧ V 1 17 ≤ 2147483647 := by omega
    unfold zp_set
    repeat' split
    all_goals omega
  · rcases htf436ξ with ⟨e, e2⟩ | ⟨c, e, e2⟩
    · exact Or.inl ⟨((zp_set_ne (Or.inl (by decide))).trans ((zp_set_ne (Or.inl (by decide))).trans ((zp_set_ne (Or.inl (by decide))).trans ((zp_set_ne (Or.inl (by decide))).trans (zp_set_self))))).trans e, e2⟩
    · exact Or.inr ⟨c, ((zp_set_ne (Or.inl (by decide))).trans ((zp_set_ne (Or.inl (by decide))).trans ((zp_set_ne (Or.inl (by decide))).trans ((zp_set_ne (Or.inl (by decide))).trans (zp_set_self))))).trans e, e2⟩
noncomputable def zK_abt8 : zk_K := (zt_mn 90, prog_8_method_2_code, 4, (Option.none : Option Jvm.ClassFile.FieldType), 1, 6, [(2, 6, 0, 0), (2, 10, 0, 0), (2, 2, 0, 0), (0, 0, (-2147483648), 2147483647)], [(none, [])], [(6, 2, 0), (27, 1001, 0)], (1, 60, 0, 0))
noncomputable def zφ_abt8 (A : Nat → Nat) (Y : List (Nat × Nat)) (F : List (Nat × Nat × Nat)) (V : Nat → Nat → Int) (Lwξ : List yK) : (Nat → Option Nat) → (Nat → Nat → Int) → List Int → Prop := fun P G ps => zMVc A Y F V P G ∧ ps.getD 0 0 = (A 4 : Int) ∧ zMc Y F ∧ (ps.getD 1 0) = (A 1 : Int) ∧ (ps.getD 2 0) = (A 8 : Int) ∧ zLF A Y F V Lwξ
noncomputable def zψ_abt8 (A : Nat → Nat) (Y : List (Nat × Nat)) (F : List (Nat × Nat × Nat)) (V : Nat → Nat → Int) (Lwξ : List yK) : (Nat → Option Nat) → (Nat → Nat → Int) → List Int → (Nat → Option Nat) → (Nat → Nat → Int) → Int → Prop := fun P G ps P' G' rn => P' = P ∧ zMAc A Y F V Lwξ (zRc V 8 56) (ps.getD 3 0) P' G'
theorem zX_abt8 {l : Launch} {w : zk_W} (hWξ : zh_W w) (A : Nat → Nat) (Y : List (Nat × Nat)) (F : List (Nat × Nat × Nat)) (V : Nat → Nat → Int) (Lwξ : List yK) : zk_metX l w zt_dv zt_TB zK_abt8 (zp_A (zφ_abt8 A Y F V Lwξ)) (zp_B (zψ_abt8 A Y F V Lwξ)) ∧ zk_cok w zt_TB zK_abt8 := by
  refine zp_methX (cn := "WoundTown$Rules") zp_lkallRu hWξ (pl := 937) rfl (by decide +kernel) (fun p e R s m args below meth c Q u hx hb hEξ hQξ hU5ξ heffξ hnLξ hokξ hφ => ?_)
  have hwξ := hWξ.1
  obtain ⟨p0ξ, p1ξ, p2ξ, p3ξ, hpsξ, tk0, tk1, tk2, tk3⟩ := zp_ps4 hokξ
  have hrmξ : zk_Kr (zk_ev (zt_types, zp_lkRu, zt_dv, [], [], zp_lcRu, zK_abt8)) = zk_Kr zK_abt8 := rfl
  rw [hpsξ] at hφ ⊢
  have hφ : zMVc A Y F V u.1 (zp_n u.2.1) ∧ p0ξ = (A 4 : Int) ∧ zMc Y F ∧ p1ξ = (A 1 : Int) ∧ p2ξ = (A 8 : Int) ∧ zLF A Y F V Lwξ := hφ
  obtain ⟨⟨M, hMξ, hVξ, hSbξ⟩, rfl, hYFξ, rfl, rfl, hlwξ⟩ := hφ
  have hYF0ξ := hYFξ
  obtain ⟨hYbξ, hFbξ, hFxξ, -⟩ := hYFξ
  have hi3ξ := zp_int tk3
  show zp_J p l e R s m args below meth c Q w u [] 0 [(0, 2, (A 4 : Int)), (1, 2, (A 1 : Int)), (2, 2, (A 8 : Int)), (3, 0, p3ξ)] [] u.1 (zp_n u.2.1)
  refine zp_ka hwξ (Or.inl rfl) (show zp_ia 1 27 = some (9, 0, 0, (-2147483648), 2147483647) from rfl) (zM_P hMξ (hYbξ _ (List.mem_of_getElem? (i := 44) rfl))) (fun hwbξ => ?_)
  refine zp_load (pc := 0) hx hb (zd_X6_about (0, .aload_n 0, 1, 0, []) (List.mem_of_getElem? (i := 0) rfl)) rfl (j := 0) rfl ?_
  refine zp_load (pc := 1) hx hb (zd_X6_about (1, .aload_n 1, 1, 0, []) (List.mem_of_getElem? (i := 1) rfl)) rfl (j := 1) rfl ?_
  refine zp_call (pc := 2) (how := 0) (idx := 19) (mi := 91) (S := [(2, (A 4 : Int))]) hx hb hEξ hwξ heffξ hrmξ (zX_lif1 hWξ A Y F V Lwξ) rfl (j := 0) rfl rfl (by decide +kernel) (zd_X6_about (2, .invokevirtual 19, 3, 0, []) (List.mem_of_getElem? (i := 2) rfl)) [(A 1 : Int)] rfl ⟨zp_o2 (zM_P hMξ (hYbξ _ (List.mem_of_getElem? (i := 1) rfl))), trivial⟩ (Nat.le_of_ble_eq_true rfl) ⟨⟨M, hMξ, hVξ, trivial⟩, rfl, hYF0ξ, hlwξ⟩ (fun al halξ rnf440ξ Pf440 Gf440 hextf440ξ hfrf440ξ hokf440ξ hcsf440ξ hpsif440ξ => ?_)
  obtain rfl := List.mem_singleton.mp halξ
  obtain ⟨hPef440ξ, hGef440ξ, htf440ξ⟩ := hpsif440ξ
  have hokf440ξ : zk_ok Pf440 (2, 9, -1, 0) rnf440ξ := (hokf440ξ _ rfl).1
  subst hPef440ξ hGef440ξ
  clear hextf440ξ hfrf440ξ hcsf440ξ
  refine zp_putr (pc := 5) hx hb hEξ hwξ heffξ (zd_X6_about (5, .putfield 25, 3, 0, []) (List.mem_of_getElem? (i := 3) rfl)) (j := 6) rfl rfl rfl (zM_P hMξ (hYbξ _ (List.mem_of_getElem? (i := 4) rfl))) hokf440ξ ?_
  refine zp_load (pc := 8) hx hb (zd_X6_about (8, .aload_n 0, 1, 0, []) (List.mem_of_getElem? (i := 4) rfl)) rfl (j := 0) rfl ?_
  refine zp_getf (n := (A 66 : Int)) (pc := 9) hx hb hEξ hwξ (zd_X6_about (9, .getfield 11, 3, 0, []) (List.mem_of_getElem? (i := 5) rfl)) (j := 4) rfl rfl rfl (zM_P hMξ (hYbξ _ (List.mem_of_getElem? (i := 4) rfl))) ((zp_set_ne (Or.inr (by decide))).trans (((zM_G hMξ (hYbξ _ (List.mem_of_getElem? (i := 4) rfl)) 0).trans (zM_F hMξ (hFbξ _ (List.mem_of_getElem? (i := 41) rfl)))))) ?_
  refine zp_const (pc := 12) hx hb (zd_X6_about (12, .iconst 0, 1, 0, []) (List.mem_of_getElem? (i := 6) rfl)) rfl rfl ?_
  refine zp_load (pc := 13) hx hb (zd_X6_about (13, .iload_n 3, 1, 0, []) (List.mem_of_getElem? (i := 7) rfl)) rfl (j := 3) rfl ?_
  refine zp_iast (j := 0) (pc := 14) hx hb hwξ heffξ (zd_X6_about (14, .iastore, 1, 0, []) (List.mem_of_getElem? (i := 8) rfl)) (show zp_ia 1 27 = some (9, 0, 0, (-2147483648), 2147483647) from rfl) (zM_P hMξ (hYbξ _ (List.mem_of_getElem? (i := 44) rfl))) (by omega) (by omega) (zp_o0 (by omega) (by omega) (by omega) (by omega)) rfl ?_
  refine zp_load (pc := 15) hx hb (zd_X6_about (15, .aload_n 0, 1, 0, []) (List.mem_of_getElem? (i := 9) rfl)) rfl (j := 0) rfl ?_
  refine zp_getf (n := (A 66 : Int)) (pc := 16) hx hb hEξ hwξ (zd_X6_about (16, .getfield 11, 3, 0, []) (List.mem_of_getElem? (i := 10) rfl)) (j := 4) rfl rfl rfl (zM_P hMξ (hYbξ _ (List.mem_of_getElem? (i := 4) rfl))) ((zp_set_ne (Or.inl (zM_ne hMξ (hYbξ _ (List.mem_of_getElem? (i := 4) rfl)) (hYbξ _ (List.mem_of_getElem? (i := 44) rfl)) (by decide)))).trans ((zp_set_ne (Or.inr (by decide))).trans (((zM_G hMξ (hYbξ _ (List.mem_of_getElem? (i := 4) rfl)) 0).trans (zM_F hMξ (hFbξ _ (List.mem_of_getElem? (i := 41) rfl))))))) ?_
  refine zp_const (pc := 19) hx hb (zd_X6_about (19, .bipush 6, 2, 0, []) (List.mem_of_getElem? (i := 11) rfl)) rfl rfl ?_
  refine zp_load (pc := 21) hx hb (zd_X6_about (21, .aload_n 2, 1, 0, []) (List.mem_of_getElem? (i := 12) rfl)) rfl (j := 2) rfl ?_
  refine zp_getf (n := (V 8 3)) (pc := 22) hx hb hEξ hwξ (zd_X6_about (22, .getfield 29, 3, 0, []) (List.mem_of_getElem? (i := 13) rfl)) (j := 0) rfl rfl rfl (zM_P hMξ (hYbξ _ (List.mem_of_getElem? (i := 8) rfl))) ((zp_set_ne (Or.inl (zM_ne hMξ (hYbξ _ (List.mem_of_getElem? (i := 8) rfl)) (hYbξ _ (List.mem_of_getElem? (i := 44) rfl)) (by decide)))).trans ((zp_set_ne (Or.inl (zM_ne hMξ (hYbξ _ (List.mem_of_getElem? (i := 8) rfl)) (hYbξ _ (List.mem_of_getElem? (i := 4) rfl)) (by decide)))).trans (((zM_G hMξ (hYbξ _ (List.mem_of_getElem? (i := 8) rfl)) 3).trans (hVξ 8 3 (by decide)))))) ?_
  refine zp_kn (k := 3) (a := (A 8)) hwξ (show zp_fd 2 3 = some (2, 0, 0, (-2147483648), 2147483647) from rfl) rfl (zM_P hMξ (hYbξ _ (List.mem_of_getElem? (i := 8) rfl))) (fun hf441ξ => ?_)
  have hf441bξ := zp_int hf441ξ
  rw [((zp_set_ne (Or.inl (zM_ne hMξ (hYbξ _ (List.mem_of_getElem? (i := 8) rfl)) (hYbξ _ (List.mem_of_getElem? (i := 44) rfl)) (by decide)))).trans ((zp_set_ne (Or.inl (zM_ne hMξ (hYbξ _ (List.mem_of_getElem? (i := 8) rfl)) (hYbξ _ (List.mem_of_getElem? (i := 4) rfl)) (by decide)))).trans (((zM_G hMξ (hYbξ _ (List.mem_of_getElem? (i := 8) rfl)) 3).trans (hVξ 8 3 (by decide))))))] at hf441bξ
  clear hf441ξ
  refine zp_iast (j := 6) (pc := 25) hx hb hwξ heffξ (zd_X6_about (25, .iastore, 1, 0, []) (List.mem_of_getElem? (i := 14) rfl)) (show zp_ia 1 27 = some (9, 0, 0, (-2147483648), 2147483647) from rfl) (zM_P hMξ (hYbξ _ (List.mem_of_getElem? (i := 44) rfl))) (by omega) (by omega) (zp_o0 (by omega) (by omega) (by omega) (by omega)) rfl ?_
  refine zp_load (pc := 26) hx hb (zd_X6_about (26, .aload_n 0, 1, 0, []) (List.mem_of_getElem? (i := 15) rfl)) rfl (j := 0) rfl ?_
  refine zp_getf (n := (A 66 : Int)) (pc := 27) hx hb hEξ hwξ (zd_X6_about (27, .getfield 11, 3, 0, []) (List.mem_of_getElem? (i := 16) rfl)) (j := 4) rfl rfl rfl (zM_P hMξ (hYbξ _ (List.mem_of_getElem? (i := 4) rfl))) ((zp_set_ne (Or.inl (zM_ne hMξ (hYbξ _ (List.mem_of_getElem? (i := 4) rfl)) (hYbξ _ (List.mem_of_getElem? (i := 44) rfl)) (by decide)))).trans ((zp_set_ne (Or.inl (zM_ne hMξ (hYbξ _ (List.mem_of_getElem? (i := 4) rfl)) (hYbξ _ (List.mem_of_getElem? (i := 44) rfl)) (by decide)))).trans ((zp_set_ne (Or.inr (by decide))).trans (((zM_G hMξ (hYbξ _ (List.mem_of_getElem? (i := 4) rfl)) 0).trans (zM_F hMξ (hFbξ _ (List.mem_of_getElem? (i := 41) rfl)))))))) ?_
  refine zp_const (pc := 30) hx hb (zd_X6_about (30, .bipush 7, 2, 0, []) (List.mem_of_getElem? (i := 17) rfl)) rfl rfl ?_
  refine zp_load (pc := 32) hx hb (zd_X6_about (32, .aload_n 2, 1, 0, []) (List.mem_of_getElem? (i := 18) rfl)) rfl (j := 2) rfl ?_
  refine zp_getf (n := (V 8 6)) (pc := 33) hx hb hEξ hwξ (zd_X6_about (33, .getfield 35, 3, 0, []) (List.mem_of_getElem? (i := 19) rfl)) (j := 1) rfl rfl rfl (zM_P hMξ (hYbξ _ (List.mem_of_getElem? (i := 8) rfl))) ((zp_set_ne (Or.inl (zM_ne hMξ (hYbξ _ (List.mem_of_getElem? (i := 8) rfl)) (hYbξ _ (List.mem_of_getElem? (i := 44) rfl)) (by decide)))).trans ((zp_set_ne (Or.inl (zM_ne hMξ (hYbξ _ (List.mem_of_getElem? (i := 8) rfl)) (hYbξ _ (List.mem_of_getElem? (i := 44) rfl)) (by decide)))).trans ((zp_set_ne (Or.inl (zM_ne hMξ (hYbξ _ (List.mem_of_getElem? (i := 8) rfl)) (hYbξ _ (List.mem_of_getElem? (i := 4) rfl)) (by decide)))).trans (((zM_G hMξ (hYbξ _ (List.mem_of_getElem? (i := 8) rfl)) 6).trans (hVξ 8 6 (by decide))))))) ?_
  refine zp_kn (k := 6) (a := (A 8)) hwξ (show zp_fd 2 6 = some (2, 0, 0, (-2147483648), 2147483647) from rfl) rfl (zM_P hMξ (hYbξ _ (List.mem_of_getElem? (i := 8) rfl))) (fun hf442ξ => ?_)
  have hf442bξ := zp_int hf442ξ
  rw [((zp_set_ne (Or.inl (zM_ne hMξ (hYbξ _ (List.mem_of_getElem? (i := 8) rfl)) (hYbξ _ (List.mem_of_getElem? (i := 44) rfl)) (by decide)))).trans ((zp_set_ne (Or.inl (zM_ne hMξ (hYbξ _ (List.mem_of_getElem? (i := 8) rfl)) (hYbξ _ (List.mem_of_getElem? (i := 44) rfl)) (by decide)))).trans ((zp_set_ne (Or.inl (zM_ne hMξ (hYbξ _ (List.mem_of_getElem? (i := 8) rfl)) (hYbξ _ (List.mem_of_getElem? (i := 4) rfl)) (by decide)))).trans (((zM_G hMξ (hYbξ _ (List.mem_of_getElem? (i := 8) rfl)) 6).trans (hVξ 8 6 (by decide)))))))] at hf442bξ
  clear hf442ξ
  refine zp_iast (j := 7) (pc := 36) hx hb hwξ heffξ (zd_X6_about (36, .iastore, 1, 0, []) (List.mem_of_getElem? (i := 20) rfl)) (show zp_ia 1 27 = some (9, 0, 0, (-2147483648), 2147483647) from rfl) (zM_P hMξ (hYbξ _ (List.mem_of_getElem? (i := 44) rfl))) (by omega) (by omega) (zp_o0 (by omega) (by omega) (by omega) (by omega)) rfl ?_
  refine zp_load (pc := 37) hx hb (zd_X6_about (37, .aload_n 0, 1, 0, []) (List.mem_of_getElem? (i := 21) rfl)) rfl (j := 0) rfl ?_
  refine zp_getf (n := (A 66 : Int)) (pc := 38) hx hb hEξ hwξ (zd_X6_about (38, .getfield 11, 3, 0, []) (List.mem_of_getElem? (i := 22) rfl)) (j := 4) rfl rfl rfl (zM_P hMξ (hYbξ _ (List.mem_of_getElem? (i := 4) rfl))) ((zp_set_ne (Or.inl (zM_ne hMξ (hYbξ _ (List.mem_of_getElem? (i := 4) rfl)) (hYbξ _ (List.mem_of_getElem? (i := 44) rfl)) (by decide)))).trans ((zp_set_ne (Or.inl (zM_ne hMξ (hYbξ _ (List.mem_of_getElem? (i := 4) rfl)) (hYbξ _ (List.mem_of_getElem? (i := 44) rfl)) (by decide)))).trans ((zp_set_ne (Or.inl (zM_ne hMξ (hYbξ _ (List.mem_of_getElem? (i := 4) rfl)) (hYbξ _ (List.mem_of_getElem? (i := 44) rfl)) (by decide)))).trans ((zp_set_ne (Or.inr (by decide))).trans (((zM_G hMξ (hYbξ _ (List.mem_of_getElem? (i := 4) rfl)) 0).trans (zM_F hMξ (hFbξ _ (List.mem_of_getElem? (i := 41) rfl))))))))) ?_
  refine zp_const (pc := 41) hx hb (zd_X6_about (41, .bipush 8, 2, 0, []) (List.mem_of_getElem? (i := 23) rfl)) rfl rfl ?_
  refine zp_load (pc := 43) hx hb (zd_X6_about (43, .aload_n 1, 1, 0, []) (List.mem_of_getElem? (i := 24) rfl)) rfl (j := 1) rfl ?_
  refine zp_getf (n := (V 1 17)) (pc := 44) hx hb hEξ hwξ (zd_X6_about (44, .getfield 38, 3, 0, []) (List.mem_of_getElem? (i := 25) rfl)) (j := 2) rfl rfl rfl (zM_P hMξ (hYbξ _ (List.mem_of_getElem? (i := 1) rfl))) ((zp_set_ne (Or.inl (zM_ne hMξ (hYbξ _ (List.mem_of_getElem? (i := 1) rfl)) (hYbξ _ (List.mem_of_getElem? (i := 44) rfl)) (by decide)))).trans ((zp_set_ne (Or.inl (zM_ne hMξ (hYbξ _ (List.mem_of_getElem? (i := 1) rfl)) (hYbξ _ (List.mem_of_getElem? (i := 44) rfl)) (by decide)))).trans ((zp_set_ne (Or.inl (zM_ne hMξ (hYbξ _ (List.mem_of_getElem? (i := 1) rfl)) (hYbξ _ (List.mem_of_getElem? (i := 44) rfl)) (by decide)))).trans ((zp_set_ne (Or.inl (zM_ne hMξ (hYbξ _ (List.mem_of_getElem? (i := 1) rfl)) (hYbξ _ (List.mem_of_getElem? (i := 4) rfl)) (by decide)))).trans (((zM_G hMξ (hYbξ _ (List.mem_of_getElem? (i := 1) rfl)) 17).trans (hVξ 1 17 (by decide)))))))) ?_
  refine zp_kn (k := 17) (a := (A 1)) hwξ (show zp_fd 10 17 = some (9, 0, 0, (-2147483648), 2147483647) from rfl) rfl (zM_P hMξ (hYbξ _ (List.mem_of_getElem? (i := 1) rfl))) (fun hf443ξ => ?_)
  have hf443bξ := zp_int hf443ξ
  rw [((zp_set_ne (Or.inl (zM_ne hMξ (hYbξ _ (List.mem_of_getElem? (i := 1) rfl)) (hYbξ _ (List.mem_of_getElem? (i := 44) rfl)) (by decide)))).trans ((zp_set_ne (Or.inl (zM_ne hMξ (hYbξ _ (List.mem_of_getElem? (i := 1) rfl)) (hYbξ _ (List.mem_of_getElem? (i := 44) rfl)) (by decide)))).trans ((zp_set_ne (Or.inl (zM_ne hMξ (hYbξ _ (List.mem_of_getElem? (i := 1) rfl)) (hYbξ _ (List.mem_of_getElem? (i := 44) rfl)) (by decide)))).trans ((zp_set_ne (Or.inl (zM_ne hMξ (hYbξ _ (List.mem_of_getElem? (i := 1) rfl)) (hYbξ _ (List.mem_of_getElem? (i := 4) rfl)) (by decide)))).trans (((zM_G hMξ (hYbξ _ (List.mem_of_getElem? (i := 1) rfl)) 17).trans (hVξ 1 17 (by decide))))))))] at hf443bξ
  clear hf443ξ
  refine zp_iast (j := 8) (pc := 47) hx hb hwξ heffξ (zd_X6_about (47, .iastore, 1, 0, []) (List.mem_of_getElem? (i := 26) rfl)) (show zp_ia 1 27 = some (9, 0, 0, (-2147483648), 2147483647) from rfl) (zM_P hMξ (hYbξ _ (List.mem_of_getElem? (i := 44) rfl))) (by omega) (by omega) (zp_o0 (by omega) (by omega) (by omega) (by omega)) rfl ?_
  refine zp_vret (pc := 48) hx hb hEξ hQξ hU5ξ rfl (by decide) (zd_X6_about (48, .return_, 1, 0, []) (List.mem_of_getElem? (i := 27) rfl)) (j := 0) rfl ?_
  rw [hpsξ]
  refine ⟨rfl, ?_⟩
  refine ⟨(zp_set (zp_set (zp_set (zp_set (zp_set M 4 2 rnf440ξ) 66 (2000 + 0) p3ξ) 66 (2000 + 6) (V 8 3)) 66 (2000 + 7) (V 8 6)) 66 (2000 + 8) (V 1 17)), (zM_setE (zM_setE (zM_setE (zM_setE (zM_set hMξ (hYbξ _ (List.mem_of_getElem? (i := 4) rfl)) (zFx hFxξ (o := 4) (k := 2) (by decide) (by decide))) (hYbξ _ (List.mem_of_getElem? (i := 44) rfl))) (hYbξ _ (List.mem_of_getElem? (i := 44) rfl))) (hYbξ _ (List.mem_of_getElem? (i := 44) rfl))) (hYbξ _ (List.mem_of_getElem? (i := 44) rfl))), (zV_scr (zV_scr (zV_scr (zV_scr (zV_scr hVξ (by decide)) (by decide)) (by decide)) (by decide)) (by decide)), ⟨((zp_set_ne (Or.inr (by omega))).trans ((zp_set_ne (Or.inr (by omega))).trans ((zp_set_ne (Or.inr (by omega))).trans (zp_set_self)))), ((zp_set_ne (Or.inr (by omega))).trans ((zp_set_ne (Or.inr (by omega))).trans (zp_set_self))), ((zp_set_ne (Or.inr (by omega))).trans (zp_set_self)), zp_set_self⟩, fun j hjξ => ?_, ?_⟩
  · have h9ξ := zp_int (hwbξ j hjξ)
    rw [zM_G hMξ (hYbξ _ (List.mem_of_getElem? (i := 44) rfl))] at h9ξ
    have h3ξ : -2147483648 ≤ p3ξ ∧ p3ξ ≤ 2147483647 := ⟨by omega, by omega⟩
    have e6 : -2147483648 ≤ V 8 3 ∧ V 8 3 ≤ 2147483647 := by omega
    have e7 : -2147483648 ≤ V 8 6 ∧ V 8 6 ≤ 2147483647 := by omega
    have e8 : -2147483648 ≤ V 1 17 ∧ V 1 17 ≤ 2147483647 := by omega
    unfold zp_set
    repeat' split
    all_goals omega
  · rcases htf440ξ with ⟨e, e2⟩ | ⟨c, e, e2⟩
    · exact Or.inl ⟨((zp_set_ne (Or.inl (by decide))).trans ((zp_set_ne (Or.inl (by decide))).trans ((zp_set_ne (Or.inl (by decide))).trans ((zp_set_ne (Or.inl (by decide))).trans (zp_set_self))))).trans e, e2⟩
    · exact Or.inr ⟨c, ((zp_set_ne (Or.inl (by decide))).trans ((zp_set_ne (Or.inl (by decide))).trans ((zp_set_ne (Or.inl (by decide))).trans ((zp_set_ne (Or.inl (by decide))).trans (zp_set_self))))).trans e, e2⟩
