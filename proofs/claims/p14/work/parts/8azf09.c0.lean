/-! part c0: the parser's memory, exactly (pure) -/
/-- which of a row of numbers -/
noncomputable def ych : List Int → Int → Int → Int
  | [], _, _ => -1
  | x :: r, d, v => if v = x then d else ych r (d + 1) v
theorem ych_no {v : Int} : ∀ {L : List Int} {d : Int}, (∀ i, i < L.length → v ≠ L.getD i 0) → ych L d v = -1
  | [], _, _ => rfl
  | x :: r, d, h => by
    have h0 : v ≠ x := h 0 (Nat.zero_lt_succ _)
    show (if v = x then d else ych r (d + 1) v) = -1
    rw [if_neg h0]
    exact ych_no (fun i hi => h (i + 1) (Nat.succ_lt_succ hi))
theorem ych_at {v : Int} : ∀ {L : List Int} {d : Int} {i : Nat}, (∀ a b, a < b → b < L.length → L.getD a 0 ≠ L.getD b 0) → i < L.length → v = L.getD i 0 → ych L d v = d + (i : Int)
  | [], _, _, _, h, _ => absurd h (Nat.not_lt_zero _)
  | x :: r, d, 0, _, _, h => by
    have h : v = x := h
    show (if v = x then d else ych r (d + 1) v) = d + ((0 : Nat) : Int)
    rw [if_pos h]
    omega
  | x :: r, d, i + 1, hd, hi, h => by
    have hv : v = r.getD i 0 := h
    have hn : v ≠ x := fun e => hd 0 (i + 1) (Nat.zero_lt_succ _) hi (e.symm.trans hv)
    have ih := ych_at (L := r) (d := d + 1) (fun a b h1 h2 => hd (a + 1) (b + 1) (Nat.succ_lt_succ h1) (Nat.succ_lt_succ h2)) (Nat.lt_of_succ_lt_succ hi) hv
    show (if v = x then d else ych r (d + 1) v) = d + ((i + 1 : Nat) : Int)
    rw [if_neg hn, ih]
    omega
noncomputable def ywd : List Int := [21678547, 17292466, 278194, 542723566, 15660, 412766597, 402629, 4153, 441828]
noncomputable def ywo : List Int := [4153, 21678547, 402629, 146885, 5705892, 412766597, 398548]
noncomputable def ywh : List Int := [611795, 654480531, 24282707, 20383251, 67155]
theorem ywd_d : ∀ a b, a < b → b < ywd.length → ywd.getD a 0 ≠ ywd.getD b 0 := fun a b h1 h2 => by
  have h : ∀ b, b < 9 → ∀ a, a < b → ywd.getD a 0 ≠ ywd.getD b 0 := by decide
  exact h b h2 a h1
theorem ywo_d : ∀ a b, a < b → b < ywo.length → ywo.getD a 0 ≠ ywo.getD b 0 := fun a b h1 h2 => by
  have h : ∀ b, b < 7 → ∀ a, a < b → ywo.getD a 0 ≠ ywo.getD b 0 := by decide
  exact h b h2 a h1
theorem ywh_d : ∀ a b, a < b → b < ywh.length → ywh.getD a 0 ≠ ywh.getD b 0 := fun a b h1 h2 => by
  have h : ∀ b, b < 5 → ∀ a, a < b → ywh.getD a 0 ≠ ywh.getD b 0 := by decide
  exact h b h2 a h1
/-- a leaf: where it ends, what it is, its number -/
noncomputable def ylw (ord : Bool) (B : Nat → Int) (ln p : Nat) : Int := if zy_so B ln p = 1 then (if ord = true then ych ywo 1 (zy_wo B ln p) else ych ywd 1 (zy_wo B ln p)) else -1
noncomputable def ylf (ord : Bool) (B : Nat → Int) (ln p : Nat) : Nat ⊕ (Nat × Int × Int) :=
  if ylw ord B ln p = -1 then (if zy_so B ln p = 2 ∧ zy_wo B ln p ≤ 1000 then Sum.inr (zy_to B ln p, 0, zy_wo B ln p) else Sum.inl p)
  else if ord = true ∧ 6 ≤ ylw ord B ln p then (if zy_so B ln (zy_to B ln p) = 2 ∧ 0 ≤ zy_wo B ln (zy_to B ln p) ∧ zy_wo B ln (zy_to B ln p) ≤ (if ylw ord B ln p = 6 then 5 else 9) then Sum.inr (zy_to B ln (zy_to B ln p), ylw ord B ln p, zy_wo B ln (zy_to B ln p)) else Sum.inl (zy_to B ln p))
  else Sum.inr (zy_to B ln p, ylw ord B ln p, 0)
theorem ych_r : ∀ (L : List Int) (d v : Int), ych L d v = -1 ∨ (d ≤ ych L d v ∧ ych L d v < d + (L.length : Int))
  | [], _, _ => Or.inl rfl
  | x :: r, d, v => by
    have ih := ych_r r (d + 1) v
    have e : ((x :: r).length : Int) = (r.length : Int) + 1 := rfl
    show (if v = x then d else ych r (d + 1) v) = -1 ∨ _ ≤ (if v = x then d else ych r (d + 1) v) ∧ (if v = x then d else ych r (d + 1) v) < _
    split
    · right
      omega
    · rcases ih with ih | ih
      · exact Or.inl ih
      · right
        omega
theorem ylw_r (ord : Bool) (B : Nat → Int) (ln p : Nat) : ylw ord B ln p = -1 ∨ (1 ≤ ylw ord B ln p ∧ ylw ord B ln p ≤ 9 ∧ zy_so B ln p = 1 ∧ (ord = true → ylw ord B ln p ≤ 7)) := by
  unfold ylw
  by_cases h1 : zy_so B ln p = 1
  · rw [if_pos h1]
    cases ord with
    | true =>
      have := ych_r ywo 1 (zy_wo B ln p)
      have e : (ywo.length : Int) = 7 := rfl
      rw [if_pos rfl]
      rcases this with h | h
      · exact Or.inl h
      · exact Or.inr ⟨by omega, by omega, h1, fun _ => by omega⟩
    | false =>
      have := ych_r ywd 1 (zy_wo B ln p)
      have e : (ywd.length : Int) = 9 := rfl
      rw [if_neg (by decide)]
      rcases this with h | h
      · exact Or.inl h
      · exact Or.inr ⟨by omega, by omega, h1, fun z => absurd z (by decide)⟩
  · rw [if_neg h1]
    exact Or.inl rfl
theorem ylf_r {ord : Bool} {B : Nat → Int} {ln : Nat} : ∀ p p1 o a, ylf ord B ln p = Sum.inr (p1, o, a) → 0 ≤ o ∧ o ≤ 12 := by
  intro p p1 o a h
  have hr := ylw_r ord B ln p
  unfold ylf at h
  split at h
  · split at h
    · have h2 := Sum.inr.inj h
      rw [← (Prod.mk.inj (Prod.mk.inj h2).2).1]
      decide
    · cases h
  · rename_i hn
    split at h
    · generalize (if ylw ord B ln p = 6 then (5 : Int) else 9) = mo at h
      split at h
      · have h2 := Sum.inr.inj h
        rw [← (Prod.mk.inj (Prod.mk.inj h2).2).1]
        omega
      · cases h
    · have h2 := Sum.inr.inj h
      rw [← (Prod.mk.inj (Prod.mk.inj h2).2).1]
      omega
/-- a pile in two arrays -/
noncomputable def zDp (pl pa : Nat → Int) : List (Int × Int) → Prop
  | [] => True
  | e :: r => pl r.length = e.1 ∧ pa r.length = e.2 ∧ zDp pl pa r
theorem zDp_c {pl pa pl' pa' : Nat → Int} : ∀ {L : List (Int × Int)}, (∀ i, i < L.length → pl' i = pl i ∧ pa' i = pa i) → zDp pl pa L → zDp pl' pa' L
  | [], _, _ => trivial
  | e :: r, h, ⟨h1, h2, h3⟩ => ⟨(h r.length (Nat.lt_succ_self _)).1.trans h1, (h r.length (Nat.lt_succ_self _)).2.trans h2, zDp_c (fun i hi => h i (Nat.lt_succ_of_lt hi)) h3⟩
/-- the parser's memory: bad or not; the tape, the token, the leaves, the brackets, the pile, the code -/
noncomputable def zD (a : Nat) (G : Nat → Nat → Int) (bad : Int) (B : Nat → Int) (ln tk nl od : Nat) (pi : List (Int × Int)) (cd : yC) : Prop :=
  (G a 13 = (ln : Int) ∧ ln ≤ 400 ∧ tk ≤ ln ∧ (∀ j, zv G a 12 j = B j) ∧ ∀ j, 0 ≤ B j ∧ B j ≤ 255) ∧ (G a 14 = (zy_fr B ln tk : Int) ∧ G a 15 = (zy_to B ln tk : Int) ∧ G a 16 = (zy_so B ln tk : Int) ∧ G a 17 = zy_wo B ln tk) ∧ (G a 19 = bad ∧ (bad = 0 → G a 18 = -1)) ∧ (G a 23 = (cd.2.2 : Int) ∧ (∀ j, zv G a 24 j = cd.1 j) ∧ ∀ j, zv G a 25 j = cd.2.1 j) ∧ G a 26 = (nl : Int) ∧ (G a 29 = (pi.length : Int) ∧ zDp (zv G a 27) (zv G a 28) pi) ∧ G a 30 = (od : Int)
/-- fields, arrays that it speaks of -/
noncomputable def zDk (k : Nat) : Bool := k == 13 || (k == 14 || (k == 15 || (k == 16 || (k == 17 || (k == 18 || (k == 19 || (k == 23 || (k == 26 || (k == 29 || k == 30)))))))))
noncomputable def zDv (k : Nat) : Bool := k == 12 || (k == 24 || (k == 25 || (k == 27 || k == 28)))
theorem zD_congr {a : Nat} {G G' : Nat → Nat → Int} {bad : Int} {B : Nat → Int} {ln tk nl od : Nat} {pi : List (Int × Int)} {cd : yC} (h : zD a G bad B ln tk nl od pi cd) (hk : ∀ k, zDk k = true → G' a k = G a k) (hv : ∀ k, zDv k = true → ∀ j, zv G' a k j = zv G a k j) : zD a G' bad B ln tk nl od pi cd := by
  obtain ⟨⟨d13, dl, dt, d12, dB⟩, ⟨d14, d15, d16, d17⟩, ⟨d19, d18⟩, ⟨d23, d24, d25⟩, d26, ⟨d29, dp⟩, d30⟩ := h
  exact ⟨⟨(hk 13 rfl).trans d13, dl, dt, fun j => (hv 12 rfl j).trans (d12 j), dB⟩, ⟨(hk 14 rfl).trans d14, (hk 15 rfl).trans d15, (hk 16 rfl).trans d16, (hk 17 rfl).trans d17⟩, ⟨(hk 19 rfl).trans d19, fun z => (hk 18 rfl).trans (d18 z)⟩, ⟨(hk 23 rfl).trans d23, fun j => (hv 24 rfl j).trans (d24 j), fun j => (hv 25 rfl j).trans (d25 j)⟩, (hk 26 rfl).trans d26, ⟨(hk 29 rfl).trans d29, zDp_c (fun i _ => ⟨hv 27 rfl i, hv 28 rfl i⟩) dp⟩, (hk 30 rfl).trans d30⟩
theorem zv_sf {G : Nat → Nat → Int} {a b k kk j : Nat} {v : Int} (hk : k < 2000) (h : b ≠ a ∨ kk ≠ k) : zv (zp_set G a k v) b kk j = zv G b kk j := by
  unfold zv
  rw [zp_set_ne h]
  exact zp_set_ne (Or.inr (by omega))
/-- a field of it that is written -/
theorem zD_f {a k : Nat} {v : Int} {G : Nat → Nat → Int} {bad : Int} {B : Nat → Int} {ln tk nl od : Nat} {pi : List (Int × Int)} {cd : yC} (h : zD a G bad B ln tk nl od pi cd) (hk : zDk k = false) (hv : zDv k = false) (h2 : k < 2000) : zD a (zp_set G a k v) bad B ln tk nl od pi cd :=
  zD_congr h (fun k' hk' => zp_set_ne (Or.inr (fun e => by rw [e, hk] at hk'; cases hk'))) (fun k' hk' j => zv_sf h2 (Or.inr (fun e => by rw [e, hv] at hk'; cases hk')))
theorem zD_19 {a : Nat} {G : Nat → Nat → Int} {bad : Int} {B : Nat → Int} {ln tk nl od : Nat} {pi : List (Int × Int)} {cd : yC} (h : zD a G bad B ln tk nl od pi cd) : zD a (zp_set G a 19 1) 1 B ln tk nl od pi cd := by
  have hk : ∀ k, k ≠ 19 → zp_set G a 19 1 a k = G a k := fun k e => zp_set_ne (Or.inr e)
  have hv : ∀ k, k ≠ 19 → ∀ j, zv (zp_set G a 19 1) a k j = zv G a k j := fun k e j => zv_sf (by decide) (Or.inr e)
  obtain ⟨⟨d13, dl, dt, d12, dB⟩, ⟨d14, d15, d16, d17⟩, ⟨d19, d18⟩, ⟨d23, d24, d25⟩, d26, ⟨d29, dp⟩, d30⟩ := h
  exact ⟨⟨(hk 13 (by decide)).trans d13, dl, dt, fun j => (hv 12 (by decide) j).trans (d12 j), dB⟩, ⟨(hk 14 (by decide)).trans d14, (hk 15 (by decide)).trans d15, (hk 16 (by decide)).trans d16, (hk 17 (by decide)).trans d17⟩, ⟨zp_set_self, fun z => absurd z (by decide)⟩, ⟨(hk 23 (by decide)).trans d23, fun j => (hv 24 (by decide) j).trans (d24 j), fun j => (hv 25 (by decide) j).trans (d25 j)⟩, (hk 26 (by decide)).trans d26, ⟨(hk 29 (by decide)).trans d29, zDp_c (fun i _ => ⟨hv 27 (by decide) i, hv 28 (by decide) i⟩) dp⟩, (hk 30 (by decide)).trans d30⟩
theorem zD_18 {a : Nat} {v : Int} {G : Nat → Nat → Int} {B : Nat → Int} {ln tk nl od : Nat} {pi : List (Int × Int)} {cd : yC} (h : zD a G 1 B ln tk nl od pi cd) : zD a (zp_set G a 18 v) 1 B ln tk nl od pi cd := by
  have hk : ∀ k, k ≠ 18 → zp_set G a 18 v a k = G a k := fun k e => zp_set_ne (Or.inr e)
  have hv : ∀ k, k ≠ 18 → ∀ j, zv (zp_set G a 18 v) a k j = zv G a k j := fun k e j => zv_sf (by decide) (Or.inr e)
  obtain ⟨⟨d13, dl, dt, d12, dB⟩, ⟨d14, d15, d16, d17⟩, ⟨d19, d18⟩, ⟨d23, d24, d25⟩, d26, ⟨d29, dp⟩, d30⟩ := h
  exact ⟨⟨(hk 13 (by decide)).trans d13, dl, dt, fun j => (hv 12 (by decide) j).trans (d12 j), dB⟩, ⟨(hk 14 (by decide)).trans d14, (hk 15 (by decide)).trans d15, (hk 16 (by decide)).trans d16, (hk 17 (by decide)).trans d17⟩, ⟨(hk 19 (by decide)).trans d19, fun z => absurd z (by decide)⟩, ⟨(hk 23 (by decide)).trans d23, fun j => (hv 24 (by decide) j).trans (d24 j), fun j => (hv 25 (by decide) j).trans (d25 j)⟩, (hk 26 (by decide)).trans d26, ⟨(hk 29 (by decide)).trans d29, zDp_c (fun i _ => ⟨hv 27 (by decide) i, hv 28 (by decide) i⟩) dp⟩, (hk 30 (by decide)).trans d30⟩
theorem zD_26 {a nl' : Nat} {v : Int} {G : Nat → Nat → Int} {bad : Int} {B : Nat → Int} {ln tk nl od : Nat} {pi : List (Int × Int)} {cd : yC} (h : zD a G bad B ln tk nl od pi cd) (e : v = (nl' : Int)) : zD a (zp_set G a 26 v) bad B ln tk nl' od pi cd := by
  have hk : ∀ k, k ≠ 26 → zp_set G a 26 v a k = G a k := fun k e => zp_set_ne (Or.inr e)
  have hv : ∀ k, k ≠ 26 → ∀ j, zv (zp_set G a 26 v) a k j = zv G a k j := fun k e j => zv_sf (by decide) (Or.inr e)
  obtain ⟨⟨d13, dl, dt, d12, dB⟩, ⟨d14, d15, d16, d17⟩, ⟨d19, d18⟩, ⟨d23, d24, d25⟩, d26, ⟨d29, dp⟩, d30⟩ := h
  exact ⟨⟨(hk 13 (by decide)).trans d13, dl, dt, fun j => (hv 12 (by decide) j).trans (d12 j), dB⟩, ⟨(hk 14 (by decide)).trans d14, (hk 15 (by decide)).trans d15, (hk 16 (by decide)).trans d16, (hk 17 (by decide)).trans d17⟩, ⟨(hk 19 (by decide)).trans d19, fun z => (hk 18 (by decide)).trans (d18 z)⟩, ⟨(hk 23 (by decide)).trans d23, fun j => (hv 24 (by decide) j).trans (d24 j), fun j => (hv 25 (by decide) j).trans (d25 j)⟩, zp_set_self.trans e, ⟨(hk 29 (by decide)).trans d29, zDp_c (fun i _ => ⟨hv 27 (by decide) i, hv 28 (by decide) i⟩) dp⟩, (hk 30 (by decide)).trans d30⟩
theorem zD_30 {a od' : Nat} {v : Int} {G : Nat → Nat → Int} {bad : Int} {B : Nat → Int} {ln tk nl od : Nat} {pi : List (Int × Int)} {cd : yC} (h : zD a G bad B ln tk nl od pi cd) (e : v = (od' : Int)) : zD a (zp_set G a 30 v) bad B ln tk nl od' pi cd := by
  have hk : ∀ k, k ≠ 30 → zp_set G a 30 v a k = G a k := fun k e => zp_set_ne (Or.inr e)
  have hv : ∀ k, k ≠ 30 → ∀ j, zv (zp_set G a 30 v) a k j = zv G a k j := fun k e j => zv_sf (by decide) (Or.inr e)
  obtain ⟨⟨d13, dl, dt, d12, dB⟩, ⟨d14, d15, d16, d17⟩, ⟨d19, d18⟩, ⟨d23, d24, d25⟩, d26, ⟨d29, dp⟩, d30⟩ := h
  exact ⟨⟨(hk 13 (by decide)).trans d13, dl, dt, fun j => (hv 12 (by decide) j).trans (d12 j), dB⟩, ⟨(hk 14 (by decide)).trans d14, (hk 15 (by decide)).trans d15, (hk 16 (by decide)).trans d16, (hk 17 (by decide)).trans d17⟩, ⟨(hk 19 (by decide)).trans d19, fun z => (hk 18 (by decide)).trans (d18 z)⟩, ⟨(hk 23 (by decide)).trans d23, fun j => (hv 24 (by decide) j).trans (d24 j), fun j => (hv 25 (by decide) j).trans (d25 j)⟩, (hk 26 (by decide)).trans d26, ⟨(hk 29 (by decide)).trans d29, zDp_c (fun i _ => ⟨hv 27 (by decide) i, hv 28 (by decide) i⟩) dp⟩, zp_set_self.trans e⟩
theorem zD_23 {a : Nat} {nc' : Nat} {v : Int} {G : Nat → Nat → Int} {bad : Int} {B : Nat → Int} {ln tk nl od : Nat} {pi : List (Int × Int)} {cd : yC} (h : zD a G bad B ln tk nl od pi cd) (e : v = (nc' : Int)) : zD a (zp_set G a 23 v) bad B ln tk nl od pi (cd.1, cd.2.1, nc') := by
  have hk : ∀ k, k ≠ 23 → zp_set G a 23 v a k = G a k := fun k e => zp_set_ne (Or.inr e)
  have hv : ∀ k, k ≠ 23 → ∀ j, zv (zp_set G a 23 v) a k j = zv G a k j := fun k e j => zv_sf (by decide) (Or.inr e)
  obtain ⟨⟨d13, dl, dt, d12, dB⟩, ⟨d14, d15, d16, d17⟩, ⟨d19, d18⟩, ⟨d23, d24, d25⟩, d26, ⟨d29, dp⟩, d30⟩ := h
  exact ⟨⟨(hk 13 (by decide)).trans d13, dl, dt, fun j => (hv 12 (by decide) j).trans (d12 j), dB⟩, ⟨(hk 14 (by decide)).trans d14, (hk 15 (by decide)).trans d15, (hk 16 (by decide)).trans d16, (hk 17 (by decide)).trans d17⟩, ⟨(hk 19 (by decide)).trans d19, fun z => (hk 18 (by decide)).trans (d18 z)⟩, ⟨zp_set_self.trans e, fun j => (hv 24 (by decide) j).trans (d24 j), fun j => (hv 25 (by decide) j).trans (d25 j)⟩, (hk 26 (by decide)).trans d26, ⟨(hk 29 (by decide)).trans d29, zDp_c (fun i _ => ⟨hv 27 (by decide) i, hv 28 (by decide) i⟩) dp⟩, (hk 30 (by decide)).trans d30⟩
/-- the pile's length is told anew: what stands there is a pile of it -/
theorem zD_29 {a : Nat} {v : Int} {G : Nat → Nat → Int} {bad : Int} {B : Nat → Int} {ln tk nl od : Nat} {pi pi' : List (Int × Int)} {cd : yC} (h : zD a G bad B ln tk nl od pi cd) (e : v = (pi'.length : Int)) (hp : zDp (zv G a 27) (zv G a 28) pi') : zD a (zp_set G a 29 v) bad B ln tk nl od pi' cd := by
  have hk : ∀ k, k ≠ 29 → zp_set G a 29 v a k = G a k := fun k e => zp_set_ne (Or.inr e)
  have hv : ∀ k, k ≠ 29 → ∀ j, zv (zp_set G a 29 v) a k j = zv G a k j := fun k e j => zv_sf (by decide) (Or.inr e)
  obtain ⟨⟨d13, dl, dt, d12, dB⟩, ⟨d14, d15, d16, d17⟩, ⟨d19, d18⟩, ⟨d23, d24, d25⟩, d26, ⟨d29, dp⟩, d30⟩ := h
  exact ⟨⟨(hk 13 (by decide)).trans d13, dl, dt, fun j => (hv 12 (by decide) j).trans (d12 j), dB⟩, ⟨(hk 14 (by decide)).trans d14, (hk 15 (by decide)).trans d15, (hk 16 (by decide)).trans d16, (hk 17 (by decide)).trans d17⟩, ⟨(hk 19 (by decide)).trans d19, fun z => (hk 18 (by decide)).trans (d18 z)⟩, ⟨(hk 23 (by decide)).trans d23, fun j => (hv 24 (by decide) j).trans (d24 j), fun j => (hv 25 (by decide) j).trans (d25 j)⟩, (hk 26 (by decide)).trans d26, ⟨zp_set_self.trans e, zDp_c (fun i _ => ⟨hv 27 (by decide) i, hv 28 (by decide) i⟩) hp⟩, (hk 30 (by decide)).trans d30⟩
/-- an array's place that is written -/
theorem zv_sg {G : Nat → Nat → Int} {a b k j n d : Nat} {v : Int} (hb : b ≠ a) (hc : G a k = (d : Int)) : zv (zp_set G b (2000 + n) v) a k j = if d = b ∧ j = n then v else zv G a k j := by
  have e : zp_set G b (2000 + n) v a k = (d : Int) := (zp_set_ne (Or.inl (fun z => hb z.symm))).trans hc
  rw [zv_eq e, zv_eq hc]
  by_cases h : d = b ∧ j = n
  · rw [if_pos h]
    exact zp_set_eq h.1 (by rw [h.2])
  · rw [if_neg h]
    refine zp_set_ne ?_
    by_cases h1 : d = b
    · exact Or.inr (fun z => h ⟨h1, by omega⟩)
    · exact Or.inl h1
/-- where the arrays lie -/
noncomputable def zDb (a : Nat) (G : Nat → Nat → Int) (b12 b24 b25 b27 b28 : Nat) : Prop := (G a 12 = (b12 : Int) ∧ G a 24 = (b24 : Int) ∧ G a 25 = (b25 : Int) ∧ G a 27 = (b27 : Int) ∧ G a 28 = (b28 : Int)) ∧ (b24 ≠ a ∧ b25 ≠ a ∧ b27 ≠ a ∧ b28 ≠ a) ∧ (b12 ≠ b24 ∧ b12 ≠ b25 ∧ b12 ≠ b27 ∧ b12 ≠ b28) ∧ b24 ≠ b25 ∧ b24 ≠ b27 ∧ b24 ≠ b28 ∧ b25 ≠ b27 ∧ b25 ≠ b28 ∧ b27 ≠ b28
theorem zDb_s {a b k : Nat} {v : Int} {G : Nat → Nat → Int} {b12 b24 b25 b27 b28 : Nat} (h : zDb a G b12 b24 b25 b27 b28) (hb : b ≠ a ∨ zDv k = false) : zDb a (zp_set G b k v) b12 b24 b25 b27 b28 := by
  have e : ∀ k', zDv k' = true → zp_set G b k v a k' = G a k' := fun k' h' => zp_set_ne (by
    rcases hb with hb | hb
    · exact Or.inl (fun z => hb z.symm)
    · exact Or.inr (fun z => by rw [z, hb] at h'; cases h'))
  obtain ⟨⟨h1, h2, h3, h4, h5⟩, h6⟩ := h
  exact ⟨⟨(e 12 rfl).trans h1, (e 24 rfl).trans h2, (e 25 rfl).trans h3, (e 27 rfl).trans h4, (e 28 rfl).trans h5⟩, h6⟩
theorem zD_w24 {a n : Nat} {v : Int} {G : Nat → Nat → Int} {bad : Int} {B : Nat → Int} {ln tk nl od : Nat} {pi : List (Int × Int)} {cd : yC} {b12 b24 b25 b27 b28 : Nat} (h : zD a G bad B ln tk nl od pi cd) (hb : zDb a G b12 b24 b25 b27 b28) : zD a (zp_set G b24 (2000 + n) v) bad B ln tk nl od pi (yu cd.1 n v, cd.2.1, cd.2.2) := by
  obtain ⟨⟨e12, e24, e25, e27, e28⟩, ⟨h24, h25, h27, h28⟩, ⟨q1, q2, q3, q4⟩, q5, q6, q7, q8, q9, q0⟩ := hb
  have hk : ∀ k, zp_set G b24 (2000 + n) v a k = G a k := fun k => zp_set_ne (Or.inl (fun z => h24 z.symm))
  obtain ⟨⟨d13, dl, dt, d12, dB⟩, ⟨d14, d15, d16, d17⟩, ⟨d19, d18⟩, ⟨d23, d24, d25⟩, d26, ⟨d29, dp⟩, d30⟩ := h
  have v12 : ∀ j, zv (zp_set G b24 (2000 + n) v) a 12 j = zv G a 12 j := fun j => (zv_sg h24 e12).trans (if_neg (fun z => q1 z.1))
  have v25 : ∀ j, zv (zp_set G b24 (2000 + n) v) a 25 j = zv G a 25 j := fun j => (zv_sg h24 e25).trans (if_neg (fun z => q5 z.1.symm))
  have v27 : ∀ j, zv (zp_set G b24 (2000 + n) v) a 27 j = zv G a 27 j := fun j => (zv_sg h24 e27).trans (if_neg (fun z => q6 z.1.symm))
  have v28 : ∀ j, zv (zp_set G b24 (2000 + n) v) a 28 j = zv G a 28 j := fun j => (zv_sg h24 e28).trans (if_neg (fun z => q7 z.1.symm))
  have w24 : ∀ j, zv (zp_set G b24 (2000 + n) v) a 24 j = yu cd.1 n v j := fun j => by
    rw [zv_sg h24 e24]
    by_cases z : j = n
    · rw [if_pos ⟨rfl, z⟩, z]; exact yu_at.symm
    · rw [if_neg (fun y => z y.2)]; exact (d24 j).trans (yu_ne z).symm
  exact ⟨⟨(hk 13).trans d13, dl, dt, fun j => (v12 j).trans (d12 j), dB⟩, ⟨(hk 14).trans d14, (hk 15).trans d15, (hk 16).trans d16, (hk 17).trans d17⟩, ⟨(hk 19).trans d19, fun z => (hk 18).trans (d18 z)⟩, ⟨(hk 23).trans d23, w24, fun j => (v25 j).trans (d25 j)⟩, (hk 26).trans d26, ⟨(hk 29).trans d29, zDp_c (fun i hi => ⟨v27 i, v28 i⟩) dp⟩, (hk 30).trans d30⟩
theorem zD_w25 {a n : Nat} {v : Int} {G : Nat → Nat → Int} {bad : Int} {B : Nat → Int} {ln tk nl od : Nat} {pi : List (Int × Int)} {cd : yC} {b12 b24 b25 b27 b28 : Nat} (h : zD a G bad B ln tk nl od pi cd) (hb : zDb a G b12 b24 b25 b27 b28) : zD a (zp_set G b25 (2000 + n) v) bad B ln tk nl od pi (cd.1, yu cd.2.1 n v, cd.2.2) := by
  obtain ⟨⟨e12, e24, e25, e27, e28⟩, ⟨h24, h25, h27, h28⟩, ⟨q1, q2, q3, q4⟩, q5, q6, q7, q8, q9, q0⟩ := hb
  have hk : ∀ k, zp_set G b25 (2000 + n) v a k = G a k := fun k => zp_set_ne (Or.inl (fun z => h25 z.symm))
  obtain ⟨⟨d13, dl, dt, d12, dB⟩, ⟨d14, d15, d16, d17⟩, ⟨d19, d18⟩, ⟨d23, d24, d25⟩, d26, ⟨d29, dp⟩, d30⟩ := h
  have v12 : ∀ j, zv (zp_set G b25 (2000 + n) v) a 12 j = zv G a 12 j := fun j => (zv_sg h25 e12).trans (if_neg (fun z => q2 z.1))
  have v24 : ∀ j, zv (zp_set G b25 (2000 + n) v) a 24 j = zv G a 24 j := fun j => (zv_sg h25 e24).trans (if_neg (fun z => q5 z.1))
  have v27 : ∀ j, zv (zp_set G b25 (2000 + n) v) a 27 j = zv G a 27 j := fun j => (zv_sg h25 e27).trans (if_neg (fun z => q8 z.1.symm))
  have v28 : ∀ j, zv (zp_set G b25 (2000 + n) v) a 28 j = zv G a 28 j := fun j => (zv_sg h25 e28).trans (if_neg (fun z => q9 z.1.symm))
  have w25 : ∀ j, zv (zp_set G b25 (2000 + n) v) a 25 j = yu cd.2.1 n v j := fun j => by
    rw [zv_sg h25 e25]
    by_cases z : j = n
    · rw [if_pos ⟨rfl, z⟩, z]; exact yu_at.symm
    · rw [if_neg (fun y => z y.2)]; exact (d25 j).trans (yu_ne z).symm
  exact ⟨⟨(hk 13).trans d13, dl, dt, fun j => (v12 j).trans (d12 j), dB⟩, ⟨(hk 14).trans d14, (hk 15).trans d15, (hk 16).trans d16, (hk 17).trans d17⟩, ⟨(hk 19).trans d19, fun z => (hk 18).trans (d18 z)⟩, ⟨(hk 23).trans d23, fun j => (v24 j).trans (d24 j), w25⟩, (hk 26).trans d26, ⟨(hk 29).trans d29, zDp_c (fun i hi => ⟨v27 i, v28 i⟩) dp⟩, (hk 30).trans d30⟩
theorem zD_w27 {a n : Nat} {v : Int} {G : Nat → Nat → Int} {bad : Int} {B : Nat → Int} {ln tk nl od : Nat} {pi : List (Int × Int)} {cd : yC} {b12 b24 b25 b27 b28 : Nat} (h : zD a G bad B ln tk nl od pi cd) (hb : zDb a G b12 b24 b25 b27 b28) (hn : pi.length ≤ n) : zD a (zp_set G b27 (2000 + n) v) bad B ln tk nl od pi cd := by
  obtain ⟨⟨e12, e24, e25, e27, e28⟩, ⟨h24, h25, h27, h28⟩, ⟨q1, q2, q3, q4⟩, q5, q6, q7, q8, q9, q0⟩ := hb
  have hk : ∀ k, zp_set G b27 (2000 + n) v a k = G a k := fun k => zp_set_ne (Or.inl (fun z => h27 z.symm))
  obtain ⟨⟨d13, dl, dt, d12, dB⟩, ⟨d14, d15, d16, d17⟩, ⟨d19, d18⟩, ⟨d23, d24, d25⟩, d26, ⟨d29, dp⟩, d30⟩ := h
  have v12 : ∀ j, zv (zp_set G b27 (2000 + n) v) a 12 j = zv G a 12 j := fun j => (zv_sg h27 e12).trans (if_neg (fun z => q3 z.1))
  have v24 : ∀ j, zv (zp_set G b27 (2000 + n) v) a 24 j = zv G a 24 j := fun j => (zv_sg h27 e24).trans (if_neg (fun z => q6 z.1))
  have v25 : ∀ j, zv (zp_set G b27 (2000 + n) v) a 25 j = zv G a 25 j := fun j => (zv_sg h27 e25).trans (if_neg (fun z => q8 z.1))
  have v28 : ∀ j, zv (zp_set G b27 (2000 + n) v) a 28 j = zv G a 28 j := fun j => (zv_sg h27 e28).trans (if_neg (fun z => q0 z.1.symm))
  have v27 : ∀ j, j < n → zv (zp_set G b27 (2000 + n) v) a 27 j = zv G a 27 j := fun j hj => by
    rw [zv_sg h27 e27, if_neg (fun y => by omega)]
  exact ⟨⟨(hk 13).trans d13, dl, dt, fun j => (v12 j).trans (d12 j), dB⟩, ⟨(hk 14).trans d14, (hk 15).trans d15, (hk 16).trans d16, (hk 17).trans d17⟩, ⟨(hk 19).trans d19, fun z => (hk 18).trans (d18 z)⟩, ⟨(hk 23).trans d23, fun j => (v24 j).trans (d24 j), fun j => (v25 j).trans (d25 j)⟩, (hk 26).trans d26, ⟨(hk 29).trans d29, zDp_c (fun i hi => ⟨v27 i (by omega), v28 i⟩) dp⟩, (hk 30).trans d30⟩
theorem zD_w28 {a n : Nat} {v : Int} {G : Nat → Nat → Int} {bad : Int} {B : Nat → Int} {ln tk nl od : Nat} {pi : List (Int × Int)} {cd : yC} {b12 b24 b25 b27 b28 : Nat} (h : zD a G bad B ln tk nl od pi cd) (hb : zDb a G b12 b24 b25 b27 b28) (hn : pi.length ≤ n) : zD a (zp_set G b28 (2000 + n) v) bad B ln tk nl od pi cd := by
  obtain ⟨⟨e12, e24, e25, e27, e28⟩, ⟨h24, h25, h27, h28⟩, ⟨q1, q2, q3, q4⟩, q5, q6, q7, q8, q9, q0⟩ := hb
  have hk : ∀ k, zp_set G b28 (2000 + n) v a k = G a k := fun k => zp_set_ne (Or.inl (fun z => h28 z.symm))
  obtain ⟨⟨d13, dl, dt, d12, dB⟩, ⟨d14, d15, d16, d17⟩, ⟨d19, d18⟩, ⟨d23, d24, d25⟩, d26, ⟨d29, dp⟩, d30⟩ := h
  have v12 : ∀ j, zv (zp_set G b28 (2000 + n) v) a 12 j = zv G a 12 j := fun j => (zv_sg h28 e12).trans (if_neg (fun z => q4 z.1))
  have v24 : ∀ j, zv (zp_set G b28 (2000 + n) v) a 24 j = zv G a 24 j := fun j => (zv_sg h28 e24).trans (if_neg (fun z => q7 z.1))
  have v25 : ∀ j, zv (zp_set G b28 (2000 + n) v) a 25 j = zv G a 25 j := fun j => (zv_sg h28 e25).trans (if_neg (fun z => q9 z.1))
  have v27 : ∀ j, zv (zp_set G b28 (2000 + n) v) a 27 j = zv G a 27 j := fun j => (zv_sg h28 e27).trans (if_neg (fun z => q0 z.1))
  have v28 : ∀ j, j < n → zv (zp_set G b28 (2000 + n) v) a 28 j = zv G a 28 j := fun j hj => by
    rw [zv_sg h28 e28, if_neg (fun y => by omega)]
  exact ⟨⟨(hk 13).trans d13, dl, dt, fun j => (v12 j).trans (d12 j), dB⟩, ⟨(hk 14).trans d14, (hk 15).trans d15, (hk 16).trans d16, (hk 17).trans d17⟩, ⟨(hk 19).trans d19, fun z => (hk 18).trans (d18 z)⟩, ⟨(hk 23).trans d23, fun j => (v24 j).trans (d24 j), fun j => (v25 j).trans (d25 j)⟩, (hk 26).trans d26, ⟨(hk 29).trans d29, zDp_c (fun i hi => ⟨v27 i, v28 i (by omega)⟩) dp⟩, (hk 30).trans d30⟩
/-- the token is told anew -/
theorem zD_tok {a tk' : Nat} {G G' : Nat → Nat → Int} {bad : Int} {B : Nat → Int} {ln tk nl od : Nat} {pi : List (Int × Int)} {cd : yC} (h : zD a G bad B ln tk nl od pi cd) (hk : ∀ k, k ≠ 14 → k ≠ 15 → k ≠ 16 → k ≠ 17 → G' a k = G a k) (hb : ∀ b j, b ≠ a → G' b j = G b j) (ht : tk' ≤ ln) (h14 : G' a 14 = (zy_fr B ln tk' : Int)) (h15 : G' a 15 = (zy_to B ln tk' : Int)) (h16 : G' a 16 = (zy_so B ln tk' : Int)) (h17 : G' a 17 = zy_wo B ln tk') : zD a G' bad B ln tk' nl od pi cd := by
  have hv : ∀ k, k ≠ 14 → k ≠ 15 → k ≠ 16 → k ≠ 17 → ∀ j, zv G' a k j = zv G a k j := fun k k1 k2 k3 k4 j => by
    unfold zv
    rw [hk k k1 k2 k3 k4]
    by_cases e : (G a k).toNat = a
    · rw [e]
      exact hk _ (by omega) (by omega) (by omega) (by omega)
    · exact hb _ _ e
  obtain ⟨⟨d13, dl, dt, d12, dB⟩, ⟨d14, d15, d16, d17⟩, ⟨d19, d18⟩, ⟨d23, d24, d25⟩, d26, ⟨d29, dp⟩, d30⟩ := h
  exact ⟨⟨(hk 13 (by decide) (by decide) (by decide) (by decide)).trans d13, dl, ht, fun j => (hv 12 (by decide) (by decide) (by decide) (by decide) j).trans (d12 j), dB⟩, ⟨h14, h15, h16, h17⟩, ⟨(hk 19 (by decide) (by decide) (by decide) (by decide)).trans d19, fun z => (hk 18 (by decide) (by decide) (by decide) (by decide)).trans (d18 z)⟩, ⟨(hk 23 (by decide) (by decide) (by decide) (by decide)).trans d23, fun j => (hv 24 (by decide) (by decide) (by decide) (by decide) j).trans (d24 j), fun j => (hv 25 (by decide) (by decide) (by decide) (by decide) j).trans (d25 j)⟩, (hk 26 (by decide) (by decide) (by decide) (by decide)).trans d26, ⟨(hk 29 (by decide) (by decide) (by decide) (by decide)).trans d29, zDp_c (fun i _ => ⟨hv 27 (by decide) (by decide) (by decide) (by decide) i, hv 28 (by decide) (by decide) (by decide) (by decide) i⟩) dp⟩, (hk 30 (by decide) (by decide) (by decide) (by decide)).trans d30⟩
/-- the next token is read: what is asked, what it tells -/
noncomputable def zDy (a : Nat) (G : Nat → Nat → Int) (B : Nat → Int) (ln q : Nat) : Prop := (G a 13 = (ln : Int) ∧ ln ≤ 400 ∧ q ≤ ln ∧ ∀ j, zv G a 12 j = B j) ∧ (∀ j, 0 ≤ B j ∧ B j ≤ 255) ∧ G a 15 = (q : Int)
noncomputable def zDx (a : Nat) (G G' : Nat → Nat → Int) (B : Nat → Int) (ln q : Nat) : Prop := (∀ k, k ≠ 14 → k ≠ 15 → k ≠ 16 → k ≠ 17 → G' a k = G a k) ∧ (∀ b j, b ≠ a → G' b j = G b j) ∧ G' a 14 = (zy_fr B ln q : Int) ∧ G' a 15 = (zy_to B ln q : Int) ∧ G' a 16 = (zy_so B ln q : Int) ∧ G' a 17 = zy_wo B ln q
theorem zD_y {a : Nat} {G : Nat → Nat → Int} {bad : Int} {B : Nat → Int} {ln tk nl od : Nat} {pi : List (Int × Int)} {cd : yC} (h : zD a G bad B ln tk nl od pi cd) : zDy a G B ln (zy_to B ln tk) := by
  obtain ⟨⟨d13, dl, dt, d12, dB⟩, ⟨d14, d15, d16, d17⟩, -⟩ := h
  exact ⟨⟨d13, dl, (zy_to_le dt).2.1, d12⟩, dB, d15⟩
theorem zDx_v {a : Nat} {G G' : Nat → Nat → Int} {B : Nat → Int} {ln q k : Nat} (hx : zDx a G G' B ln q) (k1 : k ≠ 14) (k2 : k ≠ 15) (k3 : k ≠ 16) (k4 : k ≠ 17) (j : Nat) : zv G' a k j = zv G a k j := by
  obtain ⟨hk, hb, -⟩ := hx
  unfold zv
  rw [hk k k1 k2 k3 k4]
  by_cases e : (G a k).toNat = a
  · rw [e]
    exact hk _ (by omega) (by omega) (by omega) (by omega)
  · exact hb _ _ e
theorem zD_nx {a : Nat} {G G' : Nat → Nat → Int} {bad : Int} {B : Nat → Int} {ln tk nl od : Nat} {pi : List (Int × Int)} {cd : yC} (h : zD a G bad B ln tk nl od pi cd) (hx : zDx a G G' B ln (zy_to B ln tk)) : zD a G' bad B ln (zy_to B ln tk) nl od pi cd := by
  obtain ⟨hk, hb, h14, h15, h16, h17⟩ := hx
  exact zD_tok h hk hb (zy_to_le h.1.2.2.1).2.1 h14 h15 h16 h17
/-- what is sure of pile and code: they came of tokens ahead of F -/
noncomputable def zDe : List (Int × Int) → Nat
  | [] => 0
  | e :: r => (if e.1 = 29 ∨ e.1 = 30 then 0 else 1) + zDe r
noncomputable def zDq (nc : Nat) (e : Int × Int) : Prop := 20 ≤ e.1 ∧ e.1 ≤ 32 ∧ (e.1 = 29 ∨ e.1 = 30 → 0 ≤ e.2 ∧ e.2 < (nc : Int)) ∧ -2147483648 ≤ e.2 ∧ e.2 ≤ 2147483647
noncomputable def zDj (F : Nat) (pi : List (Int × Int)) (cd : yC) : Prop := cd.2.2 + zDe pi ≤ F ∧ pi.length ≤ F ∧ ∀ e ∈ pi, zDq cd.2.2 e
theorem zDq_le {n m : Nat} {e : Int × Int} (h : zDq n e) (hm : n ≤ m) : zDq m e := ⟨h.1, h.2.1, fun z => ⟨(h.2.2.1 z).1, by have := (h.2.2.1 z).2; omega⟩, h.2.2.2⟩
theorem zDj_le {F F' : Nat} {pi : List (Int × Int)} {cd : yC} (h : zDj F pi cd) (hF : F ≤ F') : zDj F' pi cd := ⟨Nat.le_trans h.1 hF, Nat.le_trans h.2.1 hF, h.2.2⟩
theorem zDj_hd {F : Nat} {e : Int × Int} {r : List (Int × Int)} {cd : yC} (h : zDj F (e :: r) cd) : zDq cd.2.2 e ∧ cd.2.2 + zDe r + (if e.1 = 29 ∨ e.1 = 30 then 0 else 1) ≤ F ∧ r.length + 1 ≤ F := by
  have h1 : cd.2.2 + ((if e.1 = 29 ∨ e.1 = 30 then 0 else 1) + zDe r) ≤ F := h.1
  exact ⟨h.2.2 e List.mem_cons_self, by omega, h.2.1⟩
theorem zDj_e1 {F : Nat} {o t : Int} {r : List (Int × Int)} {cd : yC} (h : zDj F ((o, t) :: r) cd) : zDj F r (ym_e1 o t cd) := by
  obtain ⟨h1, h2, h3⟩ := zDj_hd h
  unfold ym_e1
  split
  · rename_i ho
    exact ⟨by show cd.2.2 + zDe r ≤ F; omega, by omega, fun e he => h.2.2 e (List.mem_cons_of_mem _ he)⟩
  · rename_i ho
    have h2 : cd.2.2 + zDe r + (if o = 29 ∨ o = 30 then 0 else 1) ≤ F := h2
    rw [if_neg ho] at h2
    exact ⟨by show cd.2.2 + 1 + zDe r ≤ F; omega, by omega, fun e he => zDq_le (h.2.2 e (List.mem_cons_of_mem _ he)) (Nat.le_succ _)⟩
theorem zDj_se {F : Nat} {least : Int} : ∀ {pi : List (Int × Int)} {cd : yC}, zDj F pi cd → zDj F (ym_se least pi cd).1 (ym_se least pi cd).2
  | [], cd, h => h
  | (o, t) :: r, cd, h => by
    show zDj F (if least ≤ zbinds o then ym_se least r (ym_e1 o t cd) else ((o, t) :: r, cd)).1 (if least ≤ zbinds o then ym_se least r (ym_e1 o t cd) else ((o, t) :: r, cd)).2
    split
    · exact zDj_se (zDj_e1 h)
    · exact h
theorem zDj_push {F F' : Nat} {o : Int} {pi : List (Int × Int)} {cd : yC} (h : zDj F pi cd) (hF : F + 1 ≤ F') (h1 : 20 ≤ o) (h2 : o ≤ 32) (h3 : ¬ (o = 29 ∨ o = 30)) : zDj F' ((o, 0) :: pi) cd := by
  refine ⟨?_, by have : ((o, (0 : Int)) :: pi).length = pi.length + 1 := rfl; have := h.2.1; omega, fun e he => ?_⟩
  · show cd.2.2 + ((if o = 29 ∨ o = 30 then 0 else 1) + zDe pi) ≤ F'
    rw [if_neg h3]
    have := h.1
    omega
  · rcases List.mem_cons.mp he with rfl | he
    · exact ⟨h1, h2, fun z => absurd z h3, by show (-2147483648 : Int) ≤ 0; decide, by show (0 : Int) ≤ 2147483647; decide⟩
    · exact h.2.2 e he
theorem zDj_ao {F F' : Nat} {o : Int} {pi : List (Int × Int)} {cd : yC} (h : zDj F pi cd) (hF : F + 1 ≤ F') (hF4 : F' ≤ 400) (h3 : o = 29 ∨ o = 30) : zDj F' ((o, (cd.2.2 : Int)) :: pi) (ym_mk o cd) := by
  have e1 : (ym_mk o cd).2.2 = cd.2.2 + 1 := rfl
  have h1 := h.1
  refine ⟨?_, by have : ((o, (cd.2.2 : Int)) :: pi).length = pi.length + 1 := rfl; have := h.2.1; omega, fun e he => ?_⟩
  · show cd.2.2 + 1 + ((if o = 29 ∨ o = 30 then 0 else 1) + zDe pi) ≤ F'
    rw [if_pos h3]
    omega
  · rw [e1]
    rcases List.mem_cons.mp he with rfl | he
    · exact ⟨by show 20 ≤ o; omega, by show o ≤ 32; omega, fun _ => ⟨by show (0 : Int) ≤ (cd.2.2 : Int); omega, by show (cd.2.2 : Int) < ((cd.2.2 + 1 : Nat) : Int); omega⟩, by show (-2147483648 : Int) ≤ (cd.2.2 : Int); omega, by show (cd.2.2 : Int) ≤ 2147483647; omega⟩
    · exact zDq_le (h.2.2 e he) (Nat.le_succ _)
theorem zDj_leaf {F F' : Nat} {o t : Int} {pi : List (Int × Int)} {cd : yC} (h : zDj F pi cd) (hF : F + 1 ≤ F') : zDj F' pi (yu cd.1 cd.2.2 o, yu cd.2.1 cd.2.2 t, cd.2.2 + 1) :=
  ⟨by have := h.1; show cd.2.2 + 1 + zDe pi ≤ F'; omega, by have := h.2.1; omega, fun e he => zDq_le (h.2.2 e he) (Nat.le_succ _)⟩
theorem zDj_tail {F : Nat} {pi : List (Int × Int)} {cd : yC} (h : zDj F pi cd) : zDj F pi.tail cd := by
  cases pi with
  | nil => exact h
  | cons e r => exact ⟨by have := (zDj_hd h).2.1; show cd.2.2 + zDe r ≤ F; omega, by have := (zDj_hd h).2.2; show r.length ≤ F; omega, fun x hx => h.2.2 x (List.mem_cons_of_mem _ hx)⟩
/-- what comes of a step -/
noncomputable def zDr (a : Nat) (G : Nat → Nat → Int) (B : Nat → Int) (ln : Nat) (rn : Int) (r : Nat ⊕ yS) : Prop := match r with
  | Sum.inl q => (∃ (tk nl od : Nat) (pi : List (Int × Int)) (cd : yC), zD a G 1 B ln tk nl od pi cd ∧ zDj 400 pi cd) ∧ G a 18 = (zy_fr B ln q : Int)
  | Sum.inr S => rn = (S.1 : Int) ∧ zD a G 0 B ln S.2.1 S.2.2.1 S.2.2.2.1 S.2.2.2.2.1 S.2.2.2.2.2
theorem zy_nx {B : Nat → Int} {ln p : Nat} (h : p ≤ ln) : zy_to B ln p ≤ ln ∧ zy_fr B ln p ≤ zy_fr B ln (zy_to B ln p) ∧ (zy_so B ln p ≠ 0 → zy_fr B ln p + 1 ≤ zy_fr B ln (zy_to B ln p)) := by
  have h1 := zy_to_le (B := B) h
  have h2 := zy_fr_le (B := B) h1.2.1
  exact ⟨h1.2.1, by omega, fun z => by have := h1.2.2 z; omega⟩
