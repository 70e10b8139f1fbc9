/-! part 7f: orderly -/
section ZP7F
variable {p : Program} {l : Launch} {e : Env} {R : Room} {s : State} {m : MethodId} {args : Array Value} {below : List Frame} {meth : Method} {c : Code} {Q : State → Prop}
variable {cc : ByteArray} {w : zk_W} {u : zk_M} {Ts : List Jvm.Cond} {own : String}
variable {xs : List Nat} {pc : Nat} {L : List (Nat × Nat × Int)} {S : List (Nat × Int)} {P : Nat → Option Nat} {G : Nat → Nat → Int}
theorem zp_lsub (hx : p.tables.exec = Jvm.exec) (hb : c.code = cc) {a b n : Int} (hdg : decode cc pc = .ok (.lsub, 1)) (hn : a - b = n) (hr : zk_rg 1 n) (kk : zp_J p l e R s m args below meth c Q w u xs (pc + 1) L ((1, n) :: S) P G) : zp_J p l e R s m args below meth c Q w u xs pc L ((1, b) :: (1, a) :: S) P G := by
  subst hn
  intro F H locs ls hF hI hL hkL hkS
  refine zw_lbin (o := 1) hx hb rfl hdg (fun h => absurd h (by decide)) ?_
  have e : zk_lb 1 (Int64.ofInt a) (Int64.ofInt b) = Int64.ofInt (a - b) := by show Int64.ofInt a - Int64.ofInt b = _; rw [← Int64.ofInt_sub]
  rw [e]
  exact kk F H locs ls hF hI hL hkL (List.forall_mem_cons.mpr ⟨zp_k1 hr, (zp_tl (zp_tl hkS).2).2⟩)
end ZP7F
theorem zl_f1 : zk_fj zl_T 1 = (0, 2, 0, 10) := by decide +kernel
/-- what holds while ways are tried -/
noncomputable def sr_I (a b3 b50 b51 b52 : Nat) (P : Nat → Option Nat) (G : Nat → Nat → Int) : Prop := P a = some 13 ∧ P b3 = some 59 ∧ P b50 = some 85 ∧ P b51 = some 86 ∧ P b52 = some 87 ∧ G a 3 = (b3 : Int) ∧ G a 50 = (b50 : Int) ∧ G a 51 = (b51 : Int) ∧ G a 52 = (b52 : Int)
/-- what is to be laid: n of them, each below m -/
noncomputable def sr_M (a n : Nat) (m : Int) (G : Nat → Nat → Int) : Prop := ∀ q : Nat, q < n → 0 ≤ zv G a 50 q ∧ zv G a 50 q ≤ m
theorem sr_fr {eff : List (Nat × Nat × Nat)} {ps : List Int} {a b3 b50 b51 b52 : Nat} {P P' : Nat → Option Nat} {G G' : Nat → Nat → Int} (h : sr_I a b3 b50 b51 b52 P G) (hx : ∀ b t, P b = some t → P' b = some t) (hfr : zp_fr eff ps P G G') (he : (zp_nfb eff 13 3 && (zp_nfb eff 13 50 && (zp_nfb eff 13 51 && (zp_nfb eff 13 52 && (zp_ncb eff 85 && zp_ncb eff 86))))) = true) : sr_I a b3 b50 b51 b52 P' G' ∧ (∀ k, G' b50 k = G b50 k) ∧ (∀ k, G' b51 k = G b51 k) := by
  simp only [Bool.and_eq_true] at he
  obtain ⟨f1, f2, f3, f4, f5, f6⟩ := he
  obtain ⟨h1, h2, h3, h4, h5, h6, h7, h8, h9⟩ := h
  exact ⟨⟨hx _ _ h1, hx _ _ h2, hx _ _ h3, hx _ _ h4, hx _ _ h5, (zp_nf hfr h1 f1).trans h6, (zp_nf hfr h1 f2).trans h7, (zp_nf hfr h1 f3).trans h8, (zp_nf hfr h1 f4).trans h9⟩, zp_nc hfr h3 f5, zp_nc hfr h4 f6⟩
theorem sr_set {a b3 b50 b51 b52 b t k : Nat} {v : Int} {P : Nat → Option Nat} {G : Nat → Nat → Int} (h : sr_I a b3 b50 b51 b52 P G) (hb : P b = some t) (he : (t != 13 || (k != 3 && (k != 50 && (k != 51 && k != 52)))) = true) : sr_I a b3 b50 b51 b52 P (zp_set G b k v) := by
  obtain ⟨h1, h2, h3, h4, h5, h6, h7, h8, h9⟩ := h
  simp only [Bool.and_eq_true, Bool.or_eq_true, bne_iff_ne] at he
  have ne : ∀ j, j = 3 ∨ j = 50 ∨ j = 51 ∨ j = 52 → zp_set G b k v a j = G a j := fun j hj => zp_set_ne (by
    by_cases e : t = 13
    · rcases he with he | he
      · exact absurd e he
      · exact Or.inr (by omega)
    · exact Or.inl (zp_pne h1 hb (fun z => e z.symm)))
  exact ⟨h1, h2, h3, h4, h5, (ne 3 (by omega)).trans h6, (ne 50 (by omega)).trans h7, (ne 51 (by omega)).trans h8, (ne 52 (by omega)).trans h9⟩
theorem sr_zv {a b50 n : Nat} {m : Int} {G G' : Nat → Nat → Int} (h : sr_M a n m G) (e : G a 50 = (b50 : Int)) (e' : G' a 50 = (b50 : Int)) (hq : ∀ q, q < n → G' b50 (2000 + q) = G b50 (2000 + q)) : sr_M a n m G' := fun q hn => by
  rw [zv_eq e', hq q hn, ← zv_eq e]
  exact h q hn