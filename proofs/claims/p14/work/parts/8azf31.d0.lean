/-! part d0: the class's reader: rules; the memory -/
section ZD0
variable {p : Program} {l : Launch} {e : Env} {R : Room} {s : State} {m : MethodId} {args : Array Value} {below : List Frame} {meth : Method} {c : Code} {Q : State → Prop}
variable {cc : ByteArray} {w : zk_W} {u : zk_M} {Ts : List Jvm.Cond} {own : String}
variable {xs : List Nat} {pc : Nat} {L : List (Nat × Nat × Int)} {S : List (Nat × Int)} {P : Nat → Option Nat} {G : Nat → Nat → Int}
/-- a text constant -/
theorem zp_ldS (hx : p.tables.exec = Jvm.exec) (hb : c.code = cc) {E : zk_Ev} (hE : zk_ctx l R s m args meth c w u zt_TB own zt_TB zt_mn E) {idx j t b : Nat} {v : Int} (hdg : decode cc pc = .ok (.ldc idx, 2)) (hlk : E.2.1[j]? = some (9, idx, t, b, v)) (kk : ∀ ad : Nat, P ad = some t → zp_J p l e R s m args below meth c Q w u xs (pc + 2) L ((2, (ad : Int)) :: S) P G) : zp_J p l e R s m args below meth c Q w u xs pc L S P G := by
  obtain ⟨-, e4, e5, e6, e7, e8, e9, e10, e11, e12, e13, e14, e15, e16, e17, e18, e19, y1, y2, y3⟩ := hE
  obtain ⟨tx, ad, z1, z2⟩ : ∃ (tx : String) (a : Nat), w.2.2.2.2.1 t a ∧ vk_R own idx tx a s := e10 _ (List.mem_of_getElem? hlk)
  intro F H locs ls hF hI hL hkL hkS
  have hp : P ad = some t := hI.2.1 _ _ (y3 _ _ z1)
  have f1 : zk_ok P (2, t, 0, 0) (ad : Int) := ⟨by dsimp only; omega, by omega, fun h => absurd h (by dsimp only; omega), fun _ => by rw [Int.toNat_natCast]; exact hp⟩
  have h := kk ad hp F H locs ls hF hI hL hkL (List.forall_mem_cons.mpr ⟨zp_ok_k f1 (Nat.le_refl 2), hkS⟩)
  have e0 : zk_mk 2 (ad : Int) = .ref ad := by
    rw [zk_mk_ref (Nat.le_refl _), if_neg (by omega), Int.toNat_natCast]
  refine va_ldcS hx hb e6 z2 hdg ?_
  rw [← e0]
  exact h
/-- Math's max, min of ints -/
theorem zp_mm (hx : p.tables.exec = Jvm.exec) (hb : c.code = cc) {E : zk_Ev} (hE : zk_ctx l R s m args meth c w u zt_TB own zt_TB zt_mn E) {rm : Nat × Nat × Nat × Nat} (hrm : zk_Kr (zk_ev E) = rm) {idx j k b : Nat} {v x y n : Int} (hdg : decode cc pc = .ok (.invokestatic idx, 3)) (hlk : E.2.1[j]? = some (6, idx, k, b, v)) (hk : (k = 0 ∧ n = max x y) ∨ (k = 1 ∧ n = min x y)) (hr : 1 ≤ rm.1 ∧ zp_cs S + 15 ≤ rm.2.1) (kk : zp_J p l e R s m args below meth c Q w u xs (pc + 3) L ((0, n) :: S) P G) : zp_J p l e R s m args below meth c Q w u xs pc L ((0, y) :: (0, x) :: S) P G := by
  obtain ⟨⟨e1, e2, e3⟩, e4, e5, e6, e7, e8, e9, e10, e11, e12, e13, e14, e15, e16, e17, e18, e19, y1, y2, y3⟩ := hE
  have e0 := e10 _ (List.mem_of_getElem? hlk)
  intro F H locs ls hF hI hL hkL hkS
  obtain ⟨ky, hk1⟩ := zp_tl hkS
  obtain ⟨kx, hk2⟩ := zp_tl hk1
  have ry : zk_rg 0 y := ky.2.1
  have rx : zk_rg 0 x := kx.2.1
  have hx1 := rx.1
  have hx2 := rx.2
  have hy1 := ry.1
  have hy2 := ry.2
  rw [hrm] at e13
  have r1 := e13.1
  have r2 := e13.2.1
  have hls : c.maxLocals = ls.size := by
    rw [e1]
    exact hL.1.symm
  have hcs : ((S.map (fun q => zk_mk q.1 q.2)).map fun v => v.category).sum = zp_cs S := by
    rw [List.map_map]
    have : (S.map ((fun v => v.category) ∘ fun q => zk_mk q.1 q.2)) = S.map (fun q => if q.1 = 1 then 2 else 1) := List.map_congr_left (fun q _ => zk_mk_cat)
    rw [this]
    rfl
  show W p l e R s m args below meth c H locs 0 0 Q (F0 m pc ls (.int (Int32.ofInt y) :: .int (Int32.ofInt x) :: S.map (fun q => zk_mk q.1 q.2)))
  rcases hk with ⟨hk, hn⟩ | ⟨hk, hn⟩
  · subst hk
    have hm : (if Int32.ofInt x < Int32.ofInt y then Int32.ofInt y else Int32.ofInt x) = Int32.ofInt n := by
      by_cases h : x < y
      · rw [if_pos ((zk_lt32 rx ry).mpr h)]; congr 1; omega
      · rw [if_neg (fun z => h ((zk_lt32 rx ry).mp z))]; congr 1; omega
    refine va_mmax hx hb hls e6 e0.1 e0.2.1 e0.2.2.1 e0.2.2.2 (by omega) (by omega) (by omega) (by omega) hdg ?_
    rw [hm]
    exact kk F H locs ls hF hI hL hkL (List.forall_mem_cons.mpr ⟨zp_k0 ⟨by omega, by omega⟩, hk2⟩)
  · subst hk
    have hm : (if Int32.ofInt y < Int32.ofInt x then Int32.ofInt y else Int32.ofInt x) = Int32.ofInt n := by
      by_cases h : y < x
      · rw [if_pos ((zk_lt32 ry rx).mpr h)]; congr 1; omega
      · rw [if_neg (fun z => h ((zk_lt32 ry rx).mp z))]; congr 1; omega
    refine va_mmin hx hb hls e6 e0.1 e0.2.1 e0.2.2.1 e0.2.2.2 (by omega) (by omega) (by omega) (by omega) hdg ?_
    rw [hm]
    exact kk F H locs ls hF hI hL hkL (List.forall_mem_cons.mpr ⟨zp_k0 ⟨by omega, by omega⟩, hk2⟩)
theorem zu_alen (hx : p.tables.exec = Jvm.exec) (hb : c.code = cc) (hw : w.1 = zt_types) {a t len : Nat} (hdg : decode cc pc = .ok (.arraylength, 1)) (hp : P a = some t) (hT : ∃ T, zt_types[t]? = some T ∧ T.1 = 1 ∧ T.2.1 = len ∧ T.2.2.1 = len) (hl : len ≤ 1000000) (kk : zp_J p l e R s m args below meth c Q w u xs (pc + 1) L ((0, (len : Int)) :: S) P G) : zp_J p l e R s m args below meth c Q w u xs pc L ((2, (a : Int)) :: S) P G := by
  obtain ⟨T, h1, h2, h3, h4⟩ := hT
  intro F H locs ls hF hI hL hkL hkS
  rw [← hw] at h1
  obtain ⟨cA, n, f, o1, o2, o3, o4, o5, o6, o7⟩ := zp_iarr hI.1 hp h1 (Or.inl h2)
  have hn : n = len := by omega
  subst hn
  show W p l e R s m args below meth c H locs 0 0 Q (F0 m pc ls (zk_mk 2 (a : Int) :: S.map (fun q => zk_mk q.1 q.2)))
  rw [zp_ref]
  have hr : zk_rg 0 (n : Int) := ⟨by omega, by omega⟩
  exact zw_alen hx hb o6 (by rw [h2] at o4; exact o4) hdg (kk F H locs ls hF hI hL hkL (List.forall_mem_cons.mpr ⟨zp_k0 hr, (zp_tl hkS).2⟩))
end ZD0
/-! the memory -/
noncomputable def yob (o : Bool) : Int := if o = true then 1 else 0
/-- the tape: its bytes, its token -/
noncomputable def zTt (t b : Nat) (G : Nat → Nat → Int) (B : Nat → Int) (ln tk : Nat) : Prop := (G t 0 = (b : Int) ∧ G t 1 = (ln : Int) ∧ ln ≤ 400 ∧ ∀ j, G b (2000 + j) = B j) ∧ (∀ j, j < ln → 0 ≤ B j ∧ B j ≤ 255) ∧ zy_tc B ln G t tk
/-- reader a, tape t, text x, bytes b, code c -/
noncomputable def zTa (P : Nat → Option Nat) (a t x b c : Nat) (G : Nat → Nat → Int) : Prop := (P a = some 5 ∧ P t = some 7 ∧ P x = some 8 ∧ P b = some 29 ∧ P c = some 35) ∧ G a 0 = (t : Int) ∧ G a 1 = (x : Int) ∧ G x 5 = (c : Int)
noncomputable def zT (P : Nat → Option Nat) (a t x b c : Nat) (G : Nat → Nat → Int) (B : Nat → Int) (ln tk nl : Nat) (C : Nat → Int) (sz : Nat) (ord : Bool) : Prop := zTa P a t x b c G ∧ zTt t b G B ln tk ∧ (G a 3 = yob ord ∧ G a 4 = (nl : Int) ∧ nl ≤ 50) ∧ G x 7 = (sz : Int) ∧ sz ≤ 872 ∧ ∀ j, G c (2000 + j) = C j
noncomputable def zTe (E : List (Nat × Nat × Nat)) : Bool := zp_nfb E 5 0 && (zp_nfb E 5 1 && (zp_nfb E 5 3 && (zp_nfb E 7 0 && (zp_nfb E 7 1 && (zp_nfb E 8 5 && zp_ncb E 29)))))
theorem zT_cg {P : Nat → Option Nat} {a t x b c : Nat} {G G' : Nat → Nat → Int} {B : Nat → Int} {ln tk nl sz tk' nl' sz' : Nat} {C C' : Nat → Int} {ord : Bool} {E : List (Nat × Nat × Nat)} {ps : List Int} (h : zT P a t x b c G B ln tk nl C sz ord) (hfr : zp_fr E ps P G G') (he : zTe E = true) (htc : zy_tc B ln G' t tk') (h4 : G' a 4 = (nl' : Int)) (hn : nl' ≤ 50) (h7 : G' x 7 = (sz' : Int)) (hs : sz' ≤ 872) (hc : ∀ j, G' c (2000 + j) = C' j) : zT P a t x b c G' B ln tk' nl' C' sz' ord := by
  unfold zTe at he
  simp only [Bool.and_eq_true] at he
  obtain ⟨f1, f2, f3, f4, f5, f6, f7⟩ := he
  obtain ⟨⟨⟨pa, pt, px, pb, pc⟩, g1, g2, g3⟩, ⟨⟨t1, t2, t3, t4⟩, t5, -⟩, ⟨r1, -, -⟩, -⟩ := h
  exact ⟨⟨⟨pa, pt, px, pb, pc⟩, (zp_nf hfr pa f1).trans g1, (zp_nf hfr pa f2).trans g2, (zp_nf hfr px f6).trans g3⟩, ⟨⟨(zp_nf hfr pt f4).trans t1, (zp_nf hfr pt f5).trans t2, t3, fun j => (zp_nc hfr pb f7 _).trans (t4 j)⟩, t5, htc⟩, ⟨(zp_nf hfr pa f3).trans r1, h4, hn⟩, h7, hs, hc⟩
theorem zy_tc_fr {P : Nat → Option Nat} {t : Nat} {G G' : Nat → Nat → Int} {B : Nat → Int} {ln tk : Nat} {E : List (Nat × Nat × Nat)} {ps : List Int} (h : zy_tc B ln G t tk) (hfr : zp_fr E ps P G G') (pt : P t = some 7) (he : (zp_nfb E 7 2 && (zp_nfb E 7 3 && (zp_nfb E 7 4 && zp_nfb E 7 5))) = true) : zy_tc B ln G' t tk := by
  simp only [Bool.and_eq_true] at he
  obtain ⟨f1, f2, f3, f4⟩ := he
  obtain ⟨h1, h2, h3, h4, h5⟩ := h
  exact ⟨h1, (zp_nf hfr pt f1).trans h2, (zp_nf hfr pt f2).trans h3, (zp_nf hfr pt f3).trans h4, (zp_nf hfr pt f4).trans h5⟩
theorem zTt_nx {P : Nat → Option Nat} {t b : Nat} {G G' : Nat → Nat → Int} {B : Nat → Int} {ln tk : Nat} {ps : List Int} (h : zTt t b G B ln tk) (hq : ∀ q : Nat, G t 4 = (q : Int) → zy_tc (fun j => G (G t 0).toNat (2000 + j)) (G t 1).toNat G' t q) : zy_tc B ln G' t (zy_to B ln tk) := by
  obtain ⟨⟨h0, h1, h2, h3⟩, h4, ⟨h5, h6, h7, h8, h9⟩⟩ := h
  have hq := hq _ h8
  rw [h0, h1, Int.toNat_natCast, Int.toNat_natCast, show (fun j => G b (2000 + j)) = B from funext h3] at hq
  exact hq
theorem zT_nx {P : Nat → Option Nat} {a t x b c : Nat} {G G' : Nat → Nat → Int} {B : Nat → Int} {ln tk nl sz : Nat} {C : Nat → Int} {ord : Bool} {ps : List Int} (h : zT P a t x b c G B ln tk nl C sz ord) (hfr : zp_fr [(7, 2, 0), (7, 3, 0), (7, 4, 0), (7, 5, 0)] ps P G G') (hq : ∀ q : Nat, G t 4 = (q : Int) → zy_tc (fun j => G (G t 0).toNat (2000 + j)) (G t 1).toNat G' t q) : zT P a t x b c G' B ln (zy_to B ln tk) nl C sz ord := by
  have h0 := h
  obtain ⟨⟨⟨pa, pt, px, pb, pc⟩, g1, g2, g3⟩, ht, ⟨r1, r2, r3⟩, x1, x2, x3⟩ := h
  exact zT_cg h0 hfr rfl (zTt_nx (P := P) (ps := ps) ht hq) ((zp_nf hfr pa rfl).trans r2) r3 ((zp_nf hfr px rfl).trans x1) x2 (fun j => (zp_nc hfr pc rfl _).trans (x3 j))
theorem zT_ad {P : Nat → Option Nat} {a t x b c : Nat} {G G' : Nat → Nat → Int} {B : Nat → Int} {ln tk nl sz sz' : Nat} {C C' : Nat → Int} {ord : Bool} {ps : List Int} (h : zT P a t x b c G B ln tk nl C sz ord) (hfr : zp_fr [(8, 7, 0), (35, 1001, 0)] ps P G G') (h7 : G' x 7 = (sz' : Int)) (hs : sz' ≤ 872) (hc : ∀ j, G' c (2000 + j) = C' j) : zT P a t x b c G' B ln tk nl C' sz' ord := by
  have h0 := h
  obtain ⟨⟨⟨pa, pt, px, pb, pc⟩, g1, g2, g3⟩, ht, ⟨r1, r2, r3⟩, x1, x2, x3⟩ := h
  exact zT_cg h0 hfr rfl (zy_tc_fr ht.2.2 hfr pt rfl) ((zp_nf hfr pa rfl).trans r2) r3 h7 hs hc
theorem zT_lp {P : Nat → Option Nat} {a t x b c : Nat} {G G' : Nat → Nat → Int} {B : Nat → Int} {ln tk nl sz : Nat} {C C' : Nat → Int} {ord : Bool} {ps : List Int} (h : zT P a t x b c G B ln tk nl C sz ord) (hfr : zp_fr [(35, 1001, 0)] ps P G G') (hc : ∀ j, G' c (2000 + j) = C' j) : zT P a t x b c G' B ln tk nl C' sz ord := by
  have h0 := h
  obtain ⟨⟨⟨pa, pt, px, pb, pc⟩, g1, g2, g3⟩, ht, ⟨r1, r2, r3⟩, x1, x2, x3⟩ := h
  exact zT_cg h0 hfr rfl (zy_tc_fr ht.2.2 hfr pt rfl) ((zp_nf hfr pa rfl).trans r2) r3 ((zp_nf hfr px rfl).trans x1) x2 hc
/-- what it does not speak of -/
theorem zT_fr {P : Nat → Option Nat} {a t x b c : Nat} {G G' : Nat → Nat → Int} {B : Nat → Int} {ln tk nl sz : Nat} {C : Nat → Int} {ord : Bool} {E : List (Nat × Nat × Nat)} {ps : List Int} (h : zT P a t x b c G B ln tk nl C sz ord) (hfr : zp_fr E ps P G G') (he : (zTe E && ((zp_nfb E 7 2 && (zp_nfb E 7 3 && (zp_nfb E 7 4 && zp_nfb E 7 5))) && (zp_nfb E 5 4 && (zp_nfb E 8 7 && zp_ncb E 35)))) = true) : zT P a t x b c G' B ln tk nl C sz ord := by
  simp only [Bool.and_eq_true] at he
  obtain ⟨f1, a0, f3, f4, f5⟩ := he
  have f2 : (zp_nfb E 7 2 && (zp_nfb E 7 3 && (zp_nfb E 7 4 && zp_nfb E 7 5))) = true := by
    simp only [Bool.and_eq_true]
    exact a0
  have h0 := h
  obtain ⟨⟨⟨pa, pt, px, pb, pc⟩, g1, g2, g3⟩, ht, ⟨r1, r2, r3⟩, x1, x2, x3⟩ := h
  exact zT_cg h0 hfr f1 (zy_tc_fr ht.2.2 hfr pt f2) ((zp_nf hfr pa f3).trans r2) r3 ((zp_nf hfr px f4).trans x1) x2 (fun j => (zp_nc hfr pc f5 _).trans (x3 j))
theorem zy_tc_s {a k t : Nat} {v : Int} {G : Nat → Nat → Int} {B : Nat → Int} {ln tk : Nat} (h : zy_tc B ln G t tk) (hn : t ≠ a) : zy_tc B ln (zp_set G a k v) t tk := by
  obtain ⟨h1, h2, h3, h4, h5⟩ := h
  exact ⟨h1, (zp_set_ne (Or.inl hn)).trans h2, (zp_set_ne (Or.inl hn)).trans h3, (zp_set_ne (Or.inl hn)).trans h4, (zp_set_ne (Or.inl hn)).trans h5⟩
/-- one more leaf -/
theorem zT_4 {P : Nat → Option Nat} {a t x b c : Nat} {G : Nat → Nat → Int} {B : Nat → Int} {ln tk nl sz : Nat} {C : Nat → Int} {ord : Bool} {v : Int} (h : zT P a t x b c G B ln tk nl C sz ord) (hv : v = ((nl + 1 : Nat) : Int)) (hn : nl < 50) : zT P a t x b c (zp_set G a 4 v) B ln tk (nl + 1) C sz ord := by
  obtain ⟨⟨⟨pa, pt, px, pb, pc⟩, g1, g2, g3⟩, ⟨⟨t1, t2, t3, t4⟩, t5, t6⟩, ⟨r1, r2, r3⟩, x1, x2, x3⟩ := h
  have nt : t ≠ a := zp_pne pt pa (by decide)
  have nx : x ≠ a := zp_pne px pa (by decide)
  have nb : b ≠ a := zp_pne pb pa (by decide)
  have nc : c ≠ a := zp_pne pc pa (by decide)
  exact ⟨⟨⟨pa, pt, px, pb, pc⟩, (zp_set_ne (Or.inr (by decide))).trans g1, (zp_set_ne (Or.inr (by decide))).trans g2, (zp_set_ne (Or.inl nx)).trans g3⟩, ⟨⟨(zp_set_ne (Or.inl nt)).trans t1, (zp_set_ne (Or.inl nt)).trans t2, t3, fun j => (zp_set_ne (Or.inl nb)).trans (t4 j)⟩, t5, zy_tc_s t6 nt⟩, ⟨(zp_set_ne (Or.inr (by decide))).trans r1, (zp_set_self).trans hv, by omega⟩, (zp_set_ne (Or.inl nx)).trans x1, x2, fun j => (zp_set_ne (Or.inl nc)).trans (x3 j)⟩
/-- a sign -/
theorem zT_sg {t b : Nat} {G : Nat → Nat → Int} {B : Nat → Int} {ln tk : Nat} {ch rn : Int} (h : zTt t b G B ln tk) (hc : ch ≠ -1) (hr : rn = 1 ↔ G t 5 = ch) : rn = 1 ↔ yr_s (zy_so B ln) (zy_wo B ln) ch tk = true := by
  rw [hr, h.2.2.2.2.2.2]
  unfold yr_s
  rw [Bool.and_eq_true, decide_eq_true_eq, decide_eq_true_eq]
  by_cases h3 : zy_so B ln tk = 3
  · rw [if_pos h3]
    have : zy_wo B ln tk = B (zy_fr B ln tk) := by
      unfold zy_wo
      rw [if_neg (by omega), if_neg (by omega), if_pos h3]
    rw [this]
    exact ⟨fun z => ⟨h3, z⟩, fun z => z.2⟩
  · rw [if_neg h3]
    exact ⟨fun z => absurd z.symm hc, fun z => absurd z.1 h3⟩
/-- what comes of a reading -/
noncomputable def zTr (P : Nat → Option Nat) (a t x b c : Nat) (G : Nat → Nat → Int) (B : Nat → Int) (ln : Nat) (w : Bool) (nl sz u tk : Nat) (C : Nat → Int) (T : Bool) (rn : Int) (s : yR) : Prop := match s with
  | Sum.inl q => rn = 0 ∧ ∃ (nl' : Nat) (C' : Nat → Int) (sz' : Nat), zT P a t x b c G B ln q nl' C' sz' w
  | Sum.inr (p1, n1, y) => rn = 1 ∧ (T = true → yd_T y) ∧ ∃ (k : Nat) (C' : Nat → Int) (sz' : Nat), n1 = nl + k ∧ zT P a t x b c G B ln p1 n1 C' sz' w ∧ yH w sz C C' sz' k y ∧ sz' + u ≤ 2 * zy_fr B ln p1 + 72 ∧ zy_fr B ln tk + 1 ≤ zy_fr B ln p1
theorem zTt_q {t b : Nat} {G : Nat → Nat → Int} {B : Nat → Int} {ln tk : Nat} (h : zTt t b G B ln tk) : ∃ q : Nat, G t 4 = (q : Int) ∧ (q : Int) ≤ G t 1 := by
  obtain ⟨⟨h0, h1, h2, h3⟩, h4, ⟨h5, h6, h7, h8, h9⟩⟩ := h
  refine ⟨_, h8, ?_⟩
  rw [h1]
  have := (zy_to_le (B := B) h5).2.1
  omega
theorem zTt_f {t b : Nat} {G : Nat → Nat → Int} {B : Nat → Int} {ln tk : Nat} (h : zTt t b G B ln tk) : zy_fr B ln tk ≤ 400 ∧ tk ≤ ln := by
  have h1 := (zy_fr_le (B := B) h.2.2.1).2
  have h2 := h.1.2.2.1
  exact ⟨by omega, h.2.2.1⟩
theorem zTt_go {t b : Nat} {G : Nat → Nat → Int} {B : Nat → Int} {ln tk : Nat} (h : zTt t b G B ln tk) : zy_fr B ln tk ≤ zy_fr B ln (zy_to B ln tk) ∧ (zy_so B ln tk ≠ 0 → zy_fr B ln tk + 1 ≤ zy_fr B ln (zy_to B ln tk)) ∧ (zy_so B ln tk ≠ 0 → zy_fr B ln tk < 400) := by
  have h1 := zy_nx (B := B) h.2.2.1
  have h2 := h.1.2.2.1
  have h3 := zy_fr_le (B := B) h.2.2.1
  have h4 := zy_so0 (B := B) h.2.2.1
  exact ⟨h1.2.1, h1.2.2, fun z => by
    have : zy_fr B ln tk ≠ ln := fun y => z (h4.mpr y)
    omega⟩