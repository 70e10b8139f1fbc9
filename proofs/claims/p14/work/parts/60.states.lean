/-! part 60: the parser: its states -/
/-- how far an expression is read: x is 1 behind a part, 0 where one is wanted; sq is 0 where no '[' is open -/
noncomputable def zs_sp (first x sq : Nat) (bad fr : Int) (nc pd : Nat) (op ar pl pa : Nat → Int) : Prop := zi_wk first nc pd fr pl pa ∧ (bad = 0 → zi_sq pd pl ∧ (sq = 0 → zi_ns pd pl) ∧ zi_wf first x nc pd op ar pl pa)
noncomputable def zs (first x sq a : Nat) (G : Nat → Nat → Int) : Prop := zs_tk a G ∧ ∃ nc pd : Nat, G a 23 = nc ∧ G a 29 = pd ∧ zs_sp first x sq (G a 19) (G a 14) nc pd (zv G a 24) (zv G a 25) (zv G a 27) (zv G a 28)