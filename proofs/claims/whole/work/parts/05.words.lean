/-! THE WORLD. One list of cells for both sides (the class, the reference) and the law's own long array: objects 0 TenYards, 1..3 Air (air, draft, pictured), 4, 5 Fall, 6..13 Shelf, 14 TenYardsModel; the key (o, 100) is the object o, (o, k) the array in its field k, (15, 0) the law's array; behind them the pool of Fallers. -/
-- the words of all contracts: the good words of the tables
def W0 : List Cond := lw_tbl.filter goodWord
theorem w0_in {w : Cond} (h : w ∈ lw_tbl) (g : goodWord w = true) : w ∈ W0 := List.mem_filter.mpr ⟨h, g⟩
theorem w0_lw : ∀ w ∈ W0, w ∈ lw_tbl := fun _ h => (List.mem_filter.mp h).1
theorem w0_good : GoodIn W0 W0 := fun _ h => ⟨h, good_of_word (List.mem_filter.mp h).2⟩
theorem w0_t (i : Nat) {w : Cond} (h : tables_1[i]? = some w) (g : goodWord w = true) : w ∈ W0 := w0_in (List.mem_append_right _ (List.mem_of_getElem? h)) g
theorem w0_s (i : Nat) {w : Cond} (h : (k2_sels lw_privs)[i]? = some w) (g : goodWord w = true) : w ∈ W0 := w0_in (List.mem_append_left _ (List.mem_of_getElem? h)) g
theorem w0_c {w : Cond} (h : w ∈ W0) : GoodIn W0 (w :: W0) := fun v hv => (List.mem_cons.mp hv).elim (fun e => by rw [e]; exact w0_good w h) (fun h => w0_good v h)
-- the classes
abbrev cls : List vw_C := [(RX0, TX0, 10), (RX1, TX1, 8), (RX2, TX2, 8), (RX3, TX3, 12), (RX4, TX4, 8), (RX5, TX5, 8), (RX6, TX6, 8), (RX7, TX7, 8), (RX8, TX8, 8), (RX9, TX9, 5), (RX10, TX10, 8), (RX11, TX11, 11), (RX12, TX12, 36)]
theorem in_0 : ∀ w ∈ u_ws RX0 TX0 10, w ∈ W0 := fun w h => w0_in ((by decide +kernel : ∀ w ∈ u_ws RX0 TX0 10, w ∈ lw_tbl) w h) ((by decide +kernel : ∀ w ∈ u_ws RX0 TX0 10, goodWord w = true) w h)
theorem in_1 : ∀ w ∈ u_ws RX1 TX1 8, w ∈ W0 := fun w h => w0_in ((by decide +kernel : ∀ w ∈ u_ws RX1 TX1 8, w ∈ lw_tbl) w h) ((by decide +kernel : ∀ w ∈ u_ws RX1 TX1 8, goodWord w = true) w h)
theorem in_2 : ∀ w ∈ u_ws RX2 TX2 8, w ∈ W0 := fun w h => w0_in ((by decide +kernel : ∀ w ∈ u_ws RX2 TX2 8, w ∈ lw_tbl) w h) ((by decide +kernel : ∀ w ∈ u_ws RX2 TX2 8, goodWord w = true) w h)
theorem in_3 : ∀ w ∈ u_ws RX3 TX3 12, w ∈ W0 := fun w h => w0_in ((by decide +kernel : ∀ w ∈ u_ws RX3 TX3 12, w ∈ lw_tbl) w h) ((by decide +kernel : ∀ w ∈ u_ws RX3 TX3 12, goodWord w = true) w h)
theorem in_4 : ∀ w ∈ u_ws RX4 TX4 8, w ∈ W0 := fun w h => w0_in ((by decide +kernel : ∀ w ∈ u_ws RX4 TX4 8, w ∈ lw_tbl) w h) ((by decide +kernel : ∀ w ∈ u_ws RX4 TX4 8, goodWord w = true) w h)
theorem in_5 : ∀ w ∈ u_ws RX5 TX5 8, w ∈ W0 := fun w h => w0_in ((by decide +kernel : ∀ w ∈ u_ws RX5 TX5 8, w ∈ lw_tbl) w h) ((by decide +kernel : ∀ w ∈ u_ws RX5 TX5 8, goodWord w = true) w h)
theorem in_6 : ∀ w ∈ u_ws RX6 TX6 8, w ∈ W0 := fun w h => w0_in ((by decide +kernel : ∀ w ∈ u_ws RX6 TX6 8, w ∈ lw_tbl) w h) ((by decide +kernel : ∀ w ∈ u_ws RX6 TX6 8, goodWord w = true) w h)
theorem in_7 : ∀ w ∈ u_ws RX7 TX7 8, w ∈ W0 := fun w h => w0_in ((by decide +kernel : ∀ w ∈ u_ws RX7 TX7 8, w ∈ lw_tbl) w h) ((by decide +kernel : ∀ w ∈ u_ws RX7 TX7 8, goodWord w = true) w h)
theorem in_8 : ∀ w ∈ u_ws RX8 TX8 8, w ∈ W0 := fun w h => w0_in ((by decide +kernel : ∀ w ∈ u_ws RX8 TX8 8, w ∈ lw_tbl) w h) ((by decide +kernel : ∀ w ∈ u_ws RX8 TX8 8, goodWord w = true) w h)
theorem in_9 : ∀ w ∈ u_ws RX9 TX9 5, w ∈ W0 := fun w h => w0_in ((by decide +kernel : ∀ w ∈ u_ws RX9 TX9 5, w ∈ lw_tbl) w h) ((by decide +kernel : ∀ w ∈ u_ws RX9 TX9 5, goodWord w = true) w h)
theorem in_10 : ∀ w ∈ u_ws RX10 TX10 8, w ∈ W0 := fun w h => w0_in ((by decide +kernel : ∀ w ∈ u_ws RX10 TX10 8, w ∈ lw_tbl) w h) ((by decide +kernel : ∀ w ∈ u_ws RX10 TX10 8, goodWord w = true) w h)
theorem in_11 : ∀ w ∈ u_ws RX11 TX11 11, w ∈ W0 := fun w h => w0_in ((by decide +kernel : ∀ w ∈ u_ws RX11 TX11 11, w ∈ lw_tbl) w h) ((by decide +kernel : ∀ w ∈ u_ws RX11 TX11 11, goodWord w = true) w h)
theorem in_12 : ∀ w ∈ u_ws RX12 TX12 36, w ∈ W0 := fun w h => w0_in ((by decide +kernel : ∀ w ∈ u_ws RX12 TX12 36, w ∈ lw_tbl) w h) ((by decide +kernel : ∀ w ∈ u_ws RX12 TX12 36, goodWord w = true) w h)
