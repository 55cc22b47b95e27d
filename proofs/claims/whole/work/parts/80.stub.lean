def Rel (σ : RSt) (c : CSt) : Prop := S0 σ ∧ c = c
theorem rel_s0 {σ : RSt} {c : CSt} (h : Rel σ c) : S0 σ := h.1
theorem rel_0 : Rel (fX6_empties r0) (fX5_empty c0 0 0) := sorry
theorem sim_attic {σ : RSt} {c : CSt} (hR : Rel σ c) (x1 x2 : Int32) : (fX5_attic c x1 x2).1 = (fX6_attic σ x1 x2).1 ∧ Rel ((fX6_attic σ x1 x2).2) ((fX5_attic c x1 x2).2) := sorry
theorem sim_make {σ : RSt} {c : CSt} (hR : Rel σ c) (x1 x2 x3 x4 : Int32) (hw : x4 = 0 ∨ x4 = 1) : (fX5_make c x1 x2 x3 x4).1 = (fX6_make σ x1 x2 x3 x4).1 ∧ Rel ((fX6_make σ x1 x2 x3 x4).2) ((fX5_make c x1 x2 x3 x4).2) := sorry
theorem sim_move {σ : RSt} {c : CSt} (hR : Rel σ c) (x1 x2 x3 : Int32) : (fX5_move c x1 x2 x3).1 = (fX6_move σ x1 x2 x3).1 ∧ Rel ((fX6_move σ x1 x2 x3).2) ((fX5_move c x1 x2 x3).2) := sorry
theorem sim_get {σ : RSt} {c : CSt} (hR : Rel σ c) (x1 x2 x3 x4 : Int32) : (fX5_get c x1 x2 x3 x4).1 = (fX6_get σ x1 x2 x3 x4).1 ∧ Rel ((fX6_get σ x1 x2 x3 x4).2) ((fX5_get c x1 x2 x3 x4).2) := sorry
theorem sim_put {σ : RSt} {c : CSt} (hR : Rel σ c) (x1 x2 x3 x4 : Int32) : (fX5_put c x1 x2 x3 x4).1 = (fX6_put σ x1 x2 x3 x4).1 ∧ Rel ((fX6_put σ x1 x2 x3 x4).2) ((fX5_put c x1 x2 x3 x4).2) := sorry
theorem sim_drop {σ : RSt} {c : CSt} (hR : Rel σ c) (x1 x2 : Int32) : (fX5_drop c x1 x2).1 = (fX6_drop σ x1 x2).1 ∧ Rel ((fX6_drop σ x1 x2).2) ((fX5_drop c x1 x2).2) := sorry
theorem sim_store {σ : RSt} {c : CSt} (hR : Rel σ c) (x1 x2 x3 : Int32) : (fX5_store c x1 x2 x3).1 = (fX6_store σ x1 x2 x3).1 ∧ Rel ((fX6_store σ x1 x2 x3).2) ((fX5_store c x1 x2 x3).2) := sorry
theorem sim_load {σ : RSt} {c : CSt} (hR : Rel σ c) (x1 x2 x3 : Int32) : (fX5_load c x1 x2 x3).1 = (fX6_load σ x1 x2 x3).1 ∧ Rel ((fX6_load σ x1 x2 x3).2) ((fX5_load c x1 x2 x3).2) := sorry
theorem sim_same {σ : RSt} {c : CSt} (hR : Rel σ c) (x1 x2 x3 x4 : Int32) : fX5_same c x1 x2 x3 x4 = fX6_same σ x1 x2 x3 x4 ∧ Rel (σ) (c) := sorry
theorem sim_weak {σ : RSt} {c : CSt} (hR : Rel σ c) (x1 x2 x3 : Int32) : (fX5_weak c x1 x2 x3).1 = (fX6_weak σ x1 x2 x3).1 ∧ Rel ((fX6_weak σ x1 x2 x3).2) ((fX5_weak c x1 x2 x3).2) := sorry
theorem sim_strong {σ : RSt} {c : CSt} (hR : Rel σ c) (x1 x2 x3 : Int32) : (fX5_strong c x1 x2 x3).1 = (fX6_strong σ x1 x2 x3).1 ∧ Rel ((fX6_strong σ x1 x2 x3).2) ((fX5_strong c x1 x2 x3).2) := sorry
theorem sim_pair {σ : RSt} {c : CSt} (hR : Rel σ c) (x1 x2 x3 : Int32) : (fX5_pair c x1 x2 x3).1 = (fX6_pair σ x1 x2 x3).1 ∧ Rel ((fX6_pair σ x1 x2 x3).2) ((fX5_pair c x1 x2 x3).2) := sorry
theorem sim_value {σ : RSt} {c : CSt} (hR : Rel σ c) (x1 x2 x3 : Int32) : (fX5_value c x1 x2 x3).1 = (fX6_value σ x1 x2 x3).1 ∧ Rel ((fX6_value σ x1 x2 x3).2) ((fX5_value c x1 x2 x3).2) := sorry
theorem sim_wish {σ : RSt} {c : CSt} (hR : Rel σ c) (x1 x2 : Int32) : (fX5_wish c x1 x2).1 = (fX6_wish σ x1 x2).1 ∧ Rel ((fX6_wish σ x1 x2).2) ((fX5_wish c x1 x2).2) := sorry
theorem sim_begin {σ : RSt} {c : CSt} (hR : Rel σ c) : (fX5_begin c).1 = (fX6_begin σ).1 ∧ Rel ((fX6_begin σ).2) ((fX5_begin c).2) := sorry
theorem sim_sweep {σ : RSt} {c : CSt} (hR : Rel σ c) (x1 : Int32) : (fX5_sweep c x1).1 = (fX6_sweep σ x1).1 ∧ Rel ((fX6_sweep σ x1).2) ((fX5_sweep c x1).2) := sorry
theorem sim_under {σ : RSt} {c : CSt} (hR : Rel σ c) : fX5_under c = fX6_under σ ∧ Rel (σ) (c) := sorry
theorem sim_about {σ : RSt} {c : CSt} (hR : Rel σ c) (x1 x2 : Int32) : (fX5_about c x1 x2).1 = (fX6_about σ x1 x2).1 ∧ Rel ((fX6_about σ x1 x2).2) ((fX5_about c x1 x2).2) := sorry
theorem sim_field {σ : RSt} {c : CSt} (hR : Rel σ c) (x1 x2 : Int32) : fX5_field c x1 x2 = fX6_field σ x1 x2 ∧ Rel (σ) (c) := sorry
theorem sim_holder {σ : RSt} {c : CSt} (hR : Rel σ c) (x1 : Int32) : fX5_holder c x1 = fX6_holder σ x1 ∧ Rel (σ) (c) := sorry
theorem sim_cell {σ : RSt} {c : CSt} (hR : Rel σ c) (x1 : Int32) : fX5_cell c x1 = fX6_cell σ x1 ∧ Rel (σ) (c) := sorry
theorem sim_count {σ : RSt} {c : CSt} (hR : Rel σ c) (x1 : Int32) : (fX5_count c x1).1 = (fX6_count σ x1).1 ∧ Rel ((fX6_count σ x1).2) ((fX5_count c x1).2) := sorry
theorem sim_lost {σ : RSt} {c : CSt} (hR : Rel σ c) : (fX5_lost c).1 = (fX6_lost σ).1 ∧ Rel ((fX6_lost σ).2) ((fX5_lost c).2) := sorry
theorem sim_digest {σ : RSt} {c : CSt} (hR : Rel σ c) : fX5_digest c = fX6_digest σ ∧ Rel (σ) (c) := sorry
