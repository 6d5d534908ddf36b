/-! the methods' instructions as equivalences -/
theorem w_X2_clearN_39 {a1 : Int32} {a2 : Int32} {σ : mS} {Q : Option Int32 → mS → Prop} : WP mLayN 17 39 [some (.ref 0), some (.int a1), some (.int a2)] [] σ Q ↔ Q none σ := WP_retV mt_X2_clear dX2_clear_39
