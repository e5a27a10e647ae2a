/-! ===== stubs ===== -/
def j_Rel (σ τ : j_G) : Prop := σ = σ ∧ τ = τ
theorem j_Rel0 : j_Rel j_s0 j_t0 := ⟨rfl, rfl⟩
theorem s_feed {σ τ : j_G} (hR : j_Rel σ τ) (a1 : Int32) (a2 : Int32) (a3 : Int32) (a4 : Int32) (a5 : Int32) : ∃ vx : Int32, ∃ σ1 : j_G, f_X11_feed a1 a2 a3 a4 a5 σ = some (vx, σ1) ∧ ∃ vm : Int32, ∃ τ1 : j_G, f_X12_feed a1 a2 a3 a4 a5 τ = some (vm, τ1) ∧ j_Rel σ1 τ1 := by sorry
theorem s_end {σ τ : j_G} (hR : j_Rel σ τ) (a1 : Int32) : ∃ vx : Int32, ∃ σ1 : j_G, f_X11_end a1 σ = some (vx, σ1) ∧ ∃ vm : Int32, ∃ τ1 : j_G, f_X12_end a1 τ = some (vm, τ1) ∧ j_Rel σ1 τ1 := by sorry
theorem s_board {σ τ : j_G} (hR : j_Rel σ τ) : ∃ vx : Int32, ∃ σ1 : j_G, f_X11_board σ = some (vx, σ1) ∧ ∃ vm : Int32, ∃ τ1 : j_G, f_X12_board τ = some (vm, τ1) ∧ j_Rel σ1 τ1 := by sorry
theorem s_fault {σ τ : j_G} (hR : j_Rel σ τ) (a1 : Int32) : ∃ vx : Int32, f_X11_fault a1 σ = vx ∧ ∃ vm : Int32, f_X12_fault a1 τ = vm ∧ j_Rel σ τ := by sorry
theorem s_drum {σ τ : j_G} (hR : j_Rel σ τ) (a1 : Int32) (a2 : Int32) : ∃ vx : Int32, f_X11_drum a1 a2 σ = some vx ∧ ∃ vm : Int32, f_X12_drum a1 a2 τ = some vm ∧ j_Rel σ τ := by sorry
theorem s_player {σ τ : j_G} (hR : j_Rel σ τ) (a1 : Int32) (a2 : Int32) : ∃ vx : Int32, f_X11_player a1 a2 σ = some vx ∧ ∃ vm : Int32, f_X12_player a1 a2 τ = some vm ∧ j_Rel σ τ := by sorry
theorem s_stay {σ τ : j_G} (hR : j_Rel σ τ) (a1 : Int32) : ∃ vx : Int32, f_X11_stay a1 σ = some vx ∧ ∃ vm : Int32, f_X12_stay a1 τ = some vm ∧ j_Rel σ τ := by sorry
theorem s_comings {σ τ : j_G} (hR : j_Rel σ τ) : ∃ vx : Int32, ∃ σ1 : j_G, f_X11_comings σ = some (vx, σ1) ∧ ∃ vm : Int32, ∃ τ1 : j_G, f_X12_comings τ = some (vm, τ1) ∧ j_Rel σ1 τ1 := by sorry
theorem s_comes {σ τ : j_G} (hR : j_Rel σ τ) (a1 : Int32) (a2 : Int32) : ∃ vx : Int32, ∃ σ1 : j_G, f_X11_comes a1 a2 σ = some (vx, σ1) ∧ ∃ vm : Int32, ∃ τ1 : j_G, f_X12_comes a1 a2 τ = some (vm, τ1) ∧ j_Rel σ1 τ1 := by sorry
theorem s_up {σ τ : j_G} (hR : j_Rel σ τ) (a1 : Int32) : ∃ vx : Int32, ∃ σ1 : j_G, f_X11_up a1 σ = some (vx, σ1) ∧ ∃ vm : Int32, ∃ τ1 : j_G, f_X12_up a1 τ = some (vm, τ1) ∧ j_Rel σ1 τ1 := by sorry
theorem s_calm {σ τ : j_G} (hR : j_Rel σ τ) : ∃ vx : Int32, ∃ σ1 : j_G, f_X11_calm σ = some (vx, σ1) ∧ ∃ vm : Int32, ∃ τ1 : j_G, f_X12_calm τ = some (vm, τ1) ∧ j_Rel σ1 τ1 := by sorry
theorem s_steps {σ τ : j_G} (hR : j_Rel σ τ) (a1 : Int32) (a2 : Int32) : ∃ vx : Int32, f_X11_steps a1 a2 σ = some vx ∧ ∃ vm : Int32, f_X12_steps a1 a2 τ = some vm ∧ j_Rel σ τ := by sorry
theorem s_pace {σ τ : j_G} (hR : j_Rel σ τ) (a1 : Int32) (a2 : Int32) : ∃ vx : Int32, ∃ σ1 : j_G, f_X11_pace a1 a2 σ = some (vx, σ1) ∧ ∃ vm : Int32, f_X12_pace a1 a2 τ = some vm ∧ j_Rel σ1 τ := by sorry
theorem s_aware {σ τ : j_G} (hR : j_Rel σ τ) (a1 : Int32) (a2 : Int32) : ∃ vx : Int32, ∃ σ1 : j_G, f_X11_aware a1 a2 σ = some (vx, σ1) ∧ ∃ vm : Int32, ∃ τ1 : j_G, f_X12_aware a1 a2 τ = some (vm, τ1) ∧ j_Rel σ1 τ1 := by sorry
theorem s_hits {σ τ : j_G} (hR : j_Rel σ τ) (a1 : Int32) : ∃ vx : Int32, ∃ σ1 : j_G, f_X11_hits a1 σ = some (vx, σ1) ∧ ∃ vm : Int32, ∃ τ1 : j_G, f_X12_hits a1 τ = some (vm, τ1) ∧ j_Rel σ1 τ1 := by sorry
theorem s_hit {σ τ : j_G} (hR : j_Rel σ τ) (a1 : Int32) (a2 : Int32) : ∃ vx : Int32, ∃ σ1 : j_G, f_X11_hit a1 a2 σ = some (vx, σ1) ∧ ∃ vm : Int32, ∃ τ1 : j_G, f_X12_hit a1 a2 τ = some (vm, τ1) ∧ j_Rel σ1 τ1 := by sorry
theorem s_twice {σ τ : j_G} (hR : j_Rel σ τ) (a1 : Int32) (a2 : Int32) : ∃ vx : Int32, ∃ σ1 : j_G, f_X11_twice a1 a2 σ = some (vx, σ1) ∧ ∃ vm : Int32, ∃ τ1 : j_G, f_X12_twice a1 a2 τ = some (vm, τ1) ∧ j_Rel σ1 τ1 := by sorry
theorem s_where {σ τ : j_G} (hR : j_Rel σ τ) (a1 : Int32) (a2 : Int32) : ∃ vx : Int32, ∃ σ1 : j_G, f_X11_where a1 a2 σ = some (vx, σ1) ∧ ∃ vm : Int32, ∃ τ1 : j_G, f_X12_where a1 a2 τ = some (vm, τ1) ∧ j_Rel σ1 τ1 := by sorry
theorem s_missed {σ τ : j_G} (hR : j_Rel σ τ) (a1 : Int32) : ∃ vx : Int32, ∃ σ1 : j_G, f_X11_missed a1 σ = some (vx, σ1) ∧ ∃ vm : Int32, ∃ τ1 : j_G, f_X12_missed a1 τ = some (vm, τ1) ∧ j_Rel σ1 τ1 := by sorry
theorem s_walked {σ τ : j_G} (hR : j_Rel σ τ) (a1 : Int32) : ∃ vx : Int32, ∃ σ1 : j_G, f_X11_walked a1 σ = some (vx, σ1) ∧ ∃ vm : Int32, ∃ τ1 : j_G, f_X12_walked a1 τ = some (vm, τ1) ∧ j_Rel σ1 τ1 := by sorry
theorem s_best {σ τ : j_G} (hR : j_Rel σ τ) (a1 : Int32) : ∃ vx : Int32, ∃ σ1 : j_G, f_X11_best a1 σ = some (vx, σ1) ∧ ∃ vm : Int32, ∃ τ1 : j_G, f_X12_best a1 τ = some (vm, τ1) ∧ j_Rel σ1 τ1 := by sorry
theorem s_ahead {σ τ : j_G} (hR : j_Rel σ τ) (a1 : Int32) (a2 : Int32) : ∃ vx : Int32, ∃ σ1 : j_G, f_X11_ahead a1 a2 σ = some (vx, σ1) ∧ ∃ vm : Int32, ∃ τ1 : j_G, f_X12_ahead a1 a2 τ = some (vm, τ1) ∧ j_Rel σ1 τ1 := by sorry
theorem s_learns {σ τ : j_G} (hR : j_Rel σ τ) (a1 : Int32) (a2 : Int32) : ∃ vx : Int32, ∃ σ1 : j_G, f_X11_learns a1 a2 σ = some (vx, σ1) ∧ ∃ vm : Int32, ∃ τ1 : j_G, f_X12_learns a1 a2 τ = some (vm, τ1) ∧ j_Rel σ1 τ1 := by sorry
theorem s_enough {σ τ : j_G} (hR : j_Rel σ τ) (a1 : Int32) : ∃ vx : Int32, ∃ σ1 : j_G, f_X11_enough a1 σ = some (vx, σ1) ∧ ∃ vm : Int32, ∃ τ1 : j_G, f_X12_enough a1 τ = some (vm, τ1) ∧ j_Rel σ1 τ1 := by sorry
theorem s_waits {σ τ : j_G} (hR : j_Rel σ τ) (a1 : Int32) (a2 : Int32) : ∃ vx : Int32, ∃ σ1 : j_G, f_X11_waits a1 a2 σ = some (vx, σ1) ∧ ∃ vm : Int32, ∃ τ1 : j_G, f_X12_waits a1 a2 τ = some (vm, τ1) ∧ j_Rel σ1 τ1 := by sorry
theorem s_mean {σ τ : j_G} (hR : j_Rel σ τ) (a1 : Int32) (a2 : Int32) : ∃ vx : Int32, f_X11_mean a1 a2 σ = some vx ∧ ∃ vm : Int32, f_X12_mean a1 a2 τ = some vm ∧ j_Rel σ τ := by sorry
theorem s_middle {σ τ : j_G} (hR : j_Rel σ τ) (a1 : Int32) : ∃ vx : Int32, f_X11_middle a1 σ = some vx ∧ ∃ vm : Int32, f_X12_middle a1 τ = some vm ∧ j_Rel σ τ := by sorry
theorem s_reach {σ τ : j_G} (hR : j_Rel σ τ) (a1 : Int32) (a2 : Int32) : ∃ vx : Int32, ∃ σ1 : j_G, f_X11_reach a1 a2 σ = some (vx, σ1) ∧ ∃ vm : Int32, f_X12_reach a1 a2 τ = some vm ∧ j_Rel σ1 τ := by sorry
theorem s_post {σ τ : j_G} (hR : j_Rel σ τ) (a1 : Int32) : ∃ vx : Int32, ∃ σ1 : j_G, f_X11_post a1 σ = some (vx, σ1) ∧ ∃ vm : Int32, f_X12_post a1 τ = some vm ∧ j_Rel σ1 τ := by sorry
theorem s_slack {σ τ : j_G} (hR : j_Rel σ τ) (a1 : Int32) : ∃ vx : Int32, ∃ σ1 : j_G, f_X11_slack a1 σ = some (vx, σ1) ∧ ∃ vm : Int32, ∃ τ1 : j_G, f_X12_slack a1 τ = some (vm, τ1) ∧ j_Rel σ1 τ1 := by sorry
theorem s_rows {σ τ : j_G} (hR : j_Rel σ τ) (a1 : Int32) (a2 : Int32) : ∃ vx : Int64, ∃ σ1 : j_G, f_X11_rows a1 a2 σ = some (vx, σ1) ∧ ∃ vm : Int64, ∃ τ1 : j_G, f_X12_rows a1 a2 τ = some (vm, τ1) ∧ j_Rel σ1 τ1 := by sorry
theorem s_ends {σ τ : j_G} (hR : j_Rel σ τ) (a1 : Int32) (a2 : Int32) (a3 : Int32) : ∃ vx : Int64, ∃ σ1 : j_G, f_X11_ends a1 a2 a3 σ = some (vx, σ1) ∧ ∃ vm : Int64, ∃ τ1 : j_G, f_X12_ends a1 a2 a3 τ = some (vm, τ1) ∧ j_Rel σ1 τ1 := by sorry
theorem s_fair {σ τ : j_G} (hR : j_Rel σ τ) (a1 : Int32) : ∃ vx : Int32, ∃ σ1 : j_G, f_X11_fair a1 σ = some (vx, σ1) ∧ ∃ vm : Int32, ∃ τ1 : j_G, f_X12_fair a1 τ = some (vm, τ1) ∧ j_Rel σ1 τ1 := by sorry
theorem s_breaks {σ τ : j_G} (hR : j_Rel σ τ) (a1 : Int32) : ∃ vx : Int32, f_X11_breaks a1 σ = some vx ∧ ∃ vm : Int32, f_X12_breaks a1 τ = some vm ∧ j_Rel σ τ := by sorry
theorem s_period {σ τ : j_G} (hR : j_Rel σ τ) (a1 : Int32) : ∃ vx : Int32, f_X11_period a1 σ = some vx ∧ ∃ vm : Int32, f_X12_period a1 τ = some vm ∧ j_Rel σ τ := by sorry
theorem s_periods {σ τ : j_G} (hR : j_Rel σ τ) (a1 : Int32) : ∃ vx : Int32, f_X11_periods a1 σ = some vx ∧ ∃ vm : Int32, f_X12_periods a1 τ = some vm ∧ j_Rel σ τ := by sorry
theorem s_luck {σ τ : j_G} (hR : j_Rel σ τ) (a1 : Int32) : ∃ vx : Int32, f_X11_luck a1 σ = some vx ∧ ∃ vm : Int32, f_X12_luck a1 τ = some vm ∧ j_Rel σ τ := by sorry
theorem s_fits {σ τ : j_G} (hR : j_Rel σ τ) (a1 : Int32) : ∃ vx : Int32, f_X11_fits a1 σ = some vx ∧ ∃ vm : Int32, f_X12_fits a1 τ = some vm ∧ j_Rel σ τ := by sorry
theorem s_place {σ τ : j_G} (hR : j_Rel σ τ) (a1 : Int32) (a2 : Int32) : ∃ vx : Int32, f_X11_place a1 a2 σ = some vx ∧ ∃ vm : Int32, f_X12_place a1 a2 τ = some vm ∧ j_Rel σ τ := by sorry
theorem s_next {σ τ : j_G} (hR : j_Rel σ τ) (a1 : Int32) : ∃ vx : Int32, f_X11_next a1 σ = some vx ∧ ∃ vm : Int32, f_X12_next a1 τ = some vm ∧ j_Rel σ τ := by sorry
theorem s_needed {σ τ : j_G} (hR : j_Rel σ τ) (a1 : Int32) : ∃ vx : Int32, f_X11_needed a1 σ = some vx ∧ ∃ vm : Int32, f_X12_needed a1 τ = some vm ∧ j_Rel σ τ := by sorry
theorem s_known {σ τ : j_G} (hR : j_Rel σ τ) : ∃ vx : Int32, f_X11_known σ = some vx ∧ ∃ vm : Int32, f_X12_known τ = some vm ∧ j_Rel σ τ := by sorry
theorem s_rash {σ τ : j_G} (hR : j_Rel σ τ) (a1 : Int32) : ∃ vx : Int32, ∃ σ1 : j_G, f_X11_rash a1 σ = some (vx, σ1) ∧ ∃ vm : Int32, ∃ τ1 : j_G, f_X12_rash a1 τ = some (vm, τ1) ∧ j_Rel σ1 τ1 := by sorry
theorem s_look {σ τ : j_G} (hR : j_Rel σ τ) (a1 : Int32) (a2 : Int32) : ∃ vx : Int32, ∃ σ1 : j_G, f_X11_look a1 a2 σ = some (vx, σ1) ∧ ∃ vm : Int32, ∃ τ1 : j_G, f_X12_look a1 a2 τ = some (vm, τ1) ∧ j_Rel σ1 τ1 := by sorry
theorem s_line {σ τ : j_G} (hR : j_Rel σ τ) (a1 : Int32) : ∃ vx : Int32, ∃ σ1 : j_G, f_X11_line a1 σ = some (vx, σ1) ∧ ∃ vm : Int32, ∃ τ1 : j_G, f_X12_line a1 τ = some (vm, τ1) ∧ j_Rel σ1 τ1 := by sorry
theorem s_two {σ τ : j_G} (hR : j_Rel σ τ) (a1 : Int32) (a2 : Int32) (a3 : Int32) : ∃ vx : Int32, ∃ σ1 : j_G, f_X11_two a1 a2 a3 σ = some (vx, σ1) ∧ ∃ vm : Int32, ∃ τ1 : j_G, f_X12_two a1 a2 a3 τ = some (vm, τ1) ∧ j_Rel σ1 τ1 := by sorry
theorem s_tickets {σ τ : j_G} (hR : j_Rel σ τ) (a1 : Int32) : ∃ vx : Int32, ∃ σ1 : j_G, f_X11_tickets a1 σ = some (vx, σ1) ∧ ∃ vm : Int32, ∃ τ1 : j_G, f_X12_tickets a1 τ = some (vm, τ1) ∧ j_Rel σ1 τ1 := by sorry
theorem s_prize {σ τ : j_G} (hR : j_Rel σ τ) (a1 : Int32) : ∃ vx : Int32, ∃ σ1 : j_G, f_X11_prize a1 σ = some (vx, σ1) ∧ ∃ vm : Int32, ∃ τ1 : j_G, f_X12_prize a1 τ = some (vm, τ1) ∧ j_Rel σ1 τ1 := by sorry
theorem s_counted {σ τ : j_G} (hR : j_Rel σ τ) (a1 : Int32) : ∃ vx : Int32, ∃ σ1 : j_G, f_X11_counted a1 σ = some (vx, σ1) ∧ ∃ vm : Int32, ∃ τ1 : j_G, f_X12_counted a1 τ = some (vm, τ1) ∧ j_Rel σ1 τ1 := by sorry
theorem s_scored {σ τ : j_G} (hR : j_Rel σ τ) (a1 : Int32) : ∃ vx : Int32, ∃ σ1 : j_G, f_X11_scored a1 σ = some (vx, σ1) ∧ ∃ vm : Int32, ∃ τ1 : j_G, f_X12_scored a1 τ = some (vm, τ1) ∧ j_Rel σ1 τ1 := by sorry
theorem s_early {σ τ : j_G} (hR : j_Rel σ τ) (a1 : Int32) (a2 : Int32) : ∃ vx : Int32, ∃ σ1 : j_G, f_X11_early a1 a2 σ = some (vx, σ1) ∧ ∃ vm : Int32, ∃ τ1 : j_G, f_X12_early a1 a2 τ = some (vm, τ1) ∧ j_Rel σ1 τ1 := by sorry
theorem s_often {σ τ : j_G} (hR : j_Rel σ τ) (a1 : Int32) : ∃ vx : Int32, f_X11_often a1 σ = some vx ∧ ∃ vm : Int32, f_X12_often a1 τ = some vm ∧ j_Rel σ τ := by sorry
theorem s_balance {σ τ : j_G} (hR : j_Rel σ τ) : ∃ vx : Int32, f_X11_balance σ = some vx ∧ ∃ vm : Int32, f_X12_balance τ = some vm ∧ j_Rel σ τ := by sorry
theorem s_path {σ τ : j_G} (hR : j_Rel σ τ) : ∃ vx : Int32, f_X11_path σ = some vx ∧ ∃ vm : Int32, f_X12_path τ = some vm ∧ j_Rel σ τ := by sorry
theorem s_better {σ τ : j_G} (hR : j_Rel σ τ) (a1 : Int32) : ∃ vx : Int32, ∃ σ1 : j_G, f_X11_better a1 σ = some (vx, σ1) ∧ ∃ vm : Int32, ∃ τ1 : j_G, f_X12_better a1 τ = some (vm, τ1) ∧ j_Rel σ1 τ1 := by sorry
theorem s_swap {σ τ : j_G} (hR : j_Rel σ τ) (a1 : Int32) (a2 : Int32) : ∃ vx : Int32, ∃ σ1 : j_G, f_X11_swap a1 a2 σ = some (vx, σ1) ∧ ∃ vm : Int32, ∃ τ1 : j_G, f_X12_swap a1 a2 τ = some (vm, τ1) ∧ j_Rel σ1 τ1 := by sorry
theorem s_paint {σ τ : j_G} (hR : j_Rel σ τ) (a1 : Int32) (a2 : Int32) : ∃ vx : Int32, ∃ σ1 : j_G, f_X11_paint a1 a2 σ = some (vx, σ1) ∧ ∃ vm : Int32, ∃ τ1 : j_G, f_X12_paint a1 a2 τ = some (vm, τ1) ∧ j_Rel σ1 τ1 := by sorry
theorem s_turn {σ τ : j_G} (hR : j_Rel σ τ) (a1 : Int32) : ∃ vx : Int32, ∃ σ1 : j_G, f_X11_turn a1 σ = some (vx, σ1) ∧ ∃ vm : Int32, ∃ τ1 : j_G, f_X12_turn a1 τ = some (vm, τ1) ∧ j_Rel σ1 τ1 := by sorry
theorem s_lucky {σ τ : j_G} (hR : j_Rel σ τ) (a1 : Int32) : ∃ vx : Int32, ∃ σ1 : j_G, f_X11_lucky a1 σ = some (vx, σ1) ∧ ∃ vm : Int32, ∃ τ1 : j_G, f_X12_lucky a1 τ = some (vm, τ1) ∧ j_Rel σ1 τ1 := by sorry
theorem s_shut {σ τ : j_G} (hR : j_Rel σ τ) (a1 : Int32) (a2 : Int32) : ∃ vx : Int32, ∃ σ1 : j_G, f_X11_shut a1 a2 σ = some (vx, σ1) ∧ ∃ vm : Int32, ∃ τ1 : j_G, f_X12_shut a1 a2 τ = some (vm, τ1) ∧ j_Rel σ1 τ1 := by sorry
theorem s_train {σ τ : j_G} (hR : j_Rel σ τ) (a1 : Int32) (a2 : Int32) (a3 : Int32) : ∃ vx : Int32, ∃ σ1 : j_G, f_X11_train a1 a2 a3 σ = some (vx, σ1) ∧ ∃ vm : Int32, ∃ τ1 : j_G, f_X12_train a1 a2 a3 τ = some (vm, τ1) ∧ j_Rel σ1 τ1 := by sorry
theorem s_drawn {σ τ : j_G} (hR : j_Rel σ τ) (a1 : Int32) (a2 : Int32) (a3 : Int32) : ∃ vx : Int32, ∃ σ1 : j_G, f_X11_drawn a1 a2 a3 σ = some (vx, σ1) ∧ ∃ vm : Int32, ∃ τ1 : j_G, f_X12_drawn a1 a2 a3 τ = some (vm, τ1) ∧ j_Rel σ1 τ1 := by sorry
theorem s_night {σ τ : j_G} (hR : j_Rel σ τ) (a1 : Int32) (a2 : Int32) (a3 : Int32) : ∃ vx : Int32, ∃ σ1 : j_G, f_X11_night a1 a2 a3 σ = some (vx, σ1) ∧ ∃ vm : Int32, ∃ τ1 : j_G, f_X12_night a1 a2 a3 τ = some (vm, τ1) ∧ j_Rel σ1 τ1 := by sorry
theorem s_years {σ τ : j_G} (hR : j_Rel σ τ) (a1 : Int32) (a2 : Int32) (a3 : Int32) (a4 : Int32) : ∃ vx : Int32, ∃ σ1 : j_G, f_X11_years a1 a2 a3 a4 σ = some (vx, σ1) ∧ ∃ vm : Int32, ∃ τ1 : j_G, f_X12_years a1 a2 a3 a4 τ = some (vm, τ1) ∧ j_Rel σ1 τ1 := by sorry
theorem s_count {σ τ : j_G} (hR : j_Rel σ τ) (a1 : Int32) : ∃ vx : Int32, f_X11_count a1 σ = some vx ∧ ∃ vm : Int32, f_X12_count a1 τ = some vm ∧ j_Rel σ τ := by sorry
theorem s_image {σ τ : j_G} (hR : j_Rel σ τ) (a1 : Int32) : ∃ vx : Int32, ∃ σ1 : j_G, f_X11_image a1 σ = some (vx, σ1) ∧ ∃ vm : Int32, ∃ τ1 : j_G, f_X12_image a1 τ = some (vm, τ1) ∧ j_Rel σ1 τ1 := by sorry
theorem s_back {σ τ : j_G} (hR : j_Rel σ τ) (a1 : Int32) : ∃ vx : Int32, ∃ σ1 : j_G, f_X11_back a1 σ = some (vx, σ1) ∧ ∃ vm : Int32, ∃ τ1 : j_G, f_X12_back a1 τ = some (vm, τ1) ∧ j_Rel σ1 τ1 := by sorry
theorem s_row {σ τ : j_G} (hR : j_Rel σ τ) (a1 : Int32) (a2 : Int32) (a3 : Int32) : ∃ vx : Int32, ∃ σ1 : j_G, f_X11_row a1 a2 a3 σ = some (vx, σ1) ∧ ∃ vm : Int32, ∃ τ1 : j_G, f_X12_row a1 a2 a3 τ = some (vm, τ1) ∧ j_Rel σ1 τ1 ∧ vx = vm := by sorry
theorem s_write {σ τ : j_G} (hR : j_Rel σ τ) (a1 : Int32) (a2 : Int32) (a3 : Int64) : ∃ vx : Int32, ∃ σ1 : j_G, f_X11_write a1 a2 a3 σ = some (vx, σ1) ∧ ∃ vm : Int32, ∃ τ1 : j_G, f_X12_write a1 a2 a3 τ = some (vm, τ1) ∧ j_Rel σ1 τ1 := by sorry
theorem s_paste {σ τ : j_G} (hR : j_Rel σ τ) (a1 : Int32) (a2 : Int32) (a3 : Int32) (a4 : Int32) (a5 : Int32) : ∃ vx : Int32, ∃ σ1 : j_G, f_X11_paste a1 a2 a3 a4 a5 σ = some (vx, σ1) ∧ ∃ vm : Int32, ∃ τ1 : j_G, f_X12_paste a1 a2 a3 a4 a5 τ = some (vm, τ1) ∧ j_Rel σ1 τ1 := by sorry
