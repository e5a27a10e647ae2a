/-! ===== the facts ===== -/
theorem s_feed {σ τ : j_G} (hR : j_Rel σ τ) (a1 : Int32) (a2 : Int32) (a3 : Int32) (a4 : Int32) (a5 : Int32) : ∃ vx : Int32, ∃ σ1 : j_G, f_X11_feed a1 a2 a3 a4 a5 σ = some (vx, σ1) ∧ ∃ vm : Int32, ∃ τ1 : j_G, f_X12_feed a1 a2 a3 a4 a5 τ = some (vm, τ1) ∧ j_Rel σ1 τ1 := by
  obtain ⟨v, σ1, τ1, e1, e2, r⟩ := z_feed hR a1 a2 a3 a4 a5
  exact ⟨v, σ1, e1, v, τ1, e2, r⟩
theorem s_end {σ τ : j_G} (hR : j_Rel σ τ) (a1 : Int32) : ∃ vx : Int32, ∃ σ1 : j_G, f_X11_end a1 σ = some (vx, σ1) ∧ ∃ vm : Int32, ∃ τ1 : j_G, f_X12_end a1 τ = some (vm, τ1) ∧ j_Rel σ1 τ1 := by
  obtain ⟨v, σ1, τ1, e1, e2, r⟩ := z_end hR a1
  exact ⟨v, σ1, e1, v, τ1, e2, r⟩
theorem s_board {σ τ : j_G} (hR : j_Rel σ τ) : ∃ vx : Int32, ∃ σ1 : j_G, f_X11_board σ = some (vx, σ1) ∧ ∃ vm : Int32, ∃ τ1 : j_G, f_X12_board τ = some (vm, τ1) ∧ j_Rel σ1 τ1 := by
  obtain ⟨v, σ1, τ1, e1, e2, r⟩ := z_board hR
  exact ⟨v, σ1, e1, v, τ1, e2, r⟩
theorem s_fault {σ τ : j_G} (hR : j_Rel σ τ) (a1 : Int32) : ∃ vx : Int32, f_X11_fault a1 σ = vx ∧ ∃ vm : Int32, f_X12_fault a1 τ = vm ∧ j_Rel σ τ := by
  exact ⟨_, rfl, _, rfl, hR⟩
theorem s_drum {σ τ : j_G} (hR : j_Rel σ τ) (a1 : Int32) (a2 : Int32) : ∃ vx : Int32, f_X11_drum a1 a2 σ = some vx ∧ ∃ vm : Int32, f_X12_drum a1 a2 τ = some vm ∧ j_Rel σ τ := by
  obtain ⟨v, e1, e2⟩ := z_drum hR a1 a2
  exact ⟨v, e1, v, e2, hR⟩
theorem s_player {σ τ : j_G} (hR : j_Rel σ τ) (a1 : Int32) (a2 : Int32) : ∃ vx : Int32, f_X11_player a1 a2 σ = some vx ∧ ∃ vm : Int32, f_X12_player a1 a2 τ = some vm ∧ j_Rel σ τ := by
  obtain ⟨v, e1, e2⟩ := z_player hR a1 a2
  exact ⟨v, e1, v, e2, hR⟩
theorem s_stay {σ τ : j_G} (hR : j_Rel σ τ) (a1 : Int32) : ∃ vx : Int32, f_X11_stay a1 σ = some vx ∧ ∃ vm : Int32, f_X12_stay a1 τ = some vm ∧ j_Rel σ τ := by
  obtain ⟨v, e1, e2⟩ := z_stay hR a1
  exact ⟨v, e1, v, e2, hR⟩
theorem s_comings {σ τ : j_G} (hR : j_Rel σ τ) : ∃ vx : Int32, ∃ σ1 : j_G, f_X11_comings σ = some (vx, σ1) ∧ ∃ vm : Int32, ∃ τ1 : j_G, f_X12_comings τ = some (vm, τ1) ∧ j_Rel σ1 τ1 := by
  obtain ⟨v, σ1, τ1, e1, e2, r⟩ := z_comings hR
  exact ⟨v, σ1, e1, v, τ1, e2, r⟩
theorem s_comes {σ τ : j_G} (hR : j_Rel σ τ) (a1 : Int32) (a2 : Int32) : ∃ vx : Int32, ∃ σ1 : j_G, f_X11_comes a1 a2 σ = some (vx, σ1) ∧ ∃ vm : Int32, ∃ τ1 : j_G, f_X12_comes a1 a2 τ = some (vm, τ1) ∧ j_Rel σ1 τ1 := by
  obtain ⟨v, σ1, τ1, e1, e2, r⟩ := z_comes hR a1 a2
  exact ⟨v, σ1, e1, v, τ1, e2, r⟩
theorem s_up {σ τ : j_G} (hR : j_Rel σ τ) (a1 : Int32) : ∃ vx : Int32, ∃ σ1 : j_G, f_X11_up a1 σ = some (vx, σ1) ∧ ∃ vm : Int32, ∃ τ1 : j_G, f_X12_up a1 τ = some (vm, τ1) ∧ j_Rel σ1 τ1 := by
  obtain ⟨v, σ1, τ1, e1, e2, r⟩ := z_up hR a1
  exact ⟨v, σ1, e1, v, τ1, e2, r⟩
theorem s_calm {σ τ : j_G} (hR : j_Rel σ τ) : ∃ vx : Int32, ∃ σ1 : j_G, f_X11_calm σ = some (vx, σ1) ∧ ∃ vm : Int32, ∃ τ1 : j_G, f_X12_calm τ = some (vm, τ1) ∧ j_Rel σ1 τ1 := by
  obtain ⟨v, σ1, τ1, e1, e2, r⟩ := z_calm hR
  exact ⟨v, σ1, e1, v, τ1, e2, r⟩
theorem s_steps {σ τ : j_G} (hR : j_Rel σ τ) (a1 : Int32) (a2 : Int32) : ∃ vx : Int32, f_X11_steps a1 a2 σ = some vx ∧ ∃ vm : Int32, f_X12_steps a1 a2 τ = some vm ∧ j_Rel σ τ := by
  obtain ⟨v, e1, e2⟩ := z_steps hR a1 a2
  exact ⟨v, e1, v, e2, hR⟩
theorem s_pace {σ τ : j_G} (hR : j_Rel σ τ) (a1 : Int32) (a2 : Int32) : ∃ vx : Int32, ∃ σ1 : j_G, f_X11_pace a1 a2 σ = some (vx, σ1) ∧ ∃ vm : Int32, f_X12_pace a1 a2 τ = some vm ∧ j_Rel σ1 τ := by
  obtain ⟨v, σ1, e1, e2, r⟩ := z_pace hR a1 a2
  exact ⟨v, σ1, e1, v, e2, r⟩
theorem s_aware {σ τ : j_G} (hR : j_Rel σ τ) (a1 : Int32) (a2 : Int32) : ∃ vx : Int32, ∃ σ1 : j_G, f_X11_aware a1 a2 σ = some (vx, σ1) ∧ ∃ vm : Int32, ∃ τ1 : j_G, f_X12_aware a1 a2 τ = some (vm, τ1) ∧ j_Rel σ1 τ1 := by
  obtain ⟨v, σ1, τ1, e1, e2, r⟩ := z_aware hR a1 a2
  exact ⟨v, σ1, e1, v, τ1, e2, r⟩
theorem s_hits {σ τ : j_G} (hR : j_Rel σ τ) (a1 : Int32) : ∃ vx : Int32, ∃ σ1 : j_G, f_X11_hits a1 σ = some (vx, σ1) ∧ ∃ vm : Int32, ∃ τ1 : j_G, f_X12_hits a1 τ = some (vm, τ1) ∧ j_Rel σ1 τ1 := by
  obtain ⟨v, σ1, τ1, e1, e2, r⟩ := z_hits hR a1
  exact ⟨v, σ1, e1, v, τ1, e2, r⟩
theorem s_hit {σ τ : j_G} (hR : j_Rel σ τ) (a1 : Int32) (a2 : Int32) : ∃ vx : Int32, ∃ σ1 : j_G, f_X11_hit a1 a2 σ = some (vx, σ1) ∧ ∃ vm : Int32, ∃ τ1 : j_G, f_X12_hit a1 a2 τ = some (vm, τ1) ∧ j_Rel σ1 τ1 := by
  obtain ⟨v, σ1, τ1, e1, e2, r⟩ := z_hit hR a1 a2
  exact ⟨v, σ1, e1, v, τ1, e2, r⟩
theorem s_twice {σ τ : j_G} (hR : j_Rel σ τ) (a1 : Int32) (a2 : Int32) : ∃ vx : Int32, ∃ σ1 : j_G, f_X11_twice a1 a2 σ = some (vx, σ1) ∧ ∃ vm : Int32, ∃ τ1 : j_G, f_X12_twice a1 a2 τ = some (vm, τ1) ∧ j_Rel σ1 τ1 := by
  obtain ⟨v, σ1, τ1, e1, e2, r⟩ := z_twice hR a1 a2
  exact ⟨v, σ1, e1, v, τ1, e2, r⟩
theorem s_where {σ τ : j_G} (hR : j_Rel σ τ) (a1 : Int32) (a2 : Int32) : ∃ vx : Int32, ∃ σ1 : j_G, f_X11_where a1 a2 σ = some (vx, σ1) ∧ ∃ vm : Int32, ∃ τ1 : j_G, f_X12_where a1 a2 τ = some (vm, τ1) ∧ j_Rel σ1 τ1 := by
  obtain ⟨v, σ1, τ1, e1, e2, r⟩ := z_where hR a1 a2
  exact ⟨v, σ1, e1, v, τ1, e2, r⟩
theorem s_missed {σ τ : j_G} (hR : j_Rel σ τ) (a1 : Int32) : ∃ vx : Int32, ∃ σ1 : j_G, f_X11_missed a1 σ = some (vx, σ1) ∧ ∃ vm : Int32, ∃ τ1 : j_G, f_X12_missed a1 τ = some (vm, τ1) ∧ j_Rel σ1 τ1 := by
  obtain ⟨v, σ1, τ1, e1, e2, r⟩ := z_missed hR a1
  exact ⟨v, σ1, e1, v, τ1, e2, r⟩
theorem s_walked {σ τ : j_G} (hR : j_Rel σ τ) (a1 : Int32) : ∃ vx : Int32, ∃ σ1 : j_G, f_X11_walked a1 σ = some (vx, σ1) ∧ ∃ vm : Int32, ∃ τ1 : j_G, f_X12_walked a1 τ = some (vm, τ1) ∧ j_Rel σ1 τ1 := by
  obtain ⟨v, σ1, τ1, e1, e2, r⟩ := z_walked hR a1
  exact ⟨v, σ1, e1, v, τ1, e2, r⟩
theorem s_best {σ τ : j_G} (hR : j_Rel σ τ) (a1 : Int32) : ∃ vx : Int32, ∃ σ1 : j_G, f_X11_best a1 σ = some (vx, σ1) ∧ ∃ vm : Int32, ∃ τ1 : j_G, f_X12_best a1 τ = some (vm, τ1) ∧ j_Rel σ1 τ1 := by
  exact t_best hR a1
theorem s_ahead {σ τ : j_G} (hR : j_Rel σ τ) (a1 : Int32) (a2 : Int32) : ∃ vx : Int32, ∃ σ1 : j_G, f_X11_ahead a1 a2 σ = some (vx, σ1) ∧ ∃ vm : Int32, ∃ τ1 : j_G, f_X12_ahead a1 a2 τ = some (vm, τ1) ∧ j_Rel σ1 τ1 := by
  exact t_ahead hR a1 a2
theorem s_learns {σ τ : j_G} (hR : j_Rel σ τ) (a1 : Int32) (a2 : Int32) : ∃ vx : Int32, ∃ σ1 : j_G, f_X11_learns a1 a2 σ = some (vx, σ1) ∧ ∃ vm : Int32, ∃ τ1 : j_G, f_X12_learns a1 a2 τ = some (vm, τ1) ∧ j_Rel σ1 τ1 := by
  obtain ⟨v, σ1, τ1, e1, e2, r⟩ := z_learns hR a1 a2
  exact ⟨v, σ1, e1, v, τ1, e2, r⟩
theorem s_enough {σ τ : j_G} (hR : j_Rel σ τ) (a1 : Int32) : ∃ vx : Int32, ∃ σ1 : j_G, f_X11_enough a1 σ = some (vx, σ1) ∧ ∃ vm : Int32, ∃ τ1 : j_G, f_X12_enough a1 τ = some (vm, τ1) ∧ j_Rel σ1 τ1 := by
  obtain ⟨v, σ1, τ1, e1, e2, r⟩ := z_enough hR a1
  exact ⟨v, σ1, e1, v, τ1, e2, r⟩
theorem s_waits {σ τ : j_G} (hR : j_Rel σ τ) (a1 : Int32) (a2 : Int32) : ∃ vx : Int32, ∃ σ1 : j_G, f_X11_waits a1 a2 σ = some (vx, σ1) ∧ ∃ vm : Int32, ∃ τ1 : j_G, f_X12_waits a1 a2 τ = some (vm, τ1) ∧ j_Rel σ1 τ1 := by
  obtain ⟨v, σ1, τ1, e1, e2, r⟩ := z_waits hR a1 a2
  exact ⟨v, σ1, e1, v, τ1, e2, r⟩
theorem s_mean {σ τ : j_G} (hR : j_Rel σ τ) (a1 : Int32) (a2 : Int32) : ∃ vx : Int32, f_X11_mean a1 a2 σ = some vx ∧ ∃ vm : Int32, f_X12_mean a1 a2 τ = some vm ∧ j_Rel σ τ := by
  obtain ⟨v, w, e1, e2⟩ := z_mean hR a1 a2
  exact ⟨v, e1, w, e2, hR⟩
theorem s_middle {σ τ : j_G} (hR : j_Rel σ τ) (a1 : Int32) : ∃ vx : Int32, f_X11_middle a1 σ = some vx ∧ ∃ vm : Int32, f_X12_middle a1 τ = some vm ∧ j_Rel σ τ := by
  obtain ⟨v, e1, e2⟩ := z_middle hR a1
  exact ⟨v, e1, v, e2, hR⟩
theorem s_reach {σ τ : j_G} (hR : j_Rel σ τ) (a1 : Int32) (a2 : Int32) : ∃ vx : Int32, ∃ σ1 : j_G, f_X11_reach a1 a2 σ = some (vx, σ1) ∧ ∃ vm : Int32, f_X12_reach a1 a2 τ = some vm ∧ j_Rel σ1 τ := by
  obtain ⟨v, σ1, e1, e2, r⟩ := z_reach hR a1 a2
  exact ⟨v, σ1, e1, v, e2, r⟩
theorem s_post {σ τ : j_G} (hR : j_Rel σ τ) (a1 : Int32) : ∃ vx : Int32, ∃ σ1 : j_G, f_X11_post a1 σ = some (vx, σ1) ∧ ∃ vm : Int32, f_X12_post a1 τ = some vm ∧ j_Rel σ1 τ := by
  obtain ⟨v, σ1, e1, e2, r⟩ := z_post hR a1
  exact ⟨v, σ1, e1, v, e2, r⟩
theorem s_slack {σ τ : j_G} (hR : j_Rel σ τ) (a1 : Int32) : ∃ vx : Int32, ∃ σ1 : j_G, f_X11_slack a1 σ = some (vx, σ1) ∧ ∃ vm : Int32, ∃ τ1 : j_G, f_X12_slack a1 τ = some (vm, τ1) ∧ j_Rel σ1 τ1 := by
  obtain ⟨v, σ1, τ1, e1, e2, r⟩ := z_slack hR a1
  exact ⟨v, σ1, e1, v, τ1, e2, r⟩
theorem s_rows {σ τ : j_G} (hR : j_Rel σ τ) (a1 : Int32) (a2 : Int32) : ∃ vx : Int64, ∃ σ1 : j_G, f_X11_rows a1 a2 σ = some (vx, σ1) ∧ ∃ vm : Int64, ∃ τ1 : j_G, f_X12_rows a1 a2 τ = some (vm, τ1) ∧ j_Rel σ1 τ1 := by
  exact t_rows hR a1 a2
theorem s_ends {σ τ : j_G} (hR : j_Rel σ τ) (a1 : Int32) (a2 : Int32) (a3 : Int32) : ∃ vx : Int64, ∃ σ1 : j_G, f_X11_ends a1 a2 a3 σ = some (vx, σ1) ∧ ∃ vm : Int64, ∃ τ1 : j_G, f_X12_ends a1 a2 a3 τ = some (vm, τ1) ∧ j_Rel σ1 τ1 := by
  exact t_ends hR a1 a2 a3
theorem s_fair {σ τ : j_G} (hR : j_Rel σ τ) (a1 : Int32) : ∃ vx : Int32, ∃ σ1 : j_G, f_X11_fair a1 σ = some (vx, σ1) ∧ ∃ vm : Int32, ∃ τ1 : j_G, f_X12_fair a1 τ = some (vm, τ1) ∧ j_Rel σ1 τ1 := by
  exact t_fair hR a1
theorem s_breaks {σ τ : j_G} (hR : j_Rel σ τ) (a1 : Int32) : ∃ vx : Int32, f_X11_breaks a1 σ = some vx ∧ ∃ vm : Int32, f_X12_breaks a1 τ = some vm ∧ j_Rel σ τ := by
  obtain ⟨v, e1, e2⟩ := z_breaks hR a1
  exact ⟨v, e1, v, e2, hR⟩
theorem s_period {σ τ : j_G} (hR : j_Rel σ τ) (a1 : Int32) : ∃ vx : Int32, f_X11_period a1 σ = some vx ∧ ∃ vm : Int32, f_X12_period a1 τ = some vm ∧ j_Rel σ τ := by
  obtain ⟨v, e1, e2⟩ := z_period hR a1
  exact ⟨v, e1, v, e2, hR⟩
theorem s_periods {σ τ : j_G} (hR : j_Rel σ τ) (a1 : Int32) : ∃ vx : Int32, f_X11_periods a1 σ = some vx ∧ ∃ vm : Int32, f_X12_periods a1 τ = some vm ∧ j_Rel σ τ := by
  obtain ⟨v, e1, e2⟩ := z_periods hR a1
  exact ⟨v, e1, v, e2, hR⟩
theorem s_luck {σ τ : j_G} (hR : j_Rel σ τ) (a1 : Int32) : ∃ vx : Int32, f_X11_luck a1 σ = some vx ∧ ∃ vm : Int32, f_X12_luck a1 τ = some vm ∧ j_Rel σ τ := by
  obtain ⟨v, e1, e2⟩ := z_luck hR a1
  exact ⟨v, e1, v, e2, hR⟩
theorem s_fits {σ τ : j_G} (hR : j_Rel σ τ) (a1 : Int32) : ∃ vx : Int32, f_X11_fits a1 σ = some vx ∧ ∃ vm : Int32, f_X12_fits a1 τ = some vm ∧ j_Rel σ τ := by
  obtain ⟨v, e1, e2⟩ := z_fits hR a1
  exact ⟨v, e1, v, e2, hR⟩
theorem s_place {σ τ : j_G} (hR : j_Rel σ τ) (a1 : Int32) (a2 : Int32) : ∃ vx : Int32, f_X11_place a1 a2 σ = some vx ∧ ∃ vm : Int32, f_X12_place a1 a2 τ = some vm ∧ j_Rel σ τ := by
  obtain ⟨v, e1, e2⟩ := z_place hR a1 a2
  exact ⟨v, e1, v, e2, hR⟩
theorem s_next {σ τ : j_G} (hR : j_Rel σ τ) (a1 : Int32) : ∃ vx : Int32, f_X11_next a1 σ = some vx ∧ ∃ vm : Int32, f_X12_next a1 τ = some vm ∧ j_Rel σ τ := by
  obtain ⟨v, e1, e2⟩ := z_next hR a1
  exact ⟨v, e1, v, e2, hR⟩
theorem s_needed {σ τ : j_G} (hR : j_Rel σ τ) (a1 : Int32) : ∃ vx : Int32, f_X11_needed a1 σ = some vx ∧ ∃ vm : Int32, f_X12_needed a1 τ = some vm ∧ j_Rel σ τ := by
  obtain ⟨v, e1, e2⟩ := z_needed hR a1
  exact ⟨v, e1, v, e2, hR⟩
theorem s_known {σ τ : j_G} (hR : j_Rel σ τ) : ∃ vx : Int32, f_X11_known σ = some vx ∧ ∃ vm : Int32, f_X12_known τ = some vm ∧ j_Rel σ τ := by
  obtain ⟨v, e1, e2⟩ := z_known hR
  exact ⟨v, e1, v, e2, hR⟩
theorem s_rash {σ τ : j_G} (hR : j_Rel σ τ) (a1 : Int32) : ∃ vx : Int32, ∃ σ1 : j_G, f_X11_rash a1 σ = some (vx, σ1) ∧ ∃ vm : Int32, ∃ τ1 : j_G, f_X12_rash a1 τ = some (vm, τ1) ∧ j_Rel σ1 τ1 := by
  obtain ⟨v, σ1, τ1, e1, e2, r⟩ := z_rash hR a1
  exact ⟨v, σ1, e1, v, τ1, e2, r⟩
theorem s_look {σ τ : j_G} (hR : j_Rel σ τ) (a1 : Int32) (a2 : Int32) : ∃ vx : Int32, ∃ σ1 : j_G, f_X11_look a1 a2 σ = some (vx, σ1) ∧ ∃ vm : Int32, ∃ τ1 : j_G, f_X12_look a1 a2 τ = some (vm, τ1) ∧ j_Rel σ1 τ1 := by
  obtain ⟨v, σ1, τ1, e1, e2, r⟩ := z_look hR a1 a2
  exact ⟨v, σ1, e1, v, τ1, e2, r⟩
theorem s_line {σ τ : j_G} (hR : j_Rel σ τ) (a1 : Int32) : ∃ vx : Int32, ∃ σ1 : j_G, f_X11_line a1 σ = some (vx, σ1) ∧ ∃ vm : Int32, ∃ τ1 : j_G, f_X12_line a1 τ = some (vm, τ1) ∧ j_Rel σ1 τ1 := by
  obtain ⟨v, σ1, τ1, e1, e2, r⟩ := z_line hR a1
  exact ⟨v, σ1, e1, v, τ1, e2, r⟩
theorem s_two {σ τ : j_G} (hR : j_Rel σ τ) (a1 : Int32) (a2 : Int32) (a3 : Int32) : ∃ vx : Int32, ∃ σ1 : j_G, f_X11_two a1 a2 a3 σ = some (vx, σ1) ∧ ∃ vm : Int32, ∃ τ1 : j_G, f_X12_two a1 a2 a3 τ = some (vm, τ1) ∧ j_Rel σ1 τ1 := by
  exact t_two hR a1 a2 a3
theorem s_tickets {σ τ : j_G} (hR : j_Rel σ τ) (a1 : Int32) : ∃ vx : Int32, ∃ σ1 : j_G, f_X11_tickets a1 σ = some (vx, σ1) ∧ ∃ vm : Int32, ∃ τ1 : j_G, f_X12_tickets a1 τ = some (vm, τ1) ∧ j_Rel σ1 τ1 := by
  obtain ⟨v, σ1, τ1, e1, e2, r⟩ := z_tickets hR a1
  exact ⟨v, σ1, e1, v, τ1, e2, r⟩
theorem s_prize {σ τ : j_G} (hR : j_Rel σ τ) (a1 : Int32) : ∃ vx : Int32, ∃ σ1 : j_G, f_X11_prize a1 σ = some (vx, σ1) ∧ ∃ vm : Int32, ∃ τ1 : j_G, f_X12_prize a1 τ = some (vm, τ1) ∧ j_Rel σ1 τ1 := by
  obtain ⟨v, σ1, τ1, e1, e2, r⟩ := z_prize hR a1
  exact ⟨v, σ1, e1, v, τ1, e2, r⟩
theorem s_counted {σ τ : j_G} (hR : j_Rel σ τ) (a1 : Int32) : ∃ vx : Int32, ∃ σ1 : j_G, f_X11_counted a1 σ = some (vx, σ1) ∧ ∃ vm : Int32, ∃ τ1 : j_G, f_X12_counted a1 τ = some (vm, τ1) ∧ j_Rel σ1 τ1 := by
  obtain ⟨v, σ1, τ1, e1, e2, r⟩ := z_counted hR a1
  exact ⟨v, σ1, e1, v, τ1, e2, r⟩
theorem s_scored {σ τ : j_G} (hR : j_Rel σ τ) (a1 : Int32) : ∃ vx : Int32, ∃ σ1 : j_G, f_X11_scored a1 σ = some (vx, σ1) ∧ ∃ vm : Int32, ∃ τ1 : j_G, f_X12_scored a1 τ = some (vm, τ1) ∧ j_Rel σ1 τ1 := by
  obtain ⟨v, σ1, τ1, e1, e2, r⟩ := z_scored hR a1
  exact ⟨v, σ1, e1, v, τ1, e2, r⟩
theorem s_early {σ τ : j_G} (hR : j_Rel σ τ) (a1 : Int32) (a2 : Int32) : ∃ vx : Int32, ∃ σ1 : j_G, f_X11_early a1 a2 σ = some (vx, σ1) ∧ ∃ vm : Int32, ∃ τ1 : j_G, f_X12_early a1 a2 τ = some (vm, τ1) ∧ j_Rel σ1 τ1 := by
  obtain ⟨v, σ1, τ1, e1, e2, r⟩ := z_early hR a1 a2
  exact ⟨v, σ1, e1, v, τ1, e2, r⟩
theorem s_often {σ τ : j_G} (hR : j_Rel σ τ) (a1 : Int32) : ∃ vx : Int32, f_X11_often a1 σ = some vx ∧ ∃ vm : Int32, f_X12_often a1 τ = some vm ∧ j_Rel σ τ := by
  obtain ⟨v, e1, e2⟩ := z_often hR a1
  exact ⟨v, e1, v, e2, hR⟩
theorem s_balance {σ τ : j_G} (hR : j_Rel σ τ) : ∃ vx : Int32, f_X11_balance σ = some vx ∧ ∃ vm : Int32, f_X12_balance τ = some vm ∧ j_Rel σ τ := by
  obtain ⟨v, e1, e2⟩ := z_balance hR
  exact ⟨v, e1, v, e2, hR⟩
theorem s_path {σ τ : j_G} (hR : j_Rel σ τ) : ∃ vx : Int32, f_X11_path σ = some vx ∧ ∃ vm : Int32, f_X12_path τ = some vm ∧ j_Rel σ τ := by
  obtain ⟨v, e1, e2⟩ := z_path hR
  exact ⟨v, e1, v, e2, hR⟩
theorem s_better {σ τ : j_G} (hR : j_Rel σ τ) (a1 : Int32) : ∃ vx : Int32, ∃ σ1 : j_G, f_X11_better a1 σ = some (vx, σ1) ∧ ∃ vm : Int32, ∃ τ1 : j_G, f_X12_better a1 τ = some (vm, τ1) ∧ j_Rel σ1 τ1 := by
  obtain ⟨v, σ1, τ1, e1, e2, r⟩ := z_better hR a1
  exact ⟨v, σ1, e1, v, τ1, e2, r⟩
theorem s_swap {σ τ : j_G} (hR : j_Rel σ τ) (a1 : Int32) (a2 : Int32) : ∃ vx : Int32, ∃ σ1 : j_G, f_X11_swap a1 a2 σ = some (vx, σ1) ∧ ∃ vm : Int32, ∃ τ1 : j_G, f_X12_swap a1 a2 τ = some (vm, τ1) ∧ j_Rel σ1 τ1 := by
  obtain ⟨v, σ1, τ1, e1, e2, r⟩ := z_swap hR a1 a2
  exact ⟨v, σ1, e1, v, τ1, e2, r⟩
theorem s_paint {σ τ : j_G} (hR : j_Rel σ τ) (a1 : Int32) (a2 : Int32) : ∃ vx : Int32, ∃ σ1 : j_G, f_X11_paint a1 a2 σ = some (vx, σ1) ∧ ∃ vm : Int32, ∃ τ1 : j_G, f_X12_paint a1 a2 τ = some (vm, τ1) ∧ j_Rel σ1 τ1 := by
  obtain ⟨v, σ1, τ1, e1, e2, r⟩ := z_paint hR a1 a2
  exact ⟨v, σ1, e1, v, τ1, e2, r⟩
theorem s_turn {σ τ : j_G} (hR : j_Rel σ τ) (a1 : Int32) : ∃ vx : Int32, ∃ σ1 : j_G, f_X11_turn a1 σ = some (vx, σ1) ∧ ∃ vm : Int32, ∃ τ1 : j_G, f_X12_turn a1 τ = some (vm, τ1) ∧ j_Rel σ1 τ1 := by
  obtain ⟨v, σ1, τ1, e1, e2, r⟩ := z_turn hR a1
  exact ⟨v, σ1, e1, v, τ1, e2, r⟩
theorem s_lucky {σ τ : j_G} (hR : j_Rel σ τ) (a1 : Int32) : ∃ vx : Int32, ∃ σ1 : j_G, f_X11_lucky a1 σ = some (vx, σ1) ∧ ∃ vm : Int32, ∃ τ1 : j_G, f_X12_lucky a1 τ = some (vm, τ1) ∧ j_Rel σ1 τ1 := by
  obtain ⟨v, σ1, τ1, e1, e2, r⟩ := z_lucky hR a1
  exact ⟨v, σ1, e1, v, τ1, e2, r⟩
theorem s_shut {σ τ : j_G} (hR : j_Rel σ τ) (a1 : Int32) (a2 : Int32) : ∃ vx : Int32, ∃ σ1 : j_G, f_X11_shut a1 a2 σ = some (vx, σ1) ∧ ∃ vm : Int32, ∃ τ1 : j_G, f_X12_shut a1 a2 τ = some (vm, τ1) ∧ j_Rel σ1 τ1 := by
  obtain ⟨v, σ1, τ1, e1, e2, r⟩ := z_shut hR a1 a2
  exact ⟨v, σ1, e1, v, τ1, e2, r⟩
theorem s_train {σ τ : j_G} (hR : j_Rel σ τ) (a1 : Int32) (a2 : Int32) (a3 : Int32) : ∃ vx : Int32, ∃ σ1 : j_G, f_X11_train a1 a2 a3 σ = some (vx, σ1) ∧ ∃ vm : Int32, ∃ τ1 : j_G, f_X12_train a1 a2 a3 τ = some (vm, τ1) ∧ j_Rel σ1 τ1 := by
  obtain ⟨v, σ1, τ1, e1, e2, r⟩ := z_train hR a1 a2 a3
  exact ⟨v, σ1, e1, v, τ1, e2, r⟩
theorem s_drawn {σ τ : j_G} (hR : j_Rel σ τ) (a1 : Int32) (a2 : Int32) (a3 : Int32) : ∃ vx : Int32, ∃ σ1 : j_G, f_X11_drawn a1 a2 a3 σ = some (vx, σ1) ∧ ∃ vm : Int32, ∃ τ1 : j_G, f_X12_drawn a1 a2 a3 τ = some (vm, τ1) ∧ j_Rel σ1 τ1 := by
  obtain ⟨v, σ1, τ1, e1, e2, r⟩ := z_drawn hR a1 a2 a3
  exact ⟨v, σ1, e1, v, τ1, e2, r⟩
theorem s_night {σ τ : j_G} (hR : j_Rel σ τ) (a1 : Int32) (a2 : Int32) (a3 : Int32) : ∃ vx : Int32, ∃ σ1 : j_G, f_X11_night a1 a2 a3 σ = some (vx, σ1) ∧ ∃ vm : Int32, ∃ τ1 : j_G, f_X12_night a1 a2 a3 τ = some (vm, τ1) ∧ j_Rel σ1 τ1 := by
  obtain ⟨v, σ1, τ1, e1, e2, r⟩ := z_night hR a1 a2 a3
  exact ⟨v, σ1, e1, v, τ1, e2, r⟩
theorem s_years {σ τ : j_G} (hR : j_Rel σ τ) (a1 : Int32) (a2 : Int32) (a3 : Int32) (a4 : Int32) : ∃ vx : Int32, ∃ σ1 : j_G, f_X11_years a1 a2 a3 a4 σ = some (vx, σ1) ∧ ∃ vm : Int32, ∃ τ1 : j_G, f_X12_years a1 a2 a3 a4 τ = some (vm, τ1) ∧ j_Rel σ1 τ1 := by
  obtain ⟨v, σ1, τ1, e1, e2, r⟩ := z_years hR a1 a2 a3 a4
  exact ⟨v, σ1, e1, v, τ1, e2, r⟩
theorem s_count {σ τ : j_G} (hR : j_Rel σ τ) (a1 : Int32) : ∃ vx : Int32, f_X11_count a1 σ = some vx ∧ ∃ vm : Int32, f_X12_count a1 τ = some vm ∧ j_Rel σ τ := by
  obtain ⟨v, e1, e2⟩ := z_count hR a1
  exact ⟨v, e1, v, e2, hR⟩
theorem s_image {σ τ : j_G} (hR : j_Rel σ τ) (a1 : Int32) : ∃ vx : Int32, ∃ σ1 : j_G, f_X11_image a1 σ = some (vx, σ1) ∧ ∃ vm : Int32, ∃ τ1 : j_G, f_X12_image a1 τ = some (vm, τ1) ∧ j_Rel σ1 τ1 := by
  obtain ⟨v, σ1, τ1, e1, e2, r⟩ := z_image hR a1
  exact ⟨v, σ1, e1, v, τ1, e2, r⟩
theorem s_back {σ τ : j_G} (hR : j_Rel σ τ) (a1 : Int32) : ∃ vx : Int32, ∃ σ1 : j_G, f_X11_back a1 σ = some (vx, σ1) ∧ ∃ vm : Int32, ∃ τ1 : j_G, f_X12_back a1 τ = some (vm, τ1) ∧ j_Rel σ1 τ1 := by
  obtain ⟨v, σ1, τ1, e1, e2, r⟩ := z_back hR a1
  exact ⟨v, σ1, e1, v, τ1, e2, r⟩
theorem s_row {σ τ : j_G} (hR : j_Rel σ τ) (a1 : Int32) (a2 : Int32) (a3 : Int32) : ∃ vx : Int32, ∃ σ1 : j_G, f_X11_row a1 a2 a3 σ = some (vx, σ1) ∧ ∃ vm : Int32, ∃ τ1 : j_G, f_X12_row a1 a2 a3 τ = some (vm, τ1) ∧ j_Rel σ1 τ1 ∧ vx = vm := by
  obtain ⟨v, σ1, τ1, e1, e2, r⟩ := z_row hR a1 a2 a3
  exact ⟨v, σ1, e1, v, τ1, e2, r, rfl⟩
theorem s_write {σ τ : j_G} (hR : j_Rel σ τ) (a1 : Int32) (a2 : Int32) (a3 : Int64) : ∃ vx : Int32, ∃ σ1 : j_G, f_X11_write a1 a2 a3 σ = some (vx, σ1) ∧ ∃ vm : Int32, ∃ τ1 : j_G, f_X12_write a1 a2 a3 τ = some (vm, τ1) ∧ j_Rel σ1 τ1 := by
  obtain ⟨v, σ1, τ1, e1, e2, r⟩ := z_write hR a1 a2 a3
  exact ⟨v, σ1, e1, v, τ1, e2, r⟩
theorem s_paste {σ τ : j_G} (hR : j_Rel σ τ) (a1 : Int32) (a2 : Int32) (a3 : Int32) (a4 : Int32) (a5 : Int32) : ∃ vx : Int32, ∃ σ1 : j_G, f_X11_paste a1 a2 a3 a4 a5 σ = some (vx, σ1) ∧ ∃ vm : Int32, ∃ τ1 : j_G, f_X12_paste a1 a2 a3 a4 a5 τ = some (vm, τ1) ∧ j_Rel σ1 τ1 := by
  obtain ⟨v, σ1, τ1, e1, e2, r⟩ := z_paste hR a1 a2 a3 a4 a5
  exact ⟨v, σ1, e1, v, τ1, e2, r⟩
