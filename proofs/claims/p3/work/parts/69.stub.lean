theorem s_status (n : Nat) (hn : 70000 ≤ n) (σ : ms_T) (hR : RI σ)  : ws (f_X12_status n σ ) (fun res => RI res.2 ∧ ms_I res.2 667 = ms_I σ 667) := by
  sorry
theorem s_type (n : Nat) (hn : 70000 ≤ n) (σ : ms_T) (hR : RI σ) (a1 a2 : Int32) : ws (f_X12_type n σ a1 a2) (fun res => RI res.2 ∧ ms_I res.2 667 = ms_I σ 667) := by
  sorry
theorem s_feed (n : Nat) (hn : 70000 ≤ n) (σ : ms_T) (hR : RI σ) (a1 a2 a3 a4 a5 : Int32) : ws (f_X12_feed n σ a1 a2 a3 a4 a5) (fun res => RI res.2 ∧ fd_M σ res) := by
  sorry
theorem s_load (n : Nat) (hn : 70000 ≤ n) (σ : ms_T) (hR : RI σ) (a1 : Int32) : ws (f_X12_load n σ a1) (fun res => RI res.2 ∧ ld_M σ a1 res.2) := by
  sorry
theorem s_hear (n : Nat) (hn : 70000 ≤ n) (σ : ms_T) (hR : RI σ) (a1 : Int32) : ws (f_X12_hear n σ a1) (fun res => RI res.2 ∧ ld_M σ a1 res.2) := by
  sorry
theorem s_heard (n : Nat) (hn : 70000 ≤ n) (σ : ms_T) (hR : RI σ) (a1 : Int32) : ws (f_X12_heard n σ a1) (fun res => RI res.2 ∧ ms_I res.2 667 = ms_I σ 667) := by
  sorry
theorem s_fault (n : Nat) (hn : 70000 ≤ n) (σ : ms_T) (hR : RI σ) (a1 : Int32) : ws (f_X12_fault n σ a1) (fun res => RI res.2 ∧ ms_I res.2 667 = ms_I σ 667) := by
  sorry
theorem s_many (n : Nat) (hn : 70000 ≤ n) (σ : ms_T) (hR : RI σ) (a1 : Int32) : ws (f_X12_many n σ a1) (fun res => RI res.2 ∧ ms_I res.2 667 = ms_I σ 667) := by
  sorry
theorem s_size (n : Nat) (hn : 70000 ≤ n) (σ : ms_T) (hR : RI σ) (a1 : Int32) : ws (f_X12_size n σ a1) (fun res => RI res.2 ∧ ms_I res.2 667 = ms_I σ 667) := by
  sorry
theorem s_entry (n : Nat) (hn : 70000 ≤ n) (σ : ms_T) (hR : RI σ) (a1 a2 a3 : Int32) : ws (f_X12_entry n σ a1 a2 a3) (fun res => RI res.2 ∧ ms_I res.2 667 = ms_I σ 667) := by
  sorry
theorem s_head (n : Nat) (hn : 70000 ≤ n) (σ : ms_T) (hR : RI σ) (a1 a2 : Int32) : ws (f_X12_head n σ a1 a2) (fun res => RI res.2 ∧ ms_I res.2 667 = ms_I σ 667) := by
  sorry
theorem s_join (n : Nat) (hn : 70000 ≤ n) (σ : ms_T) (hR : RI σ) (a1 a2 : Int32) : ws (f_X12_join n σ a1 a2) (fun res => RI res.2 ∧ ms_I res.2 667 = ms_I σ 667) := by
  sorry
theorem s_mark (n : Nat) (hn : 70000 ≤ n) (σ : ms_T) (hR : RI σ)  : ws (f_X12_mark n σ ) (fun res => RI res.2 ∧ ms_I res.2 667 = ms_I σ 667) := by
  sorry
theorem s_frozen (n : Nat) (hn : 70000 ≤ n) (σ : ms_T) (hR : RI σ) (a1 a2 : Int32) : ws (f_X12_frozen n σ a1 a2) (fun res => RI res.2 ∧ ms_I res.2 667 = ms_I σ 667) := by
  sorry
theorem s_watcher (n : Nat) (hn : 70000 ≤ n) (σ : ms_T) (hR : RI σ) (a1 a2 : Int32) : ws (f_X12_watcher n σ a1 a2) (fun res => RI res.2 ∧ ms_I res.2 667 = ms_I σ 667) := by
  sorry
theorem s_add (n : Nat) (hn : 70000 ≤ n) (σ : ms_T) (hR : RI σ) (a1 : Int32) : ws (f_X12_add n σ a1) (fun res => RI res.2 ∧ ms_I res.2 667 = ms_I σ 667) := by
  sorry
theorem s_fork (n : Nat) (hn : 70000 ≤ n) (σ : ms_T) (hR : RI σ) (a1 a2 : Int32) : ws (f_X12_fork n σ a1 a2) (fun res => RI res.2 ∧ ms_I res.2 667 = ms_I σ 667) := by
  sorry
theorem s_freeze (n : Nat) (hn : 70000 ≤ n) (σ : ms_T) (hR : RI σ) (a1 : Int32) : ws (f_X12_freeze n σ a1) (fun res => RI res.2 ∧ ms_I res.2 667 = ms_I σ 667) := by
  sorry
theorem s_show (n : Nat) (hn : 70000 ≤ n) (σ : ms_T) (hR : RI σ) (a1 a2 a3 : Int32) : ws (f_X12_show n σ a1 a2 a3) (fun res => RI res.2 ∧ ms_I res.2 667 = ms_I σ 667) := by
  sorry
theorem s_meet (n : Nat) (hn : 70000 ≤ n) (σ : ms_T) (hR : RI σ) (a1 a2 a3 : Int32) : ws (f_X12_meet n σ a1 a2 a3) (fun res => RI res.2 ∧ ms_I res.2 667 = ms_I σ 667) := by
  sorry
theorem s_spoil (n : Nat) (hn : 70000 ≤ n) (σ : ms_T) (hR : RI σ) (a1 a2 a3 a4 : Int32) : ws (f_X12_spoil n σ a1 a2 a3 a4) (fun res => RI res.2 ∧ ms_I res.2 667 = ms_I σ 667) := by
  sorry
theorem s_push (n : Nat) (hn : 70000 ≤ n) (σ : ms_T) (hR : RI σ) (a1 : Int32) : ws (f_X12_push n σ a1) (fun res => RI res.2 ∧ ms_I res.2 667 = ms_I σ 667) := by
  sorry
theorem s_poke (n : Nat) (hn : 70000 ≤ n) (σ : ms_T) (hR : RI σ) (a1 a2 : Int32) : ws (f_X12_poke n σ a1 a2) (fun res => RI res.2 ∧ ms_I res.2 667 = ms_I σ 667) := by
  sorry
theorem s_pad (n : Nat) (hn : 70000 ≤ n) (σ : ms_T) (hR : RI σ) (a1 : Int32) : ws (f_X12_pad n σ a1) (fun res => RI res.2 ∧ ms_I res.2 667 = ms_I σ 667) := by
  sorry
theorem s_cut (n : Nat) (hn : 70000 ≤ n) (σ : ms_T) (hR : RI σ) (a1 : Int32) : ws (f_X12_cut n σ a1) (fun res => RI res.2 ∧ ms_I res.2 667 = ms_I σ 667) := by
  sorry
theorem s_include (n : Nat) (hn : 70000 ≤ n) (σ : ms_T) (hR : RI σ) (a1 a2 a3 : Int32) : ws (f_X12_include n σ a1 a2 a3) (fun res => RI res.2 ∧ ms_I res.2 667 = ms_I σ 667) := by
  sorry
theorem s_grow (n : Nat) (hn : 70000 ≤ n) (σ : ms_T) (hR : RI σ) (a1 a2 a3 : Int32) : ws (f_X12_grow n σ a1 a2 a3) (fun res => RI res.2 ∧ ms_I res.2 667 = ms_I σ 667) := by
  sorry
theorem s_bundle (n : Nat) (hn : 70000 ≤ n) (σ : ms_T) (hR : RI σ) (a1 a2 a3 : Int32) : ws (f_X12_bundle n σ a1 a2 a3) (fun res => RI res.2 ∧ ms_I res.2 667 = ms_I σ 667) := by
  sorry
theorem s_peaks (n : Nat) (hn : 70000 ≤ n) (σ : ms_T) (hR : RI σ) (a1 a2 : Int32) : ws (f_X12_peaks n σ a1 a2) (fun res => RI res.2 ∧ ms_I res.2 667 = ms_I σ 667) := by
  sorry
theorem s_extend (n : Nat) (hn : 70000 ≤ n) (σ : ms_T) (hR : RI σ) (a1 a2 : Int32) : ws (f_X12_extend n σ a1 a2) (fun res => RI res.2 ∧ ms_I res.2 667 = ms_I σ 667) := by
  sorry
theorem s_checks (n : Nat) (hn : 70000 ≤ n) (σ : ms_T) (hR : RI σ) (a1 a2 a3 a4 : Int32) : ws (f_X12_checks n σ a1 a2 a3 a4) (fun res => RI res.2 ∧ ms_I res.2 667 = ms_I σ 667) := by
  sorry
theorem s_growth_ (n : Nat) (hn : 70000 ≤ n) (σ : ms_T) (hR : RI σ) (a1 a2 a3 a4 : Int32) : ws (f_X12_growth_ n σ a1 a2 a3 a4) (fun res => RI res.2 ∧ ms_I res.2 667 = ms_I σ 667) := by
  sorry
theorem s_bundled (n : Nat) (hn : 70000 ≤ n) (σ : ms_T) (hR : RI σ) (a1 a2 a3 : Int32) : ws (f_X12_bundled n σ a1 a2 a3) (fun res => RI res.2 ∧ ms_I res.2 667 = ms_I σ 667) := by
  sorry
theorem s_fold (n : Nat) (hn : 70000 ≤ n) (σ : ms_T) (hR : RI σ)  : ws (f_X12_fold n σ ) (fun res => RI res.2 ∧ ms_I res.2 667 = ms_I σ 667) := by
  sorry
theorem s_steps (n : Nat) (hn : 70000 ≤ n) (σ : ms_T) (hR : RI σ) (a1 a2 : Int32) : ws (f_X12_steps n σ a1 a2) (fun res => RI res.2 ∧ ms_I res.2 667 = ms_I σ 667) := by
  sorry
theorem s_climbs (n : Nat) (hn : 70000 ≤ n) (σ : ms_T) (hR : RI σ) (a1 a2 : Int32) : ws (f_X12_climbs n σ a1 a2) (fun res => RI res.2 ∧ ms_I res.2 667 = ms_I σ 667) := by
  sorry
theorem s_agree (n : Nat) (hn : 70000 ≤ n) (σ : ms_T) (hR : RI σ) (a1 a2 : Int32) : ws (f_X12_agree n σ a1 a2) (fun res => RI res.2 ∧ ms_I res.2 667 = ms_I σ 667) := by
  sorry
theorem s_where (n : Nat) (hn : 70000 ≤ n) (σ : ms_T) (hR : RI σ) (a1 a2 : Int32) : ws (f_X12_where n σ a1 a2) (fun res => RI res.2 ∧ ms_I res.2 667 = ms_I σ 667) := by
  sorry
theorem s_tree (n : Nat) (hn : 70000 ≤ n) (σ : ms_T) (hR : RI σ) (a1 a2 a3 a4 : Int32) : ws (f_X12_tree n σ a1 a2 a3 a4) (fun res => RI res.2 ∧ ms_I res.2 667 = ms_I σ 667) := by
  sorry
theorem s_proves (n : Nat) (hn : 70000 ≤ n) (σ : ms_T) (hR : RI σ) (a1 a2 : Int32) : ws (f_X12_proves n σ a1 a2) (fun res => RI res.2 ∧ ms_I res.2 667 = ms_I σ 667) := by
  sorry
theorem s_longest (n : Nat) (hn : 70000 ≤ n) (σ : ms_T) (hR : RI σ) (a1 a2 : Int32) : ws (f_X12_longest n σ a1 a2) (fun res => RI res.2 ∧ ms_I res.2 667 = ms_I σ 667) := by
  sorry
theorem s_part (n : Nat) (hn : 70000 ≤ n) (σ : ms_T) (hR : RI σ) (a1 a2 a3 : Int32) : ws (f_X12_part n σ a1 a2 a3) (fun res => RI res.2 ∧ ms_I res.2 667 = ms_I σ 667) := by
  sorry
theorem s_blame (n : Nat) (hn : 70000 ≤ n) (σ : ms_T) (hR : RI σ) (a1 a2 : Int32) : ws (f_X12_blame n σ a1 a2) (fun res => RI res.2 ∧ ms_I res.2 667 = ms_I σ 667) := by
  sorry
theorem s_weak (n : Nat) (hn : 70000 ≤ n) (σ : ms_T) (hR : RI σ) (a1 a2 a3 a4 : Int32) : ws (f_X12_weak n σ a1 a2 a3 a4) (fun res => RI res.2 ∧ ms_I res.2 667 = ms_I σ 667) := by
  sorry
theorem s_clash (n : Nat) (hn : 70000 ≤ n) (σ : ms_T) (hR : RI σ) (a1 a2 a3 a4 a5 : Int32) : ws (f_X12_clash n σ a1 a2 a3 a4 a5) (fun res => RI res.2 ∧ ms_I res.2 667 = ms_I σ 667) := by
  sorry
theorem s_forge (n : Nat) (hn : 70000 ≤ n) (σ : ms_T) (hR : RI σ) (a1 a2 a3 a4 a5 : Int32) : ws (f_X12_forge n σ a1 a2 a3 a4 a5) (fun res => RI res.2 ∧ ms_I res.2 667 = ms_I σ 667) := by
  sorry
theorem s_trace (n : Nat) (hn : 70000 ≤ n) (σ : ms_T) (hR : RI σ) (a1 a2 a3 a4 : Int32) : ws (f_X12_trace n σ a1 a2 a3 a4) (fun res => RI res.2 ∧ ms_I res.2 667 = ms_I σ 667) := by
  sorry
theorem s_span (n : Nat) (hn : 70000 ≤ n) (σ : ms_T) (hR : RI σ) (a1 a2 a3 a4 : Int32) : ws (f_X12_span n σ a1 a2 a3 a4) (fun res => RI res.2 ∧ ms_I res.2 667 = ms_I σ 667) := by
  sorry
theorem s_rise (n : Nat) (hn : 70000 ≤ n) (σ : ms_T) (hR : RI σ) (a1 a2 a3 a4 : Int32) : ws (f_X12_rise n σ a1 a2 a3 a4) (fun res => RI res.2 ∧ ms_I res.2 667 = ms_I σ 667) := by
  sorry
theorem s_kept (n : Nat) (hn : 70000 ≤ n) (σ : ms_T) (hR : RI σ) (a1 a2 a3 : Int32) : ws (f_X12_kept n σ a1 a2 a3) (fun res => RI res.2 ∧ ms_I res.2 667 = ms_I σ 667) := by
  sorry
theorem s_sick (n : Nat) (hn : 70000 ≤ n) (σ : ms_T) (hR : RI σ) (a1 : Int32) : ws (f_X12_sick n σ a1) (fun res => RI res.2 ∧ ms_I res.2 667 = ms_I σ 667) := by
  sorry
theorem s_chain (n : Nat) (hn : 70000 ≤ n) (σ : ms_T) (hR : RI σ) (a1 a2 : Int32) : ws (f_X12_chain n σ a1 a2) (fun res => RI res.2 ∧ ms_I res.2 667 = ms_I σ 667) := by
  sorry
theorem s_split (n : Nat) (hn : 70000 ≤ n) (σ : ms_T) (hR : RI σ) (a1 : Int32) : ws (f_X12_split n σ a1) (fun res => RI res.2 ∧ ms_I res.2 667 = ms_I σ 667) := by
  sorry
theorem s_tell (n : Nat) (hn : 70000 ≤ n) (σ : ms_T) (hR : RI σ) (a1 a2 a3 : Int32) : ws (f_X12_tell n σ a1 a2 a3) (fun res => RI res.2 ∧ ms_I res.2 667 = ms_I σ 667) := by
  sorry
theorem s_tellGrowth (n : Nat) (hn : 70000 ≤ n) (σ : ms_T) (hR : RI σ) (a1 a2 a3 : Int32) : ws (f_X12_tellGrowth n σ a1 a2 a3) (fun res => RI res.2 ∧ ms_I res.2 667 = ms_I σ 667) := by
  sorry
theorem s_out (n : Nat) (hn : 70000 ≤ n) (σ : ms_T) (hR : RI σ) (a1 : Int32) : ws (f_X12_out n σ a1) (fun res => RI res.2 ∧ ms_I res.2 667 = ms_I σ 667) := by
  sorry
theorem s_trusted (n : Nat) (hn : 70000 ≤ n) (σ : ms_T) (hR : RI σ) (a1 a2 : Int32) : ws (f_X12_trusted n σ a1 a2) (fun res => RI res.2 ∧ ms_I res.2 667 = ms_I σ 667) := by
  sorry
theorem s_saves (n : Nat) (hn : 70000 ≤ n) (σ : ms_T) (hR : RI σ) (a1 a2 : Int32) : ws (f_X12_saves n σ a1 a2) (fun res => RI res.2 ∧ ms_I res.2 667 = ms_I σ 667) := by
  sorry
theorem s_who (n : Nat) (hn : 70000 ≤ n) (σ : ms_T) (hR : RI σ) (a1 a2 : Int32) : ws (f_X12_who n σ a1 a2) (fun res => RI res.2 ∧ ms_I res.2 667 = ms_I σ 667) := by
  sorry
