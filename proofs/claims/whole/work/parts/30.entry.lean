theorem enX8_fault (v0 : Value) (m : aM) : fX8_fault [v0] m = bX8_fault (fun _ _ => none) [v0] m := rfl
theorem enX8_told (v0 v1 : Value) (m : aM) : fX8_told [v0, v1] m = bX8_told (fun _ _ => none) [v0, v1] m := rfl
theorem enX8_seed (v0 v1 : Value) (m : aM) : fX8_seed [v0, v1] m = bX8_seed (fun _ _ => none) [v0, v1, a_jk] m := rfl
theorem enX8_isOutside (v0 v1 v2 : Value) (m : aM) : fX8_isOutside [v0, v1, v2] m = bX8_isOutside (fun _ _ => none) [v0, v1, v2] m := rfl
theorem enX8_isLife (v0 v1 : Value) (m : aM) : fX8_isLife [v0, v1] m = bX8_isLife (fun _ _ => none) [v0, v1] m := rfl
theorem enX8_isPolicy (v0 v1 : Value) (m : aM) : fX8_isPolicy [v0, v1] m = bX8_isPolicy (fun _ _ => none) [v0, v1] m := rfl
theorem enX8_onLife (v0 v1 : Value) (m : aM) : fX8_onLife [v0, v1] m = bX8_onLife (fun _ _ => none) [v0, v1] m := rfl
theorem enX8_setOf (v0 v1 : Value) (m : aM) : fX8_setOf [v0, v1] m = bX8_setOf (fun _ _ => none) [v0, v1] m := rfl
theorem enX8_drawOfThousand (v0 : Value) (m : aM) : fX8_drawOfThousand [v0] m = bX8_drawOfThousand (fun _ _ => none) [v0] m := rfl
theorem enX0_init (v0 : Value) (m : aM) : fX0_init [v0] m = bX0_init (fun _ _ => none) [v0] m := rfl
theorem enX0_clear (v0 : Value) (m : aM) : fX0_clear [v0] m = bX0_clear (fun _ _ => none) [v0] m := rfl
theorem enX0_copyFrom (v0 v1 : Value) (m : aM) : fX0_copyFrom [v0, v1] m = bX0_copyFrom (fun _ _ => none) [v0, v1] m := rfl
theorem enX0_addLife (v0 v1 : Value) (m : aM) : fX0_addLife [v0, v1] m = bX0_addLife (fun _ _ => none) [v0, v1, a_jk] m := rfl
theorem enX0_addPolicy (v0 v1 : Value) (m : aM) : fX0_addPolicy [v0, v1] m = bX0_addPolicy (fun _ _ => none) [v0, v1] m := rfl
theorem enX0_oddsOf (v0 v1 v2 v3 : Value) (m : aM) : fX0_oddsOf [v0, v1, v2, v3] m = bX0_oddsOf (fun _ _ => none) [v0, v1, v2, v3] m := rfl
theorem enX4_init (v0 : Value) (m : aM) : fX4_init [v0] m = bX4_init (fun _ _ => none) [v0] m := rfl
theorem enX4_addLetter (v0 v1 : Value) (m : aM) : fX4_addLetter [v0, v1] m = bX4_addLetter (fun _ _ => none) [v0, v1] m := rfl
theorem enX4_goesOn (v0 : Value) (m : aM) : fX4_goesOn [v0] m = bX4_goesOn (fun _ _ => none) [v0] m := rfl
theorem enX4_faultAt (v0 v1 v2 : Value) (m : aM) : fX4_faultAt [v0, v1, v2] m = bX4_faultAt (fun _ _ => none) [v0, v1, v2] m := rfl
theorem enX4_skipBlanks (v0 : Value) (m : aM) : fX4_skipBlanks [v0] m = bX4_skipBlanks (fun _ _ => none) [v0] m := rfl
theorem enX4_faultOfWord (v0 v1 : Value) (m : aM) : fX4_faultOfWord [v0, v1] m = bX4_faultOfWord (fun _ _ => none) [v0, v1, a_jk, a_jk, a_jk] m := rfl
theorem enX4_isFigure (v0 : Value) (m : aM) : fX4_isFigure [v0] m = bX4_isFigure (fun _ _ => none) [v0] m := rfl
theorem enX4_readEnd (v0 : Value) (m : aM) : fX4_readEnd [v0] m = bX4_readEnd (fun _ _ => none) [v0] m := rfl
theorem enX4_takeClause (v0 v1 : Value) (m : aM) : fX4_takeClause [v0, v1] m = bX4_takeClause (fun _ _ => none) [v0, v1] m := rfl
theorem enX6_init (v0 : Value) (m : aM) : fX6_init [v0] m = bX6_init (fun _ _ => none) [v0] m := rfl
theorem enX6_copyFrom (v0 v1 : Value) (m : aM) : fX6_copyFrom [v0, v1] m = bX6_copyFrom (fun _ _ => none) [v0, v1] m := rfl
theorem enX6_hasLapsed (v0 v1 : Value) (m : aM) : fX6_hasLapsed [v0, v1] m = bX6_hasLapsed (fun _ _ => none) [v0, v1] m := rfl
theorem enX6_addFunds (v0 v1 : Value) (m : aM) : fX6_addFunds [v0, v1] m = bX6_addFunds (fun _ _ => none) [v0, v1] m := rfl
theorem enX6_payIfDue (v0 v1 v2 : Value) (m : aM) : fX6_payIfDue [v0, v1, v2] m = bX6_payIfDue (fun _ _ => none) [v0, v1, v2, a_jk, a_jk] m := rfl
theorem enX3_init (v0 : Value) (m : aM) : fX3_init [v0] m = bX3_init (fun _ _ => none) [v0] m := rfl
theorem enX3_forget (v0 : Value) (m : aM) : fX3_forget [v0] m = bX3_forget (fun _ _ => none) [v0] m := rfl
theorem enX3_remember (v0 v1 : Value) (m : aM) : fX3_remember [v0, v1] m = bX3_remember (fun _ _ => none) [v0, v1] m := rfl
theorem enX3_takeBack (v0 v1 v2 : Value) (m : aM) : fX3_takeBack [v0, v1, v2] m = bX3_takeBack (fun _ _ => none) [v0, v1, v2] m := rfl
theorem enX2_init (v0 : Value) (m : aM) : fX2_init [v0] m = bX2_init (fun _ _ => none) [v0] m := rfl
theorem enX2_calmBy (v0 v1 v2 v3 v4 : Value) (m : aM) : fX2_calmBy [v0, v1, v2, v3, v4] m = bX2_calmBy (fun _ _ => none) [v0, v1, v2, v3, v4, a_jk, a_jk, a_jk, a_jk, a_jk] m := rfl
theorem enX2_calmOf (v0 v1 v2 v3 : Value) (m : aM) : fX2_calmOf [v0, v1, v2, v3] m = bX2_calmOf (fun _ _ => none) [v0, v1, v2, v3, a_jk] m := rfl
theorem enX2_fairPremium (v0 v1 v2 : Value) (m : aM) : fX2_fairPremium [v0, v1, v2] m = bX2_fairPremium (fun _ _ => none) [v0, v1, v2, a_jk, a_jk, a_jk, a_jk, a_jk, a_jk] m := rfl
theorem enX2_gainBy (v0 v1 v2 v3 : Value) (m : aM) : fX2_gainBy [v0, v1, v2, v3] m = bX2_gainBy (fun _ _ => none) [v0, v1, v2, v3, a_jk, a_jk, a_jk, a_jk, a_jk] m := rfl
theorem enX2_kindsWithout (v0 v1 v2 : Value) (m : aM) : fX2_kindsWithout [v0, v1, v2] m = bX2_kindsWithout (fun _ _ => none) [v0, v1, v2] m := rfl
theorem enX2_leftWithoutKind (v0 v1 v2 : Value) (m : aM) : fX2_leftWithoutKind [v0, v1, v2] m = bX2_leftWithoutKind (fun _ _ => none) [v0, v1, v2, a_jk, a_jk] m := rfl
theorem enX7_init (v0 : Value) (m : aM) : fX7_init [v0] m = bX7_init (fun _ _ => none) [v0] m := rfl
theorem enX7_paidInQuiet (v0 v1 v2 v3 : Value) (m : aM) : fX7_paidInQuiet [v0, v1, v2, v3] m = bX7_paidInQuiet (fun _ _ => none) [v0, v1, v2, v3, a_jk] m := rfl
theorem enX7_paidBySet (v0 v1 v2 v3 : Value) (m : aM) : fX7_paidBySet [v0, v1, v2, v3] m = bX7_paidBySet (fun _ _ => none) [v0, v1, v2, v3, a_jk, a_jk] m := rfl
theorem enX7_notLapsed (v0 v1 : Value) (m : aM) : fX7_notLapsed [v0, v1] m = bX7_notLapsed (fun _ _ => none) [v0, v1] m := rfl
theorem enX7_fundsNeeded (v0 v1 v2 : Value) (m : aM) : fX7_fundsNeeded [v0, v1, v2] m = bX7_fundsNeeded (fun _ _ => none) [v0, v1, v2] m := rfl
theorem enX7_premiumsOf (v0 v1 : Value) (m : aM) : fX7_premiumsOf [v0, v1] m = bX7_premiumsOf (fun _ _ => none) [v0, v1, a_jk, a_jk] m := rfl
theorem enX7_isLit (v0 v1 v2 v3 v4 : Value) (m : aM) : fX7_isLit [v0, v1, v2, v3, v4] m = bX7_isLit (fun _ _ => none) [v0, v1, v2, v3, v4] m := rfl
theorem enX7_firstPayment (v0 v1 v2 v3 : Value) (m : aM) : fX7_firstPayment [v0, v1, v2, v3] m = bX7_firstPayment (fun _ _ => none) [v0, v1, v2, v3, a_jk, a_jk] m := rfl
theorem enX7_firesFrom (v0 v1 v2 v3 v4 v5 : Value) (m : aM) : fX7_firesFrom [v0, v1, v2, v3, v4, v5] m = bX7_firesFrom (fun _ _ => none) [v0, v1, v2, v3, v4, v5, a_jk, a_jk] m := rfl
theorem enX5_init (v0 : Value) (m : aM) : fX5_init [v0] m = bX5_init (fun _ _ => none) [v0] m := rfl
theorem enX5_clear (v0 : Value) (m : aM) : fX5_clear [v0] m = bX5_clear (fun _ _ => none) [v0] m := rfl
theorem enX5_addWitness (v0 v1 : Value) (m : aM) : fX5_addWitness [v0, v1] m = bX5_addWitness (fun _ _ => none) [v0, v1] m := rfl
theorem enX5_addToLedger (v0 v1 : Value) (m : aM) : fX5_addToLedger [v0, v1] m = bX5_addToLedger (fun _ _ => none) [v0, v1] m := rfl
theorem enX5_addToBook (v0 v1 : Value) (m : aM) : fX5_addToBook [v0, v1] m = bX5_addToBook (fun _ _ => none) [v0, v1] m := rfl
theorem enX5_daysSeenBy (v0 v1 : Value) (m : aM) : fX5_daysSeenBy [v0, v1] m = bX5_daysSeenBy (fun _ _ => none) [v0, v1, a_jk, a_jk] m := rfl
theorem enX1_init (v0 : Value) (m : aM) : fX1_init [v0] m = bX1_init (fun _ _ => none) [v0] m := rfl
theorem enX1_setIn (v0 v1 v2 : Value) (m : aM) : fX1_setIn [v0, v1, v2] m = bX1_setIn (fun _ _ => none) [v0, v1, v2] m := rfl
theorem enX9_init (v0 : Value) (m : aM) : fX9_init [v0] m = bX9_init (fun _ _ => none) [v0] m := rfl
theorem enX9_in (v0 v1 v2 : Value) (m : aM) : fX9_in [v0, v1, v2] m = bX9_in (fun _ _ => none) [v0, v1, v2] m := rfl
theorem enX9_has (v0 v1 : Value) (m : aM) : fX9_has [v0, v1] m = bX9_has (fun _ _ => none) [v0, v1] m := rfl
theorem enX9_ones (v0 : Value) (m : aM) : fX9_ones [v0] m = bX9_ones (fun _ _ => none) [v0, a_jk, a_jk] m := rfl
theorem enX9_least (v0 v1 : Value) (m : aM) : fX9_least [v0, v1] m = bX9_least (fun _ _ => none) [v0, v1] m := rfl
theorem enX9_copies (v0 v1 v2 v3 : Value) (m : aM) : fX9_copies [v0, v1, v2, v3] m = bX9_copies (fun _ _ => none) [v0, v1, v2, v3, a_jk] m := rfl
theorem enX9_lifeAt (v0 : Value) (m : aM) : fX9_lifeAt [v0] m = bX9_lifeAt (fun _ _ => none) [v0] m := rfl
theorem enX9_policyAt (v0 : Value) (m : aM) : fX9_policyAt [v0] m = bX9_policyAt (fun _ _ => none) [v0] m := rfl
theorem enX9_isLife (v0 v1 : Value) (m : aM) : fX9_isLife [v0, v1] m = bX9_isLife (fun _ _ => none) [v0, v1] m := rfl
theorem enX9_isPolicy (v0 v1 : Value) (m : aM) : fX9_isPolicy [v0, v1] m = bX9_isPolicy (fun _ _ => none) [v0, v1] m := rfl
theorem enX9_feed (v0 v1 : Value) (m : aM) : fX9_feed [v0, v1] m = bX9_feed (fun _ _ => none) [v0, v1] m := rfl
theorem enX9_look (v0 : Value) (m : aM) : fX9_look [v0] m = bX9_look (fun _ _ => none) [v0] m := rfl
theorem enX9_isWell (v0 : Value) (m : aM) : fX9_isWell [v0] m = bX9_isWell (fun _ _ => none) [v0] m := rfl
theorem enX9_faults (v0 v1 v2 : Value) (m : aM) : fX9_faults [v0, v1, v2] m = bX9_faults (fun _ _ => none) [v0, v1, v2] m := rfl
theorem enX9_number (v0 v1 v2 : Value) (m : aM) : fX9_number [v0, v1, v2] m = bX9_number (fun _ _ => none) [v0, v1, v2, a_jk, a_jk] m := rfl
theorem enX9_stops (v0 : Value) (m : aM) : fX9_stops [v0] m = bX9_stops (fun _ _ => none) [v0] m := rfl
theorem enX9_readsLife (v0 : Value) (m : aM) : fX9_readsLife [v0] m = bX9_readsLife (fun _ _ => none) [v0, a_jk, a_jk] m := rfl
theorem enX9_readsPolicy (v0 : Value) (m : aM) : fX9_readsPolicy [v0] m = bX9_readsPolicy (fun _ _ => none) [v0, a_jk] m := rfl
theorem enX9_readsClause (v0 v1 : Value) (m : aM) : fX9_readsClause [v0, v1] m = bX9_readsClause (fun _ _ => none) [v0, v1, a_jk, a_jk, a_jk] m := rfl
theorem enX9_fault (v0 : Value) (m : aM) : fX9_fault [v0] m = bX9_fault (fun _ _ => none) [v0] m := rfl
theorem enX9_lapsed (v0 : Value) (m : aM) : fX9_lapsed [v0] m = bX9_lapsed (fun _ _ => none) [v0, a_jk, a_jk] m := rfl
theorem enX9_told (v0 v1 : Value) (m : aM) : fX9_told [v0, v1] m = bX9_told (fun _ _ => none) [v0, v1] m := rfl
theorem enX9_oddsBy (v0 v1 v2 v3 : Value) (m : aM) : fX9_oddsBy [v0, v1, v2, v3] m = bX9_oddsBy (fun _ _ => none) [v0, v1, v2, v3] m := rfl
theorem enX9_odds (v0 v1 v2 : Value) (m : aM) : fX9_odds [v0, v1, v2] m = bX9_odds (fun _ _ => none) [v0, v1, v2] m := rfl
theorem enX9_life (v0 v1 v2 : Value) (m : aM) : fX9_life [v0, v1, v2] m = bX9_life (fun _ _ => none) [v0, v1, v2] m := rfl
theorem enX9_policy (v0 v1 v2 : Value) (m : aM) : fX9_policy [v0, v1, v2] m = bX9_policy (fun _ _ => none) [v0, v1, v2] m := rfl
theorem enX9_passes (v0 v1 : Value) (m : aM) : fX9_passes [v0, v1] m = bX9_passes (fun _ _ => none) [v0, v1, a_jk, a_jk, a_jk, a_jk, a_jk] m := rfl
theorem enX9_silent (v0 : Value) (m : aM) : fX9_silent [v0] m = bX9_silent (fun _ _ => none) [v0, a_jk] m := rfl
theorem enX9_notes (v0 : Value) (m : aM) : fX9_notes [v0] m = bX9_notes (fun _ _ => none) [v0, a_jk] m := rfl
theorem enX9_takesTold (v0 : Value) (m : aM) : fX9_takesTold [v0] m = bX9_takesTold (fun _ _ => none) [v0, a_jk] m := rfl
theorem enX9_event (v0 v1 v2 : Value) (m : aM) : fX9_event [v0, v1, v2] m = bX9_event (fun _ _ => none) [v0, v1, v2, a_jk] m := rfl
theorem enX9_draw (v0 : Value) (m : aM) : fX9_draw [v0] m = bX9_draw (fun _ _ => none) [v0] m := rfl
theorem enX9_goes (v0 v1 v2 : Value) (m : aM) : fX9_goes [v0, v1, v2] m = bX9_goes (fun _ _ => none) [v0, v1, v2, a_jk, a_jk, a_jk] m := rfl
theorem enX9_day (v0 v1 : Value) (m : aM) : fX9_day [v0, v1] m = bX9_day (fun _ _ => none) [v0, v1] m := rfl
theorem enX9_drift (v0 v1 : Value) (m : aM) : fX9_drift [v0, v1] m = bX9_drift (fun _ _ => none) [v0, v1] m := rfl
theorem enX9_fund (v0 v1 : Value) (m : aM) : fX9_fund [v0, v1] m = bX9_fund (fun _ _ => none) [v0, v1] m := rfl
theorem enX9_habit (v0 v1 v2 : Value) (m : aM) : fX9_habit [v0, v1, v2] m = bX9_habit (fun _ _ => none) [v0, v1, v2, a_jk] m := rfl
theorem enX9_lapse (v0 v1 v2 : Value) (m : aM) : fX9_lapse [v0, v1, v2] m = bX9_lapse (fun _ _ => none) [v0, v1, v2, a_jk] m := rfl
theorem enX9_undo (v0 v1 : Value) (m : aM) : fX9_undo [v0, v1] m = bX9_undo (fun _ _ => none) [v0, v1, a_jk] m := rfl
theorem enX9_calmBy (v0 v1 v2 v3 v4 : Value) (m : aM) : fX9_calmBy [v0, v1, v2, v3, v4] m = bX9_calmBy (fun _ _ => none) [v0, v1, v2, v3, v4, a_jk, a_jk, a_jk, a_jk, a_jk] m := rfl
theorem enX9_calmOf (v0 v1 v2 : Value) (m : aM) : fX9_calmOf [v0, v1, v2] m = bX9_calmOf (fun _ _ => none) [v0, v1, v2] m := rfl
theorem enX9_calm (v0 v1 v2 : Value) (m : aM) : fX9_calm [v0, v1, v2] m = bX9_calm (fun _ _ => none) [v0, v1, v2] m := rfl
theorem enX9_fair (v0 v1 : Value) (m : aM) : fX9_fair [v0, v1] m = bX9_fair (fun _ _ => none) [v0, v1, a_jk, a_jk, a_jk, a_jk, a_jk, a_jk] m := rfl
theorem enX9_pays (v0 v1 v2 : Value) (m : aM) : fX9_pays [v0, v1, v2] m = bX9_pays (fun _ _ => none) [v0, v1, v2, a_jk, a_jk, a_jk, a_jk, a_jk, a_jk, a_jk, a_jk, a_jk, a_jk] m := rfl
theorem enX9_soonest (v0 : Value) (m : aM) : fX9_soonest [v0] m = bX9_soonest (fun _ _ => none) [v0, a_jk] m := rfl
theorem enX9_needs (v0 v1 : Value) (m : aM) : fX9_needs [v0, v1] m = bX9_needs (fun _ _ => none) [v0, v1, a_jk] m := rfl
theorem enX9_holds (v0 v1 v2 : Value) (m : aM) : fX9_holds [v0, v1, v2] m = bX9_holds (fun _ _ => none) [v0, v1, v2, a_jk, a_jk] m := rfl
theorem enX9_premiums (v0 v1 : Value) (m : aM) : fX9_premiums [v0, v1] m = bX9_premiums (fun _ _ => none) [v0, v1, a_jk, a_jk] m := rfl
theorem enX9_keepWhich (v0 v1 v2 : Value) (m : aM) : fX9_keepWhich [v0, v1, v2] m = bX9_keepWhich (fun _ _ => none) [v0, v1, v2, a_jk, a_jk, a_jk, a_jk] m := rfl
theorem enX9_gainBy (v0 v1 v2 : Value) (m : aM) : fX9_gainBy [v0, v1, v2] m = bX9_gainBy (fun _ _ => none) [v0, v1, v2, a_jk, a_jk, a_jk, a_jk, a_jk] m := rfl
theorem enX9_choose (v0 v1 : Value) (m : aM) : fX9_choose [v0, v1] m = bX9_choose (fun _ _ => none) [v0, v1, a_jk, a_jk] m := rfl
theorem enX9_fires (v0 v1 v2 v3 v4 : Value) (m : aM) : fX9_fires [v0, v1, v2, v3, v4] m = bX9_fires (fun _ _ => none) [v0, v1, v2, v3, v4, a_jk, a_jk, a_jk, a_jk] m := rfl
theorem enX9_struck (v0 v1 v2 : Value) (m : aM) : fX9_struck [v0, v1, v2] m = bX9_struck (fun _ _ => none) [v0, v1, v2, a_jk, a_jk, a_jk, a_jk, a_jk, a_jk, a_jk, a_jk, a_jk] m := rfl
theorem enX9_witness (v0 v1 : Value) (m : aM) : fX9_witness [v0, v1] m = bX9_witness (fun _ _ => none) [v0, v1] m := rfl
theorem enX9_fewest (v0 v1 v2 : Value) (m : aM) : fX9_fewest [v0, v1, v2] m = bX9_fewest (fun _ _ => none) [v0, v1, v2, a_jk, a_jk, a_jk, a_jk] m := rfl
theorem enX9_ledger (v0 v1 : Value) (m : aM) : fX9_ledger [v0, v1] m = bX9_ledger (fun _ _ => none) [v0, v1] m := rfl
theorem enX9_setIn (v0 v1 v2 : Value) (m : aM) : fX9_setIn [v0, v1, v2] m = bX9_setIn (fun _ _ => none) [v0, v1, v2] m := rfl
theorem enX9_findRows (v0 v1 : Value) (m : aM) : fX9_findRows [v0, v1] m = bX9_findRows (fun _ _ => none) [v0, v1, a_jk, a_jk, a_jk, a_jk] m := rfl
theorem enX9_befell (v0 v1 v2 : Value) (m : aM) : fX9_befell [v0, v1, v2] m = bX9_befell (fun _ _ => none) [v0, v1, v2] m := rfl
theorem enX9_sure (v0 v1 : Value) (m : aM) : fX9_sure [v0, v1] m = bX9_sure (fun _ _ => none) [v0, v1] m := rfl
theorem enX9_write (v0 v1 : Value) (m : aM) : fX9_write [v0, v1] m = bX9_write (fun _ _ => none) [v0, v1] m := rfl
theorem enX9_judge (v0 : Value) (m : aM) : fX9_judge [v0] m = bX9_judge (fun _ _ => none) [v0, a_jk] m := rfl
theorem enX9_tear (v0 : Value) (m : aM) : fX9_tear [v0] m = bX9_tear (fun _ _ => none) [v0, a_jk] m := rfl
theorem enX9_seed (v0 v1 : Value) (m : aM) : fX9_seed [v0, v1] m = bX9_seed (fun _ _ => none) [v0, v1, a_jk] m := rfl
theorem enX9_keep (v0 v1 : Value) (m : aM) : fX9_keep [v0, v1] m = bX9_keep (fun _ _ => none) [v0, v1] m := rfl
theorem enX9_goBack (v0 v1 : Value) (m : aM) : fX9_goBack [v0, v1] m = bX9_goBack (fun _ _ => none) [v0, v1] m := rfl
theorem enJ6_compare_7cf53 (v0 v1 : Value) (m : aM) : fJ6_compare_7cf53 [v0, v1] m = bJ6_compare_7cf53 (fun _ _ => none) [v0, v1] m := rfl
theorem enJ6_bitCount_0f7a4 (v0 : Value) (m : aM) : fJ6_bitCount_0f7a4 [v0] m = bJ6_bitCount_0f7a4 (fun _ _ => none) [v0] m := rfl
theorem enJ7_fill_53178 (v0 v1 : Value) (m : aM) : fJ7_fill_53178 [v0, v1] m = bJ7_fill_53178 (fun _ _ => none) [v0, v1, a_jk, a_jk] m := rfl
theorem enX8_init (v0 : Value) (m : aM) : fX8_init [v0] m = bX8_init (fun _ _ => none) [v0] m := rfl
theorem enX8_feed (v0 v1 : Value) (m : aM) : fX8_feed [v0, v1] m = bX8_feed (fun _ _ => none) [v0, v1] m := rfl
theorem enX8_life (v0 v1 v2 : Value) (m : aM) : fX8_life [v0, v1, v2] m = bX8_life (fun _ _ => none) [v0, v1, v2] m := rfl
theorem enX8_policy (v0 v1 v2 : Value) (m : aM) : fX8_policy [v0, v1, v2] m = bX8_policy (fun _ _ => none) [v0, v1, v2] m := rfl
theorem enX8_event (v0 v1 v2 : Value) (m : aM) : fX8_event [v0, v1, v2] m = bX8_event (fun _ _ => none) [v0, v1, v2, a_jk] m := rfl
theorem enX8_fund (v0 v1 : Value) (m : aM) : fX8_fund [v0, v1] m = bX8_fund (fun _ _ => none) [v0, v1] m := rfl
theorem enX8_habit (v0 v1 v2 : Value) (m : aM) : fX8_habit [v0, v1, v2] m = bX8_habit (fun _ _ => none) [v0, v1, v2, a_jk] m := rfl
theorem enX8_lapse (v0 v1 v2 : Value) (m : aM) : fX8_lapse [v0, v1, v2] m = bX8_lapse (fun _ _ => none) [v0, v1, v2, a_jk] m := rfl
theorem enX8_undo (v0 v1 : Value) (m : aM) : fX8_undo [v0, v1] m = bX8_undo (fun _ _ => none) [v0, v1] m := rfl
theorem enX8_calm (v0 v1 v2 : Value) (m : aM) : fX8_calm [v0, v1, v2] m = bX8_calm (fun _ _ => none) [v0, v1, v2] m := rfl
theorem enX8_fair (v0 v1 : Value) (m : aM) : fX8_fair [v0, v1] m = bX8_fair (fun _ _ => none) [v0, v1] m := rfl
theorem enX8_needs (v0 v1 : Value) (m : aM) : fX8_needs [v0, v1] m = bX8_needs (fun _ _ => none) [v0, v1] m := rfl
theorem enX8_fires (v0 v1 v2 v3 v4 : Value) (m : aM) : fX8_fires [v0, v1, v2, v3, v4] m = bX8_fires (fun _ _ => none) [v0, v1, v2, v3, v4, a_jk] m := rfl
theorem enX8_witness (v0 v1 : Value) (m : aM) : fX8_witness [v0, v1] m = bX8_witness (fun _ _ => none) [v0, v1] m := rfl
theorem enX8_ledger (v0 v1 : Value) (m : aM) : fX8_ledger [v0, v1] m = bX8_ledger (fun _ _ => none) [v0, v1] m := rfl
theorem enX8_write (v0 v1 : Value) (m : aM) : fX8_write [v0, v1] m = bX8_write (fun _ _ => none) [v0, v1] m := rfl
theorem enX8_tear (v0 : Value) (m : aM) : fX8_tear [v0] m = bX8_tear (fun _ _ => none) [v0, a_jk] m := rfl
theorem enX8_keep (v0 v1 : Value) (m : aM) : fX8_keep [v0, v1] m = bX8_keep (fun _ _ => none) [v0, v1] m := rfl
theorem enX8_goBack (v0 v1 : Value) (m : aM) : fX8_goBack [v0, v1] m = bX8_goBack (fun _ _ => none) [v0, v1] m := rfl
theorem enX8_drawnEvents (v0 : Value) (m : aM) : fX8_drawnEvents [v0] m = bX8_drawnEvents (fun _ _ => none) [v0, a_jk, a_jk, a_jk] m := rfl
theorem enX4_readNumber (v0 v1 v2 v3 : Value) (m : aM) : fX4_readNumber [v0, v1, v2, v3] m = bX4_readNumber (fun _ _ => none) [v0, v1, v2, v3, a_jk, a_jk] m := rfl
theorem enX6_begin (v0 v1 : Value) (m : aM) : fX6_begin [v0, v1] m = bX6_begin (fun _ _ => none) [v0, v1] m := rfl
theorem enX6_passDay (v0 v1 v2 : Value) (m : aM) : fX6_passDay [v0, v1, v2] m = bX6_passDay (fun _ _ => none) [v0, v1, v2, a_jk] m := rfl
theorem enX2_paidWithin (v0 v1 v2 v3 v4 : Value) (m : aM) : fX2_paidWithin [v0, v1, v2, v3, v4] m = bX2_paidWithin (fun _ _ => none) [v0, v1, v2, v3, v4, a_jk, a_jk, a_jk, a_jk, a_jk, a_jk, a_jk, a_jk, a_jk, a_jk, a_jk] m := rfl
theorem enX2_bestHabit (v0 v1 v2 : Value) (m : aM) : fX2_bestHabit [v0, v1, v2] m = bX2_bestHabit (fun _ _ => none) [v0, v1, v2, a_jk, a_jk] m := rfl
theorem enX2_calmWithout (v0 v1 v2 v3 : Value) (m : aM) : fX2_calmWithout [v0, v1, v2, v3] m = bX2_calmWithout (fun _ _ => none) [v0, v1, v2, v3, a_jk] m := rfl
theorem enX2_calmestWithout (v0 v1 v2 : Value) (m : aM) : fX2_calmestWithout [v0, v1, v2] m = bX2_calmestWithout (fun _ _ => none) [v0, v1, v2, a_jk, a_jk, a_jk, a_jk] m := rfl
theorem enX7_daysToRuin (v0 v1 v2 : Value) (m : aM) : fX7_daysToRuin [v0, v1, v2] m = bX7_daysToRuin (fun _ _ => none) [v0, v1, v2, a_jk] m := rfl
theorem enX7_firstWrong (v0 v1 v2 v3 : Value) (m : aM) : fX7_firstWrong [v0, v1, v2, v3] m = bX7_firstWrong (fun _ _ => none) [v0, v1, v2, v3, a_jk] m := rfl
theorem enX7_isBetter (v0 v1 v2 : Value) (m : aM) : fX7_isBetter [v0, v1, v2] m = bX7_isBetter (fun _ _ => none) [v0, v1, v2, a_jk] m := rfl
theorem enX5_fewestFor (v0 v1 : Value) (m : aM) : fX5_fewestFor [v0, v1] m = bX5_fewestFor (fun _ _ => none) [v0, v1, a_jk, a_jk, a_jk] m := rfl
theorem enX1_daysThatFit (v0 v1 v2 v3 v4 v5 : Value) (m : aM) : fX1_daysThatFit [v0, v1, v2, v3, v4, v5] m = bX1_daysThatFit (fun _ _ => none) [v0, v1, v2, v3, v4, v5, a_jk] m := rfl
theorem enX1_takeRow (v0 v1 v2 : Value) (m : aM) : fX1_takeRow [v0, v1, v2] m = bX1_takeRow (fun _ _ => none) [v0, v1, v2, a_jk, a_jk] m := rfl
theorem enX9_office (v0 : Value) (m : aM) : fX9_office [v0] m = bX9_office (fun _ _ => none) [v0, a_jk] m := rfl
theorem enX8_pays (v0 v1 v2 : Value) (m : aM) : fX8_pays [v0, v1, v2] m = bX8_pays (fun _ _ => none) [v0, v1, v2] m := rfl
theorem enX8_soonest (v0 : Value) (m : aM) : fX8_soonest [v0] m = bX8_soonest (fun _ _ => none) [v0] m := rfl
theorem enX8_choose (v0 v1 : Value) (m : aM) : fX8_choose [v0, v1] m = bX8_choose (fun _ _ => none) [v0, v1] m := rfl
theorem enX8_struck (v0 v1 v2 : Value) (m : aM) : fX8_struck [v0, v1, v2] m = bX8_struck (fun _ _ => none) [v0, v1, v2, a_jk] m := rfl
theorem enX8_fewest (v0 v1 v2 : Value) (m : aM) : fX8_fewest [v0, v1, v2] m = bX8_fewest (fun _ _ => none) [v0, v1, v2, a_jk] m := rfl
theorem enX8_judge (v0 : Value) (m : aM) : fX8_judge [v0] m = bX8_judge (fun _ _ => none) [v0] m := rfl
theorem enX8_passDays (v0 v1 v2 : Value) (m : aM) : fX8_passDays [v0, v1, v2] m = bX8_passDays (fun _ _ => none) [v0, v1, v2, a_jk, a_jk] m := rfl
theorem enX4_readLifeNumbers (v0 : Value) (m : aM) : fX4_readLifeNumbers [v0] m = bX4_readLifeNumbers (fun _ _ => none) [v0, a_jk] m := rfl
theorem enX4_readPolicyNumbers (v0 : Value) (m : aM) : fX4_readPolicyNumbers [v0] m = bX4_readPolicyNumbers (fun _ _ => none) [v0] m := rfl
theorem enX7_bestToKeep (v0 v1 v2 : Value) (m : aM) : fX7_bestToKeep [v0, v1, v2] m = bX7_bestToKeep (fun _ _ => none) [v0, v1, v2, a_jk, a_jk, a_jk] m := rfl
theorem enX1_run (v0 v1 v2 v3 v4 : Value) (m : aM) : fX1_run [v0, v1, v2, v3, v4] m = bX1_run (fun _ _ => none) [v0, v1, v2, v3, v4, a_jk, a_jk, a_jk] m := rfl
theorem enX8_day (v0 v1 : Value) (m : aM) : fX8_day [v0, v1] m = bX8_day (fun _ _ => none) [v0, v1] m := rfl
theorem enX8_drift (v0 v1 : Value) (m : aM) : fX8_drift [v0, v1] m = bX8_drift (fun _ _ => none) [v0, v1] m := rfl
theorem enX8_keepWhich (v0 v1 v2 : Value) (m : aM) : fX8_keepWhich [v0, v1, v2] m = bX8_keepWhich (fun _ _ => none) [v0, v1, v2, a_jk] m := rfl
theorem enX8_befell (v0 v1 v2 : Value) (m : aM) : fX8_befell [v0, v1, v2] m = bX8_befell (fun _ _ => none) [v0, v1, v2] m := rfl
theorem enX8_sure (v0 v1 : Value) (m : aM) : fX8_sure [v0, v1] m = bX8_sure (fun _ _ => none) [v0, v1] m := rfl
theorem enX4_readClause (v0 : Value) (m : aM) : fX4_readClause [v0] m = bX4_readClause (fun _ _ => none) [v0, a_jk, a_jk] m := rfl
theorem enX4_readText (v0 : Value) (m : aM) : fX4_readText [v0] m = bX4_readText (fun _ _ => none) [v0, a_jk] m := rfl
theorem enX8_office (v0 : Value) (m : aM) : fX8_office [v0] m = bX8_office (fun _ _ => none) [v0, a_jk, a_jk] m := rfl
