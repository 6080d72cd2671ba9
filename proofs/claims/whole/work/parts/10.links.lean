def uX3_init : MU := (yX3_init, cX3_init, 1, none, { frames := 1, cells := 1, slots := 160, locals := 20 }, [], true)
def uX4_init : MU := (yX4_init, cX4_init, 1, none, { frames := 1, cells := 6, slots := 38, locals := 20 }, [], true)
def uX2_init : MU := (yX2_init, cX2_init, 2, none, { frames := 2, cells := 169, slots := 1152, locals := 40 }, [], true)
def uX1_init : MU := (yX1_init, cX1_init, 1, none, { frames := 2, cells := 22, slots := 145, locals := 40 }, [], true)
def uX0_init : MU := (yX0_init, cX0_init, 1, none, { frames := 1, cells := 1, slots := 120, locals := 20 }, [], true)
def uX5_init : MU := (yX5_init, cX5_init, 1, none, { frames := 3, cells := 213, slots := 1805, locals := 61 }, [], true)
def uX5_baseOf : MU := (yX5_baseOf, cX5_baseOf, 4, (some .int), { frames := 0, cells := 0, slots := 0, locals := 0 }, [], false)
def uX3_append : MU := (yX3_append, cX3_append, 5, none, { frames := 1, cells := 0, slots := 0, locals := 23 }, [], false)
def uX5_reference : MU := (yX5_reference, cX5_reference, 4, (some .int), { frames := 6, cells := 1, slots := 6, locals := 92 }, [], false)
def uX3_covers : MU := (yX3_covers, cX3_covers, 3, (some .boolean), { frames := 0, cells := 0, slots := 0, locals := 0 }, [], false)
def uX4_fillLikelihoods : MU := (yX4_fillLikelihoods, cX4_fillLikelihoods, 3, none, { frames := 0, cells := 0, slots := 0, locals := 0 }, [], false)
def uX4_clear : MU := (yX4_clear, cX4_clear, 2, none, { frames := 1, cells := 0, slots := 0, locals := 22 }, [], false)
def uX3_packed : MU := (yX3_packed, cX3_packed, 5, (some .int), { frames := 0, cells := 0, slots := 0, locals := 0 }, [], false)
def uX4_appendAllele : MU := (yX4_appendAllele, cX4_appendAllele, 3, none, { frames := 0, cells := 0, slots := 0, locals := 0 }, [], false)
def uX5_draft : MU := (yX5_draft, cX5_draft, 3, none, { frames := 6, cells := 1, slots := 6, locals := 92 }, [], false)
def uX5_lowBases : MU := (yX5_lowBases, cX5_lowBases, 1, (some .int), { frames := 0, cells := 0, slots := 0, locals := 0 }, [], false)
def uX4_find : MU := (yX4_find, cX4_find, 4, (some .int), { frames := 0, cells := 0, slots := 0, locals := 0 }, [], false)
def uX5_allele : MU := (yX5_allele, cX5_allele, 5, (some .int), { frames := 6, cells := 1, slots := 6, locals := 92 }, [], false)
def uX4_hasAllele : MU := (yX4_hasAllele, cX4_hasAllele, 2, (some .boolean), { frames := 0, cells := 0, slots := 0, locals := 0 }, [], false)
def uX5_isWithin : MU := (yX5_isWithin, cX5_isWithin, 2, (some .boolean), { frames := 0, cells := 0, slots := 0, locals := 0 }, [], false)
def uX5_depth : MU := (yX5_depth, cX5_depth, 4, none, { frames := 6, cells := 1, slots := 6, locals := 92 }, [], false)
def uX5_isSample : MU := (yX5_isSample, cX5_isSample, 1, (some .boolean), { frames := 0, cells := 0, slots := 0, locals := 0 }, [], false)
def uX4_allowsInGenotype : MU := (yX4_allowsInGenotype, cX4_allowsInGenotype, 2, (some .boolean), { frames := 1, cells := 0, slots := 0, locals := 21 }, [], false)
def uX5_genotype : MU := (yX5_genotype, cX5_genotype, 5, none, { frames := 6, cells := 1, slots := 6, locals := 92 }, [], false)
def uX4_pairs : MU := (yX4_pairs, cX4_pairs, 1, (some .int), { frames := 0, cells := 0, slots := 0, locals := 0 }, [], false)
def uX5_likelihood : MU := (yX5_likelihood, cX5_likelihood, 4, none, { frames := 6, cells := 1, slots := 6, locals := 92 }, [], false)
def uX2_isFull : MU := (yX2_isFull, cX2_isFull, 1, (some .boolean), { frames := 0, cells := 0, slots := 0, locals := 0 }, [], false)
def uX2_open : MU := (yX2_open, cX2_open, 4, (some (.object "VariantKit$Variant")), { frames := 0, cells := 0, slots := 0, locals := 0 }, [], false)
def uX4_copy : MU := (yX4_copy, cX4_copy, 3, none, { frames := 1, cells := 0, slots := 0, locals := 48 }, [], false)
def uX2_insert : MU := (yX2_insert, cX2_insert, 3, (some .int), { frames := 2, cells := 0, slots := 0, locals := 70 }, [], false)
def uX5_add : MU := (yX5_add, cX5_add, 1, (some .int), { frames := 6, cells := 1, slots := 6, locals := 92 }, [], false)
def uX5_requireRecord : MU := (yX5_requireRecord, cX5_requireRecord, 2, none, { frames := 6, cells := 1, slots := 6, locals := 92 }, [], false)
def uX2_close : MU := (yX2_close, cX2_close, 4, none, { frames := 0, cells := 0, slots := 0, locals := 0 }, [], false)
def uX5_remove : MU := (yX5_remove, cX5_remove, 2, none, { frames := 7, cells := 1, slots := 6, locals := 113 }, [], false)
def uX4_isLastBaseShared : MU := (yX4_isLastBaseShared, cX4_isLastBaseShared, 2, (some .boolean), { frames := 0, cells := 0, slots := 0, locals := 0 }, [], false)
def uX4_shortest : MU := (yX4_shortest, cX4_shortest, 3, (some .int), { frames := 1, cells := 0, slots := 0, locals := 21 }, [], false)
def uX4_putInFront : MU := (yX4_putInFront, cX4_putInFront, 3, none, { frames := 0, cells := 0, slots := 0, locals := 0 }, [], false)
def uX4_trimEnd : MU := (yX4_trimEnd, cX4_trimEnd, 3, (some .boolean), { frames := 2, cells := 0, slots := 0, locals := 43 }, [], false)
def uX4_isFirstBaseShared : MU := (yX4_isFirstBaseShared, cX4_isFirstBaseShared, 3, (some .boolean), { frames := 1, cells := 0, slots := 0, locals := 23 }, [], false)
def uX4_trimFront : MU := (yX4_trimFront, cX4_trimFront, 2, (some .boolean), { frames := 2, cells := 0, slots := 0, locals := 45 }, [], false)
def uX4_trim : MU := (yX4_trim, cX4_trim, 4, none, { frames := 3, cells := 0, slots := 0, locals := 66 }, [], false)
def uX5_normalise : MU := (yX5_normalise, cX5_normalise, 2, (some .int), { frames := 7, cells := 1, slots := 6, locals := 113 }, [], false)
def uX4_appendAlleleOf : MU := (yX4_appendAlleleOf, cX4_appendAlleleOf, 3, none, { frames := 1, cells := 0, slots := 0, locals := 22 }, [], false)
def uX5_pairNumber : MU := (yX5_pairNumber, cX5_pairNumber, 4, (some .int), { frames := 1, cells := 0, slots := 0, locals := 21 }, [], false)
def uX4_becomePart : MU := (yX4_becomePart, cX4_becomePart, 5, none, { frames := 2, cells := 0, slots := 0, locals := 44 }, [], false)
def uX5_split : MU := (yX5_split, cX5_split, 4, (some .int), { frames := 7, cells := 2, slots := 12, locals := 113 }, [], false)
def uX4_lengthenLike : MU := (yX4_lengthenLike, cX4_lengthenLike, 5, none, { frames := 1, cells := 0, slots := 0, locals := 20 }, [], false)
def uX4_hasTooLongAllele : MU := (yX4_hasTooLongAllele, cX4_hasTooLongAllele, 2, (some .boolean), { frames := 0, cells := 0, slots := 0, locals := 0 }, [], false)
def uX1_uniteAlleles : MU := (yX1_uniteAlleles, cX1_uniteAlleles, 3, (some .boolean), { frames := 2, cells := 0, slots := 0, locals := 44 }, [], false)
def uX1_uniteDepths : MU := (yX1_uniteDepths, cX1_uniteDepths, 4, none, { frames := 1, cells := 0, slots := 0, locals := 21 }, [], false)
def uX1_unitedAllele : MU := (yX1_unitedAllele, cX1_unitedAllele, 3, (some .int), { frames := 0, cells := 0, slots := 0, locals := 0 }, [], false)
def uX1_uniteGenotypes : MU := (yX1_uniteGenotypes, cX1_uniteGenotypes, 2, none, { frames := 1, cells := 0, slots := 0, locals := 22 }, [], false)
def uX1_uniteLikelihoods : MU := (yX1_uniteLikelihoods, cX1_uniteLikelihoods, 7, none, { frames := 2, cells := 0, slots := 0, locals := 48 }, [], false)
def uX1_unite : MU := (yX1_unite, cX1_unite, 3, (some .boolean), { frames := 3, cells := 0, slots := 0, locals := 74 }, [], false)
def uX5_join : MU := (yX5_join, cX5_join, 2, none, { frames := 7, cells := 2, slots := 12, locals := 113 }, [], false)
def uX0_put : MU := (yX0_put, cX0_put, 2, none, { frames := 0, cells := 0, slots := 0, locals := 0 }, [], false)
def uX0_putNumber : MU := (yX0_putNumber, cX0_putNumber, 3, none, { frames := 1, cells := 0, slots := 0, locals := 21 }, [], false)
def uX0_putAllele : MU := (yX0_putAllele, cX0_putAllele, 4, none, { frames := 1, cells := 0, slots := 0, locals := 23 }, [], false)
def uX0_putNumbers : MU := (yX0_putNumbers, cX0_putNumbers, 6, none, { frames := 2, cells := 0, slots := 0, locals := 43 }, [], false)
def uX0_putVariant : MU := (yX0_putVariant, cX0_putVariant, 4, none, { frames := 3, cells := 0, slots := 0, locals := 68 }, [], false)
def uX5_written : MU := (yX5_written, cX5_written, 3, (some .int), { frames := 7, cells := 2, slots := 12, locals := 113 }, [], false)
def uX5_type : MU := (yX5_type, cX5_type, 5, none, { frames := 6, cells := 1, slots := 6, locals := 92 }, [], false)
def uX0_take : MU := (yX0_take, cX0_take, 1, (some .int), { frames := 0, cells := 0, slots := 0, locals := 0 }, [], false)
def uX0_takeNumber : MU := (yX0_takeNumber, cX0_takeNumber, 3, (some .int), { frames := 1, cells := 0, slots := 0, locals := 20 }, [], false)
def uX0_takeBases : MU := (yX0_takeBases, cX0_takeBases, 7, (some .int), { frames := 1, cells := 0, slots := 0, locals := 20 }, [], false)
def uX0_takeAlleles : MU := (yX0_takeAlleles, cX0_takeAlleles, 7, (some .boolean), { frames := 2, cells := 0, slots := 0, locals := 46 }, [], false)
def uX0_takeNumbers : MU := (yX0_takeNumbers, cX0_takeNumbers, 7, (some .boolean), { frames := 2, cells := 0, slots := 0, locals := 42 }, [], false)
def uX0_takeGenotype : MU := (yX0_takeGenotype, cX0_takeGenotype, 5, (some .boolean), { frames := 2, cells := 0, slots := 0, locals := 42 }, [], false)
def uX0_takeVariant : MU := (yX0_takeVariant, cX0_takeVariant, 5, (some .boolean), { frames := 3, cells := 0, slots := 0, locals := 72 }, [], false)
def uX0_isSame : MU := (yX0_isSame, cX0_isSame, 3, (some .boolean), { frames := 0, cells := 0, slots := 0, locals := 0 }, [], false)
def uX5_takeTyped : MU := (yX5_takeTyped, cX5_takeTyped, 1, (some .boolean), { frames := 4, cells := 0, slots := 0, locals := 96 }, [], false)
def uX5_read : MU := (yX5_read, cX5_read, 3, (some .int), { frames := 6, cells := 1, slots := 6, locals := 116 }, [], false)
def uX5_records : MU := (yX5_records, cX5_records, 1, (some .int), { frames := 0, cells := 0, slots := 0, locals := 0 }, [], false)
def uX4_lastPlace : MU := (yX4_lastPlace, cX4_lastPlace, 1, (some .int), { frames := 0, cells := 0, slots := 0, locals := 0 }, [], false)
def uX4_bin : MU := (yX4_bin, cX4_bin, 2, (some .int), { frames := 1, cells := 0, slots := 0, locals := 20 }, [], false)
def uX5_about : MU := (yX5_about, cX5_about, 4, (some .int), { frames := 7, cells := 2, slots := 12, locals := 113 }, [], false)
def uX5_base : MU := (yX5_base, cX5_base, 6, (some .int), { frames := 7, cells := 2, slots := 12, locals := 113 }, [], false)
def uX5_requireRegion : MU := (yX5_requireRegion, cX5_requireRegion, 2, none, { frames := 6, cells := 1, slots := 6, locals := 92 }, [], false)
def uX4_spansOneOf : MU := (yX4_spansOneOf, cX4_spansOneOf, 3, (some .boolean), { frames := 1, cells := 0, slots := 0, locals := 20 }, [], false)
def uX5_found : MU := (yX5_found, cX5_found, 5, (some .int), { frames := 7, cells := 1, slots := 6, locals := 113 }, [], false)
def uX5_mean : MU := (yX5_mean, cX5_mean, 6, (some .float), { frames := 7, cells := 2, slots := 12, locals := 113 }, [], false)
def uX6_init : MU := (yX6_init, cX6_init, 1, none, { frames := 1, cells := 5, slots := 1660, locals := 20 }, [], true)
def uX6_thrown : MU := (yX6_thrown, cX6_thrown, 1, (some .int), { frames := 0, cells := 0, slots := 0, locals := 0 }, [], false)
def uX6_throwing : MU := (yX6_throwing, cX6_throwing, 3, (some .boolean), { frames := 0, cells := 0, slots := 0, locals := 0 }, [], false)
def uX6_out : MU := (yX6_out, cX6_out, 2, (some .boolean), { frames := 0, cells := 0, slots := 0, locals := 0 }, [], false)
def uX6_get : MU := (yX6_get, cX6_get, 3, (some .int), { frames := 0, cells := 0, slots := 0, locals := 0 }, [], false)
def uX6_put : MU := (yX6_put, cX6_put, 4, none, { frames := 0, cells := 0, slots := 0, locals := 0 }, [], false)
def uX6_copy : MU := (yX6_copy, cX6_copy, 4, none, { frames := 0, cells := 0, slots := 0, locals := 0 }, [], false)
def uX6_empty : MU := (yX6_empty, cX6_empty, 4, none, { frames := 1, cells := 0, slots := 0, locals := 23 }, [], false)
def uX6_addAllele : MU := (yX6_addAllele, cX6_addAllele, 5, none, { frames := 1, cells := 0, slots := 0, locals := 23 }, [], false)
def uX6_findAllele : MU := (yX6_findAllele, cX6_findAllele, 5, (some .int), { frames := 1, cells := 0, slots := 0, locals := 22 }, [], false)
def uX6_referenceFrom : MU := (yX6_referenceFrom, cX6_referenceFrom, 5, (some .int), { frames := 0, cells := 0, slots := 0, locals := 0 }, [], false)
def uX6_pair : MU := (yX6_pair, cX6_pair, 2, (some .int), { frames := 0, cells := 0, slots := 0, locals := 0 }, [], false)
def uX6_pairs : MU := (yX6_pairs, cX6_pairs, 1, (some .int), { frames := 0, cells := 0, slots := 0, locals := 0 }, [], false)
def uX6_reference : MU := (yX6_reference, cX6_reference, 6, (some .int), { frames := 1, cells := 0, slots := 0, locals := 22 }, [], false)
def uX6_draft : MU := (yX6_draft, cX6_draft, 4, none, { frames := 2, cells := 0, slots := 0, locals := 47 }, [], false)
def uX6_allele : MU := (yX6_allele, cX6_allele, 6, (some .int), { frames := 2, cells := 0, slots := 0, locals := 47 }, [], false)
def uX6_depth : MU := (yX6_depth, cX6_depth, 4, none, { frames := 1, cells := 0, slots := 0, locals := 23 }, [], false)
def uX6_genotype : MU := (yX6_genotype, cX6_genotype, 6, none, { frames := 1, cells := 0, slots := 0, locals := 23 }, [], false)
def uX6_likelihood : MU := (yX6_likelihood, cX6_likelihood, 4, none, { frames := 1, cells := 0, slots := 0, locals := 23 }, [], false)
def uX6_open : MU := (yX6_open, cX6_open, 3, none, { frames := 1, cells := 0, slots := 0, locals := 23 }, [], false)
def uX6_enter : MU := (yX6_enter, cX6_enter, 3, (some .int), { frames := 2, cells := 0, slots := 0, locals := 45 }, [], false)
def uX6_add : MU := (yX6_add, cX6_add, 1, (some .int), { frames := 3, cells := 0, slots := 0, locals := 67 }, [], false)
def uX6_close : MU := (yX6_close, cX6_close, 3, none, { frames := 1, cells := 0, slots := 0, locals := 23 }, [], false)
def uX6_remove : MU := (yX6_remove, cX6_remove, 2, none, { frames := 2, cells := 0, slots := 0, locals := 45 }, [], false)
def uX6_shortest : MU := (yX6_shortest, cX6_shortest, 4, (some .int), { frames := 1, cells := 0, slots := 0, locals := 22 }, [], false)
def uX6_edge : MU := (yX6_edge, cX6_edge, 5, (some .int), { frames := 1, cells := 0, slots := 0, locals := 22 }, [], false)
def uX6_same : MU := (yX6_same, cX6_same, 5, (some .boolean), { frames := 2, cells := 0, slots := 0, locals := 46 }, [], false)
def uX6_step : MU := (yX6_step, cX6_step, 9, (some .boolean), { frames := 3, cells := 0, slots := 0, locals := 70 }, [], false)
def uX6_normalise : MU := (yX6_normalise, cX6_normalise, 3, (some .int), { frames := 4, cells := 0, slots := 0, locals := 98 }, [], false)
def uX6_part : MU := (yX6_part, cX6_part, 6, none, { frames := 2, cells := 0, slots := 0, locals := 47 }, [], false)
def uX6_split : MU := (yX6_split, cX6_split, 5, (some .int), { frames := 3, cells := 0, slots := 0, locals := 72 }, [], false)
def uX6_gather : MU := (yX6_gather, cX6_gather, 9, (some .boolean), { frames := 2, cells := 0, slots := 0, locals := 47 }, [], false)
def uX6_back : MU := (yX6_back, cX6_back, 5, (some .int), { frames := 1, cells := 0, slots := 0, locals := 22 }, [], false)
def uX6_likely : MU := (yX6_likely, cX6_likely, 8, (some .int), { frames := 2, cells := 0, slots := 0, locals := 46 }, [], false)
def uX6_joinSample : MU := (yX6_joinSample, cX6_joinSample, 8, none, { frames := 3, cells := 0, slots := 0, locals := 73 }, [], false)
def uX6_join : MU := (yX6_join, cX6_join, 14, none, { frames := 4, cells := 0, slots := 0, locals := 100 }, [], false)
def uX6_write : MU := (yX6_write, cX6_write, 2, none, { frames := 0, cells := 0, slots := 0, locals := 0 }, [], false)
def uX6_writeRow : MU := (yX6_writeRow, cX6_writeRow, 6, none, { frames := 1, cells := 0, slots := 0, locals := 22 }, [], false)
def uX6_letter : MU := (yX6_letter, cX6_letter, 1, (some .int), { frames := 0, cells := 0, slots := 0, locals := 0 }, [], false)
def uX6_writeOut : MU := (yX6_writeOut, cX6_writeOut, 6, none, { frames := 2, cells := 0, slots := 0, locals := 47 }, [], false)
def uX6_written : MU := (yX6_written, cX6_written, 4, (some .int), { frames := 3, cells := 0, slots := 0, locals := 72 }, [], false)
def uX6_type : MU := (yX6_type, cX6_type, 6, none, { frames := 1, cells := 0, slots := 0, locals := 22 }, [], false)
def uX6_byteAt : MU := (yX6_byteAt, cX6_byteAt, 2, (some .int), { frames := 0, cells := 0, slots := 0, locals := 0 }, [], false)
def uX6_twoAt : MU := (yX6_twoAt, cX6_twoAt, 2, (some .int), { frames := 1, cells := 0, slots := 0, locals := 21 }, [], false)
def uX6_readRow : MU := (yX6_readRow, cX6_readRow, 6, (some .int), { frames := 2, cells := 0, slots := 0, locals := 42 }, [], false)
def uX6_baseOf : MU := (yX6_baseOf, cX6_baseOf, 1, (some .int), { frames := 0, cells := 0, slots := 0, locals := 0 }, [], false)
def uX6_inRange : MU := (yX6_inRange, cX6_inRange, 5, (some .boolean), { frames := 1, cells := 0, slots := 0, locals := 24 }, [], false)
def uX6_taken : MU := (yX6_taken, cX6_taken, 7, (some .boolean), { frames := 3, cells := 0, slots := 0, locals := 67 }, [], false)
def uX6_read : MU := (yX6_read, cX6_read, 4, (some .int), { frames := 4, cells := 0, slots := 0, locals := 93 }, [], false)
def uX6_records : MU := (yX6_records, cX6_records, 1, (some .int), { frames := 0, cells := 0, slots := 0, locals := 0 }, [], false)
def uX6_binOf : MU := (yX6_binOf, cX6_binOf, 4, (some .int), { frames := 1, cells := 0, slots := 0, locals := 22 }, [], false)
def uX6_about : MU := (yX6_about, cX6_about, 3, (some .int), { frames := 2, cells := 0, slots := 0, locals := 45 }, [], false)
def uX6_base : MU := (yX6_base, cX6_base, 6, (some .int), { frames := 1, cells := 0, slots := 0, locals := 22 }, [], false)
def uX6_isBad : MU := (yX6_isBad, cX6_isBad, 3, (some .boolean), { frames := 0, cells := 0, slots := 0, locals := 0 }, [], false)
def uX6_spans : MU := (yX6_spans, cX6_spans, 4, (some .boolean), { frames := 1, cells := 0, slots := 0, locals := 22 }, [], false)
def uX6_found : MU := (yX6_found, cX6_found, 5, (some .int), { frames := 2, cells := 0, slots := 0, locals := 45 }, [], false)
def uX6_mean : MU := (yX6_mean, cX6_mean, 7, (some .float), { frames := 2, cells := 0, slots := 0, locals := 45 }, [], false)
def uL_reference : MU := (yL_reference, cL_reference, 6, (some .int), { frames := 7, cells := 1, slots := 6, locals := 115 }, [(0, 11, 14, 13), (0, 11, 18, 15)], false)
def uL_draft : MU := (yL_draft, cL_draft, 4, (some .int), { frames := 7, cells := 1, slots := 6, locals := 114 }, [(0, 6, 9, 13)], false)
def uL_allele : MU := (yL_allele, cL_allele, 6, (some .int), { frames := 7, cells := 1, slots := 6, locals := 116 }, [(0, 11, 14, 13), (0, 11, 18, 15)], false)
def uL_depth : MU := (yL_depth, cL_depth, 5, (some .int), { frames := 7, cells := 1, slots := 6, locals := 115 }, [(0, 7, 10, 13)], false)
def uL_genotype : MU := (yL_genotype, cL_genotype, 6, (some .int), { frames := 7, cells := 1, slots := 6, locals := 116 }, [(0, 9, 12, 13)], false)
def uL_likelihood : MU := (yL_likelihood, cL_likelihood, 5, (some .int), { frames := 7, cells := 1, slots := 6, locals := 115 }, [(0, 7, 10, 13)], false)
def uL_add : MU := (yL_add, cL_add, 3, (some .int), { frames := 7, cells := 1, slots := 6, locals := 112 }, [(0, 8, 11, 15)], false)
def uL_remove : MU := (yL_remove, cL_remove, 3, (some .int), { frames := 8, cells := 1, slots := 6, locals := 134 }, [(0, 5, 8, 13)], false)
def uL_normalise : MU := (yL_normalise, cL_normalise, 4, (some .int), { frames := 8, cells := 1, slots := 6, locals := 134 }, [(0, 9, 12, 13)], false)
def uL_split : MU := (yL_split, cL_split, 4, (some .int), { frames := 8, cells := 2, slots := 12, locals := 136 }, [(0, 9, 12, 13), (0, 9, 15, 15)], false)
def uL_join : MU := (yL_join, cL_join, 3, (some .int), { frames := 8, cells := 2, slots := 12, locals := 134 }, [(0, 5, 8, 13), (0, 5, 11, 53), (0, 5, 14, 15)], false)
def uL_written : MU := (yL_written, cL_written, 5, (some .int), { frames := 8, cells := 2, slots := 12, locals := 135 }, [(0, 10, 13, 13), (0, 10, 17, 59)], false)
def uL_type : MU := (yL_type, cL_type, 5, (some .int), { frames := 7, cells := 1, slots := 6, locals := 116 }, [(0, 6, 9, 13), (0, 6, 13, 15)], false)
def uL_read : MU := (yL_read, cL_read, 3, (some .int), { frames := 7, cells := 1, slots := 6, locals := 138 }, [(0, 8, 11, 13), (0, 8, 14, 15)], false)
def uL_about : MU := (yL_about, cL_about, 5, (some .int), { frames := 8, cells := 2, slots := 12, locals := 136 }, [(0, 10, 13, 13)], false)
def uL_base : MU := (yL_base, cL_base, 6, (some .int), { frames := 8, cells := 2, slots := 12, locals := 138 }, [(0, 12, 15, 13), (0, 12, 19, 59)], false)
def uL_found : MU := (yL_found, cL_found, 5, (some .int), { frames := 8, cells := 1, slots := 6, locals := 137 }, [(0, 10, 13, 13)], false)
def uL_mean : MU := (yL_mean, cL_mean, 5, (some .int), { frames := 8, cells := 2, slots := 12, locals := 138 }, [(0, 10, 13, 13), (0, 10, 17, 53)], false)
theorem mt1 {w : Cond} (i : Nat) (h : tables_1_1[i]? = some w) : w ∈ lw_tbl := List.mem_append_right _ (List.mem_append_left _ (List.mem_of_getElem? h))
theorem mt2 {w : Cond} (i : Nat) (h : tables_1_2[i]? = some w) : w ∈ lw_tbl := List.mem_append_right _ (List.mem_append_right _ (List.mem_append_left _ (List.mem_of_getElem? h)))
theorem mt3 {w : Cond} (i : Nat) (h : tables_1_3[i]? = some w) : w ∈ lw_tbl := List.mem_append_right _ (List.mem_append_right _ (List.mem_append_right _ (List.mem_append_left _ (List.mem_of_getElem? h))))
theorem mt4 {w : Cond} (i : Nat) (h : tables_1_4[i]? = some w) : w ∈ lw_tbl := List.mem_append_right _ (List.mem_append_right _ (List.mem_append_right _ (List.mem_append_right _ (List.mem_append_left _ (List.mem_of_getElem? h)))))
theorem mt5 {w : Cond} (i : Nat) (h : tables_1_5[i]? = some w) : w ∈ lw_tbl := List.mem_append_right _ (List.mem_append_right _ (List.mem_append_right _ (List.mem_append_right _ (List.mem_append_right _ (List.mem_of_getElem? h)))))
theorem mts {w : Cond} (i : Nat) (h : (k2_sels lw_privs)[i]? = some w) : w ∈ lw_tbl := List.mem_append_left _ (List.mem_of_getElem? h)
theorem wo3_3 : Cond.methodLink RX3 3 objectInit ∈ lw_tbl := (mt1 30 rfl)
theorem ff3_9 : FF RX3 9 3 0 (.array (.int)) := ⟨_, _, _, _, cf3, by decide, rfl, rfl, rfl, (mt1 31 rfl)⟩
theorem fl3_15 : FL RX3 15 3 1 false (.int) := ⟨_, _, _, _, cf3, by decide, rfl, rfl, Or.inl (mt1 32 rfl)⟩
theorem wo4_3 : Cond.methodLink RX4 3 objectInit ∈ lw_tbl := (mt1 52 rfl)
theorem ff4_9 : FF RX4 9 4 3 (.array (.int)) := ⟨_, _, _, _, cf4, by decide, rfl, rfl, rfl, (mt1 65 rfl)⟩
theorem ff4_15 : FF RX4 15 4 4 (.array (.int)) := ⟨_, _, _, _, cf4, by decide, rfl, rfl, rfl, (mt1 69 rfl)⟩
theorem ff4_18 : FF RX4 18 4 5 (.array (.int)) := ⟨_, _, _, _, cf4, by decide, rfl, rfl, rfl, (mt1 73 rfl)⟩
theorem ff4_21 : FF RX4 21 4 6 (.array (.int)) := ⟨_, _, _, _, cf4, by decide, rfl, rfl, rfl, (mt1 77 rfl)⟩
theorem ff4_24 : FF RX4 24 4 7 (.array (.boolean)) := ⟨_, _, _, _, cf4, by decide, rfl, rfl, rfl, (mt1 81 rfl)⟩
theorem ff4_28 : FF RX4 28 4 8 (.array (.int)) := ⟨_, _, _, _, cf4, by decide, rfl, rfl, rfl, (mt1 85 rfl)⟩
theorem fl2_18 : FL RX2 18 2 1 false (.int) := ⟨_, _, _, _, cf2, by decide, rfl, rfl, Or.inl (mt1 111 rfl)⟩
theorem fl2_11 : FL RX2 11 2 0 true (.array (.object "VariantKit$Variant")) := ⟨_, _, _, _, cf2, by decide, rfl, rfl, Or.inl (mt1 109 rfl)⟩
theorem no2_9 : NO RX2 9 4 := ⟨_, _, _, _, cf4, (mt1 46 rfl), (mt1 48 rfl), (mt1 4 rfl), by decide +kernel⟩
theorem li2_17 : LI RX2 17 uX4_init 0 := ⟨⟨(mt1 49 rfl), (mt1 4 rfl), by decide +kernel, by decide +kernel, (mt1 51 rfl)⟩, rfl, rfl, (mt1 50 rfl)⟩
theorem wo2_3 : Cond.methodLink RX2 3 objectInit ∈ lw_tbl := (mt1 45 rfl)
theorem wc2_9 : Cond.classLink RX2 9 RX4 ∈ lw_tbl := (mt1 46 rfl)
theorem ff2_11 : FF RX2 11 2 0 (.array (.object "VariantKit$Variant")) := ⟨_, _, _, _, cf2, by decide, rfl, rfl, rfl, (mt1 109 rfl)⟩
theorem wo1_3 : Cond.methodLink RX1 3 objectInit ∈ lw_tbl := (mt1 125 rfl)
theorem no1_9 : NO RX1 9 4 := ⟨_, _, _, _, cf4, (mt1 126 rfl), (mt1 48 rfl), (mt1 4 rfl), by decide +kernel⟩
theorem li1_11 : LI RX1 11 uX4_init 0 := ⟨⟨(mt1 127 rfl), (mt1 4 rfl), by decide +kernel, by decide +kernel, (mt1 51 rfl)⟩, rfl, rfl, (mt1 50 rfl)⟩
theorem ff1_12 : FF RX1 12 1 0 (.object "VariantKit$Variant") := ⟨_, _, _, _, cf1, by decide, rfl, rfl, rfl, (mt1 128 rfl)⟩
theorem ff1_18 : FF RX1 18 1 1 (.object "VariantKit$Variant") := ⟨_, _, _, _, cf1, by decide, rfl, rfl, rfl, (mt1 129 rfl)⟩
theorem ff1_21 : FF RX1 21 1 2 (.object "VariantKit$Variant") := ⟨_, _, _, _, cf1, by decide, rfl, rfl, rfl, (mt1 130 rfl)⟩
theorem ff1_24 : FF RX1 24 1 3 (.array (.int)) := ⟨_, _, _, _, cf1, by decide, rfl, rfl, rfl, (mt1 132 rfl)⟩
theorem wo0_3 : Cond.methodLink RX0 3 objectInit ∈ lw_tbl := (mt1 147 rfl)
theorem ff0_9 : FF RX0 9 0 0 (.array (.int)) := ⟨_, _, _, _, cf0, by decide, rfl, rfl, rfl, (mt1 148 rfl)⟩
theorem fl0_15 : FL RX0 15 0 1 false (.int) := ⟨_, _, _, _, cf0, by decide, rfl, rfl, Or.inl (mt1 150 rfl)⟩
theorem fl0_19 : FL RX0 19 0 2 false (.int) := ⟨_, _, _, _, cf0, by decide, rfl, rfl, Or.inl (mt1 152 rfl)⟩
theorem wo5_1 : Cond.methodLink RX5 1 objectInit ∈ lw_tbl := (mt1 22 rfl)
theorem no5_7 : NO RX5 7 3 := ⟨_, _, _, _, cf3, (mt1 25 rfl), (mt1 26 rfl), (mt1 2 rfl), by decide +kernel⟩
theorem li5_9 : LI RX5 9 uX3_init 0 := ⟨⟨(mt1 27 rfl), (mt1 2 rfl), by decide +kernel, by decide +kernel, (mt1 29 rfl)⟩, rfl, rfl, (mt1 28 rfl)⟩
theorem ff5_10 : FF RX5 10 5 0 (.object "VariantKit$Reference") := ⟨_, _, _, _, cf5, by decide, rfl, rfl, rfl, (mt1 160 rfl)⟩
theorem no5_16 : NO RX5 16 2 := ⟨_, _, _, _, cf2, (mt1 40 rfl), (mt1 41 rfl), (mt1 3 rfl), by decide +kernel⟩
theorem li5_18 : LI RX5 18 uX2_init 0 := ⟨⟨(mt1 42 rfl), (mt1 3 rfl), by decide +kernel, by decide +kernel, (mt1 44 rfl)⟩, rfl, rfl, (mt1 43 rfl)⟩
theorem ff5_19 : FF RX5 19 5 1 (.object "VariantKit$RecordList") := ⟨_, _, _, _, cf5, by decide, rfl, rfl, rfl, (mt1 161 rfl)⟩
theorem no5_23 : NO RX5 23 4 := ⟨_, _, _, _, cf4, (mt1 118 rfl), (mt1 48 rfl), (mt1 4 rfl), by decide +kernel⟩
theorem li5_25 : LI RX5 25 uX4_init 0 := ⟨⟨(mt1 119 rfl), (mt1 4 rfl), by decide +kernel, by decide +kernel, (mt1 51 rfl)⟩, rfl, rfl, (mt1 50 rfl)⟩
theorem ff5_26 : FF RX5 26 5 2 (.object "VariantKit$Variant") := ⟨_, _, _, _, cf5, by decide, rfl, rfl, rfl, (mt1 162 rfl)⟩
theorem fl5_30 : FL RX5 30 5 3 false (.boolean) := ⟨_, _, _, _, cf5, by decide, rfl, rfl, Or.inl (mt1 163 rfl)⟩
theorem ff5_34 : FF RX5 34 5 4 (.object "VariantKit$Variant") := ⟨_, _, _, _, cf5, by decide, rfl, rfl, rfl, (mt1 164 rfl)⟩
theorem no5_37 : NO RX5 37 1 := ⟨_, _, _, _, cf1, (mt1 120 rfl), (mt1 121 rfl), (mt1 5 rfl), by decide +kernel⟩
theorem li5_39 : LI RX5 39 uX1_init 0 := ⟨⟨(mt1 122 rfl), (mt1 5 rfl), by decide +kernel, by decide +kernel, (mt1 124 rfl)⟩, rfl, rfl, (mt1 123 rfl)⟩
theorem ff5_40 : FF RX5 40 5 5 (.object "VariantKit$Joiner") := ⟨_, _, _, _, cf5, by decide, rfl, rfl, rfl, (mt1 165 rfl)⟩
theorem no5_44 : NO RX5 44 0 := ⟨_, _, _, _, cf0, (mt1 142 rfl), (mt1 143 rfl), (mt1 6 rfl), by decide +kernel⟩
theorem li5_46 : LI RX5 46 uX0_init 0 := ⟨⟨(mt1 144 rfl), (mt1 6 rfl), by decide +kernel, by decide +kernel, (mt1 146 rfl)⟩, rfl, rfl, (mt1 145 rfl)⟩
theorem ff5_47 : FF RX5 47 5 6 (.object "VariantKit$ByteRow") := ⟨_, _, _, _, cf5, by decide, rfl, rfl, rfl, (mt1 166 rfl)⟩
theorem ff5_51 : FF RX5 51 5 7 (.object "VariantKit$ByteRow") := ⟨_, _, _, _, cf5, by decide, rfl, rfl, rfl, (mt1 167 rfl)⟩
theorem fl3_9 : FL RX3 9 3 0 true (.array (.int)) := ⟨_, _, _, _, cf3, by decide, rfl, rfl, Or.inl (mt1 31 rfl)⟩
theorem ln3_19 : LN RX3 19 uX5_baseOf 3 := ⟨"VariantKit", (mt2 48 rfl), (mt1 1 rfl), by decide +kernel, by decide +kernel, (mt2 50 rfl), (mt2 49 rfl)⟩
theorem tw_54_58 : TW 54 58 "java/lang/IllegalArgumentException" := ⟨by decide +kernel, (mt1 198 rfl), (mt1 11 rfl), by decide +kernel⟩
theorem tw_65_69 : TW 65 69 "java/lang/IllegalStateException" := ⟨by decide +kernel, (mt2 27 rfl), (mt1 12 rfl), by decide +kernel⟩
theorem fl5_19 : FL RX5 19 5 1 true (.object "VariantKit$RecordList") := ⟨_, _, _, _, cf5, by decide, rfl, rfl, Or.inl (mt1 161 rfl)⟩
theorem fl5_61 : FL RX5 61 2 1 false (.int) := ⟨_, _, _, _, cf2, by decide, rfl, rfl, Or.inr ⟨"VariantKit", (mt1 112 rfl)⟩⟩
theorem fl5_10 : FL RX5 10 5 0 true (.object "VariantKit$Reference") := ⟨_, _, _, _, cf5, by decide, rfl, rfl, Or.inl (mt1 160 rfl)⟩
theorem fl5_70 : FL RX5 70 3 1 false (.int) := ⟨_, _, _, _, cf3, by decide, rfl, rfl, Or.inr ⟨"VariantKit", (mt1 33 rfl)⟩⟩
theorem lv5_75 : LV RX5 75 uX3_append 2 3 := ⟨⟨(mt2 44 rfl), (mt1 2 rfl), by decide +kernel, by decide +kernel, (mt2 47 rfl)⟩, (mt2 45 rfl), (mt2 46 rfl), by decide, _, _, rfl⟩
theorem fl4_28 : FL RX4 28 4 8 true (.array (.int)) := ⟨_, _, _, _, cf4, by decide, rfl, rfl, Or.inl (mt1 85 rfl)⟩
theorem lv4_41 : LV RX4 41 uX4_fillLikelihoods 1 4 := ⟨⟨(mt2 68 rfl), (mt1 4 rfl), by decide +kernel, by decide +kernel, (mt2 71 rfl)⟩, (mt2 69 rfl), (mt2 70 rfl), by decide, _, _, rfl⟩
theorem fl4_24 : FL RX4 24 4 7 true (.array (.boolean)) := ⟨_, _, _, _, cf4, by decide, rfl, rfl, Or.inl (mt1 81 rfl)⟩
theorem fl4_21 : FL RX4 21 4 6 true (.array (.int)) := ⟨_, _, _, _, cf4, by decide, rfl, rfl, Or.inl (mt1 77 rfl)⟩
theorem fl4_31 : FL RX4 31 4 0 false (.int) := ⟨_, _, _, _, cf4, by decide, rfl, rfl, Or.inl (mt1 53 rfl)⟩
theorem fl4_35 : FL RX4 35 4 1 false (.int) := ⟨_, _, _, _, cf4, by decide, rfl, rfl, Or.inl (mt1 57 rfl)⟩
theorem fl4_38 : FL RX4 38 4 2 false (.int) := ⟨_, _, _, _, cf4, by decide, rfl, rfl, Or.inl (mt1 61 rfl)⟩
theorem fl4_9 : FL RX4 9 4 3 true (.array (.int)) := ⟨_, _, _, _, cf4, by decide, rfl, rfl, Or.inl (mt1 65 rfl)⟩
theorem fl4_15 : FL RX4 15 4 4 true (.array (.int)) := ⟨_, _, _, _, cf4, by decide, rfl, rfl, Or.inl (mt1 69 rfl)⟩
theorem fl4_18 : FL RX4 18 4 5 true (.array (.int)) := ⟨_, _, _, _, cf4, by decide, rfl, rfl, Or.inl (mt1 73 rfl)⟩
theorem lv5_81 : LV RX5 81 uX3_covers 2 3 := ⟨⟨(mt2 59 rfl), (mt1 2 rfl), by decide +kernel, by decide +kernel, (mt2 62 rfl)⟩, (mt2 60 rfl), (mt2 61 rfl), by decide, _, _, rfl⟩
theorem fl5_26 : FL RX5 26 5 2 true (.object "VariantKit$Variant") := ⟨_, _, _, _, cf5, by decide, rfl, rfl, Or.inl (mt1 162 rfl)⟩
theorem lv5_87 : LV RX5 87 uX4_clear 0 4 := ⟨⟨(mt2 64 rfl), (mt1 4 rfl), by decide +kernel, by decide +kernel, (mt2 67 rfl)⟩, (mt2 65 rfl), (mt2 66 rfl), by decide, _, _, rfl⟩
theorem fl5_90 : FL RX5 90 4 0 false (.int) := ⟨_, _, _, _, cf4, by decide, rfl, rfl, Or.inr ⟨"VariantKit", (mt1 55 rfl)⟩⟩
theorem lv5_93 : LV RX5 93 uX3_packed 2 3 := ⟨⟨(mt2 72 rfl), (mt1 2 rfl), by decide +kernel, by decide +kernel, (mt2 75 rfl)⟩, (mt2 73 rfl), (mt2 74 rfl), by decide, _, _, rfl⟩
theorem lv5_97 : LV RX5 97 uX4_appendAllele 2 4 := ⟨⟨(mt2 76 rfl), (mt1 4 rfl), by decide +kernel, by decide +kernel, (mt2 79 rfl)⟩, (mt2 77 rfl), (mt2 78 rfl), by decide, _, _, rfl⟩
theorem fl5_105 : FL RX5 105 4 2 false (.int) := ⟨_, _, _, _, cf4, by decide, rfl, rfl, Or.inr ⟨"VariantKit", (mt1 64 rfl)⟩⟩
theorem ls5_110 : LSt RX5 110 uX5_lowBases 1 := ⟨⟨(mt2 90 rfl), (mt1 1 rfl), by decide +kernel, by decide +kernel, (mt2 92 rfl)⟩, (mt2 91 rfl)⟩
theorem lv5_114 : LV RX5 114 uX4_find 2 4 := ⟨⟨(mt2 93 rfl), (mt1 4 rfl), by decide +kernel, by decide +kernel, (mt2 96 rfl)⟩, (mt2 94 rfl), (mt2 95 rfl), by decide, _, _, rfl⟩
theorem lv5_119 : LV RX5 119 uX4_hasAllele 1 4 := ⟨⟨(mt2 105 rfl), (mt1 4 rfl), by decide +kernel, by decide +kernel, (mt2 108 rfl)⟩, (mt2 106 rfl), (mt2 107 rfl), by decide, _, _, rfl⟩
theorem ls5_125 : LSt RX5 125 uX5_isWithin 2 := ⟨⟨(mt2 110 rfl), (mt1 1 rfl), by decide +kernel, by decide +kernel, (mt2 112 rfl)⟩, (mt2 111 rfl)⟩
theorem fl5_130 : FL RX5 130 4 5 true (.array (.int)) := ⟨_, _, _, _, cf4, by decide, rfl, rfl, Or.inr ⟨"VariantKit", (mt1 76 rfl)⟩⟩
theorem fl5_134 : FL RX5 134 4 1 false (.int) := ⟨_, _, _, _, cf4, by decide, rfl, rfl, Or.inr ⟨"VariantKit", (mt1 60 rfl)⟩⟩
theorem lv4_51 : LV RX4 51 uX4_hasAllele 1 4 := ⟨⟨(mt2 129 rfl), (mt1 4 rfl), by decide +kernel, by decide +kernel, (mt2 108 rfl)⟩, (mt2 106 rfl), (mt2 107 rfl), by decide, _, _, rfl⟩
theorem ls5_137 : LSt RX5 137 uX5_isSample 1 := ⟨⟨(mt2 121 rfl), (mt1 1 rfl), by decide +kernel, by decide +kernel, (mt2 123 rfl)⟩, (mt2 122 rfl)⟩
theorem lv5_142 : LV RX5 142 uX4_allowsInGenotype 1 4 := ⟨⟨(mt2 125 rfl), (mt1 4 rfl), by decide +kernel, by decide +kernel, (mt2 128 rfl)⟩, (mt2 126 rfl), (mt2 127 rfl), by decide, _, _, rfl⟩
theorem fl5_147 : FL RX5 147 4 6 true (.array (.int)) := ⟨_, _, _, _, cf4, by decide, rfl, rfl, Or.inr ⟨"VariantKit", (mt1 80 rfl)⟩⟩
theorem fl5_150 : FL RX5 150 4 7 true (.array (.boolean)) := ⟨_, _, _, _, cf4, by decide, rfl, rfl, Or.inr ⟨"VariantKit", (mt1 84 rfl)⟩⟩
theorem lv5_154 : LV RX5 154 uX4_pairs 0 4 := ⟨⟨(mt2 138 rfl), (mt1 4 rfl), by decide +kernel, by decide +kernel, (mt2 141 rfl)⟩, (mt2 139 rfl), (mt2 140 rfl), by decide, _, _, rfl⟩
theorem fl5_162 : FL RX5 162 4 8 true (.array (.int)) := ⟨_, _, _, _, cf4, by decide, rfl, rfl, Or.inr ⟨"VariantKit", (mt1 88 rfl)⟩⟩
theorem wy4_45 : Cond.methodLink RX4 45 arraycopyName ∈ lw_tbl := (mt2 169 rfl)
theorem lv2_25 : LV RX2 25 uX2_open 1 2 := ⟨⟨(mt2 161 rfl), (mt1 3 rfl), by decide +kernel, by decide +kernel, (mt2 164 rfl)⟩, (mt2 162 rfl), (mt2 163 rfl), by decide, _, _, rfl⟩
theorem lv2_29 : LV RX2 29 uX4_copy 1 4 := ⟨⟨(mt2 165 rfl), (mt1 4 rfl), by decide +kernel, by decide +kernel, (mt2 168 rfl)⟩, (mt2 166 rfl), (mt2 167 rfl), by decide, _, _, rfl⟩
theorem fl2_22 : FL RX2 22 4 0 false (.int) := ⟨_, _, _, _, cf4, by decide, rfl, rfl, Or.inr ⟨"VariantKit", (mt1 54 rfl)⟩⟩
theorem lv5_167 : LV RX5 167 uX2_isFull 0 2 := ⟨⟨(mt2 152 rfl), (mt1 3 rfl), by decide +kernel, by decide +kernel, (mt2 155 rfl)⟩, (mt2 153 rfl), (mt2 154 rfl), by decide, _, _, rfl⟩
theorem lv5_173 : LV RX5 173 uX2_insert 1 2 := ⟨⟨(mt2 157 rfl), (mt1 3 rfl), by decide +kernel, by decide +kernel, (mt2 160 rfl)⟩, (mt2 158 rfl), (mt2 159 rfl), by decide, _, _, rfl⟩
theorem lv5_177 : LV RX5 177 uX5_requireRecord 1 5 := ⟨⟨(mt2 179 rfl), (mt1 1 rfl), by decide +kernel, by decide +kernel, (mt2 182 rfl)⟩, (mt2 181 rfl), (mts 1 rfl), by decide, _, _, rfl⟩
theorem lv5_181 : LV RX5 181 uX2_close 1 2 := ⟨⟨(mt2 184 rfl), (mt1 3 rfl), by decide +kernel, by decide +kernel, (mt2 187 rfl)⟩, (mt2 185 rfl), (mt2 186 rfl), by decide, _, _, rfl⟩
theorem wm4_88 : Cond.methodLink RX4 88 Lib.Math.min.name ∈ lw_tbl := (mt2 212 rfl)
theorem lv4_70 : LV RX4 70 uX4_shortest 0 4 := ⟨⟨(mt2 208 rfl), (mt1 4 rfl), by decide +kernel, by decide +kernel, (mt2 211 rfl)⟩, (mt2 210 rfl), (mts 4 rfl), by decide, _, _, rfl⟩
theorem lv4_73 : LV RX4 73 uX3_packed 2 3 := ⟨⟨(mt2 215 rfl), (mt1 2 rfl), by decide +kernel, by decide +kernel, (mt2 75 rfl)⟩, (mt2 73 rfl), (mt2 74 rfl), by decide, _, _, rfl⟩
theorem lv4_78 : LV RX4 78 uX4_putInFront 1 4 := ⟨⟨(mt2 216 rfl), (mt1 4 rfl), by decide +kernel, by decide +kernel, (mt2 219 rfl)⟩, (mt2 218 rfl), (mts 5 rfl), by decide, _, _, rfl⟩
theorem lv4_67 : LV RX4 67 uX4_isLastBaseShared 0 4 := ⟨⟨(mt2 204 rfl), (mt1 4 rfl), by decide +kernel, by decide +kernel, (mt2 207 rfl)⟩, (mt2 206 rfl), (mts 3 rfl), by decide, _, _, rfl⟩
theorem ln4_93 : LN RX4 93 uX5_baseOf 3 := ⟨"VariantKit", (mt2 228 rfl), (mt1 1 rfl), by decide +kernel, by decide +kernel, (mt2 50 rfl), (mt2 49 rfl)⟩
theorem ln4_84 : LN RX4 84 uX5_lowBases 1 := ⟨"VariantKit", (mt2 229 rfl), (mt1 1 rfl), by decide +kernel, by decide +kernel, (mt2 92 rfl), (mt2 91 rfl)⟩
theorem lv4_81 : LV RX4 81 uX4_isFirstBaseShared 0 4 := ⟨⟨(mt2 224 rfl), (mt1 4 rfl), by decide +kernel, by decide +kernel, (mt2 227 rfl)⟩, (mt2 226 rfl), (mts 7 rfl), by decide, _, _, rfl⟩
theorem lv4_59 : LV RX4 59 uX4_trimEnd 1 4 := ⟨⟨(mt2 200 rfl), (mt1 4 rfl), by decide +kernel, by decide +kernel, (mt2 203 rfl)⟩, (mt2 202 rfl), (mts 2 rfl), by decide, _, _, rfl⟩
theorem lv4_63 : LV RX4 63 uX4_trimFront 0 4 := ⟨⟨(mt2 220 rfl), (mt1 4 rfl), by decide +kernel, by decide +kernel, (mt2 223 rfl)⟩, (mt2 222 rfl), (mts 6 rfl), by decide, _, _, rfl⟩
theorem fl5_34 : FL RX5 34 5 4 true (.object "VariantKit$Variant") := ⟨_, _, _, _, cf5, by decide, rfl, rfl, Or.inl (mt1 164 rfl)⟩
theorem fl5_184 : FL RX5 184 2 0 true (.array (.object "VariantKit$Variant")) := ⟨_, _, _, _, cf2, by decide, rfl, rfl, Or.inr ⟨"VariantKit", (mt1 110 rfl)⟩⟩
theorem lv5_188 : LV RX5 188 uX4_copy 1 4 := ⟨⟨(mt2 195 rfl), (mt1 4 rfl), by decide +kernel, by decide +kernel, (mt2 168 rfl)⟩, (mt2 166 rfl), (mt2 167 rfl), by decide, _, _, rfl⟩
theorem lv5_192 : LV RX5 192 uX4_trim 1 4 := ⟨⟨(mt2 196 rfl), (mt1 4 rfl), by decide +kernel, by decide +kernel, (mt2 199 rfl)⟩, (mt2 197 rfl), (mt2 198 rfl), by decide, _, _, rfl⟩
theorem lv4_107 : LV RX4 107 uX4_appendAllele 2 4 := ⟨⟨(mt3 9 rfl), (mt1 4 rfl), by decide +kernel, by decide +kernel, (mt2 79 rfl)⟩, (mt2 77 rfl), (mt2 78 rfl), by decide, _, _, rfl⟩
theorem wm5_283 : Cond.methodLink RX5 283 Lib.Math.min.name ∈ lw_tbl := (mt3 13 rfl)
theorem wm5_288 : Cond.methodLink RX5 288 Lib.Math.max.name ∈ lw_tbl := (mt3 14 rfl)
theorem ln4_104 : LN RX4 104 uX5_pairNumber 2 := ⟨"VariantKit", (mt3 10 rfl), (mt1 1 rfl), by decide +kernel, by decide +kernel, (mt3 12 rfl), (mt3 11 rfl)⟩
theorem lv4_97 : LV RX4 97 uX4_clear 0 4 := ⟨⟨(mt3 4 rfl), (mt1 4 rfl), by decide +kernel, by decide +kernel, (mt2 67 rfl)⟩, (mt2 65 rfl), (mt2 66 rfl), by decide, _, _, rfl⟩
theorem lv4_100 : LV RX4 100 uX4_appendAlleleOf 2 4 := ⟨⟨(mt3 5 rfl), (mt1 4 rfl), by decide +kernel, by decide +kernel, (mt3 8 rfl)⟩, (mt3 6 rfl), (mt3 7 rfl), by decide, _, _, rfl⟩
theorem lv5_200 : LV RX5 200 uX2_open 1 2 := ⟨⟨(mt2 239 rfl), (mt1 3 rfl), by decide +kernel, by decide +kernel, (mt2 164 rfl)⟩, (mt2 162 rfl), (mt2 163 rfl), by decide, _, _, rfl⟩
theorem lv5_204 : LV RX5 204 uX4_becomePart 2 4 := ⟨⟨(mt3 0 rfl), (mt1 4 rfl), by decide +kernel, by decide +kernel, (mt3 3 rfl)⟩, (mt3 1 rfl), (mt3 2 rfl), by decide, _, _, rfl⟩
theorem fl1_24 : FL RX1 24 1 3 true (.array (.int)) := ⟨_, _, _, _, cf1, by decide, rfl, rfl, Or.inl (mt1 132 rfl)⟩
theorem fl1_18 : FL RX1 18 1 1 true (.object "VariantKit$Variant") := ⟨_, _, _, _, cf1, by decide, rfl, rfl, Or.inl (mt1 129 rfl)⟩
theorem fl1_61 : FL RX1 61 4 2 false (.int) := ⟨_, _, _, _, cf4, by decide, rfl, rfl, Or.inr ⟨"VariantKit", (mt1 62 rfl)⟩⟩
theorem fl1_21 : FL RX1 21 1 2 true (.object "VariantKit$Variant") := ⟨_, _, _, _, cf1, by decide, rfl, rfl, Or.inl (mt1 130 rfl)⟩
theorem fl1_64 : FL RX1 64 4 3 true (.array (.int)) := ⟨_, _, _, _, cf4, by decide, rfl, rfl, Or.inr ⟨"VariantKit", (mt1 66 rfl)⟩⟩
theorem fl1_67 : FL RX1 67 4 4 true (.array (.int)) := ⟨_, _, _, _, cf4, by decide, rfl, rfl, Or.inr ⟨"VariantKit", (mt1 70 rfl)⟩⟩
theorem lv1_70 : LV RX1 70 uX4_find 2 4 := ⟨⟨(mt3 58 rfl), (mt1 4 rfl), by decide +kernel, by decide +kernel, (mt2 96 rfl)⟩, (mt2 94 rfl), (mt2 95 rfl), by decide, _, _, rfl⟩
theorem lv1_73 : LV RX1 73 uX4_appendAlleleOf 2 4 := ⟨⟨(mt3 59 rfl), (mt1 4 rfl), by decide +kernel, by decide +kernel, (mt3 8 rfl)⟩, (mt3 6 rfl), (mt3 7 rfl), by decide, _, _, rfl⟩
theorem fl1_12 : FL RX1 12 1 0 true (.object "VariantKit$Variant") := ⟨_, _, _, _, cf1, by decide, rfl, rfl, Or.inl (mt1 128 rfl)⟩
theorem fl1_77 : FL RX1 77 4 5 true (.array (.int)) := ⟨_, _, _, _, cf4, by decide, rfl, rfl, Or.inr ⟨"VariantKit", (mt1 74 rfl)⟩⟩
theorem wm1_80 : Cond.methodLink RX1 80 Lib.Math.min.name ∈ lw_tbl := (mt3 65 rfl)
theorem wm1_46 : Cond.methodLink RX1 46 Lib.Math.max.name ∈ lw_tbl := (mt3 60 rfl)
theorem fl1_89 : FL RX1 89 4 7 true (.array (.boolean)) := ⟨_, _, _, _, cf4, by decide, rfl, rfl, Or.inr ⟨"VariantKit", (mt1 83 rfl)⟩⟩
theorem fl1_83 : FL RX1 83 4 6 true (.array (.int)) := ⟨_, _, _, _, cf4, by decide, rfl, rfl, Or.inr ⟨"VariantKit", (mt1 79 rfl)⟩⟩
theorem lv1_86 : LV RX1 86 uX1_unitedAllele 2 1 := ⟨⟨(mt3 70 rfl), (mt1 5 rfl), by decide +kernel, by decide +kernel, (mt3 73 rfl)⟩, (mt3 72 rfl), (mts 11 rfl), by decide, _, _, rfl⟩
theorem ln1_110 : LN RX1 110 uX5_pairNumber 2 := ⟨"VariantKit", (mt3 81 rfl), (mt1 1 rfl), by decide +kernel, by decide +kernel, (mt3 12 rfl), (mt3 11 rfl)⟩
theorem fl1_97 : FL RX1 97 4 8 true (.array (.int)) := ⟨_, _, _, _, cf4, by decide, rfl, rfl, Or.inr ⟨"VariantKit", (mt1 87 rfl)⟩⟩
theorem lv1_100 : LV RX1 100 uX4_pairs 0 4 := ⟨⟨(mt3 79 rfl), (mt1 4 rfl), by decide +kernel, by decide +kernel, (mt2 141 rfl)⟩, (mt2 139 rfl), (mt2 140 rfl), by decide, _, _, rfl⟩
theorem wy1_104 : Cond.methodLink RX1 104 arraycopyName ∈ lw_tbl := (mt3 80 rfl)
theorem lv1_93 : LV RX1 93 uX4_fillLikelihoods 1 4 := ⟨⟨(mt3 78 rfl), (mt1 4 rfl), by decide +kernel, by decide +kernel, (mt2 71 rfl)⟩, (mt2 69 rfl), (mt2 70 rfl), by decide, _, _, rfl⟩
theorem lv1_28 : LV RX1 28 uX4_copy 1 4 := ⟨⟨(mt3 45 rfl), (mt1 4 rfl), by decide +kernel, by decide +kernel, (mt2 168 rfl)⟩, (mt2 166 rfl), (mt2 167 rfl), by decide, _, _, rfl⟩
theorem lv1_32 : LV RX1 32 uX4_lengthenLike 1 4 := ⟨⟨(mt3 46 rfl), (mt1 4 rfl), by decide +kernel, by decide +kernel, (mt3 49 rfl)⟩, (mt3 47 rfl), (mt3 48 rfl), by decide, _, _, rfl⟩
theorem lv1_35 : LV RX1 35 uX4_hasTooLongAllele 0 4 := ⟨⟨(mt3 50 rfl), (mt1 4 rfl), by decide +kernel, by decide +kernel, (mt3 53 rfl)⟩, (mt3 51 rfl), (mt3 52 rfl), by decide, _, _, rfl⟩
theorem lv1_39 : LV RX1 39 uX1_uniteAlleles 0 1 := ⟨⟨(mt3 54 rfl), (mt1 5 rfl), by decide +kernel, by decide +kernel, (mt3 57 rfl)⟩, (mt3 56 rfl), (mts 8 rfl), by decide, _, _, rfl⟩
theorem fl1_42 : FL RX1 42 4 1 false (.int) := ⟨_, _, _, _, cf4, by decide, rfl, rfl, Or.inr ⟨"VariantKit", (mt1 58 rfl)⟩⟩
theorem lv1_52 : LV RX1 52 uX1_uniteDepths 0 1 := ⟨⟨(mt3 61 rfl), (mt1 5 rfl), by decide +kernel, by decide +kernel, (mt3 64 rfl)⟩, (mt3 63 rfl), (mts 9 rfl), by decide, _, _, rfl⟩
theorem lv1_55 : LV RX1 55 uX1_uniteGenotypes 0 1 := ⟨⟨(mt3 66 rfl), (mt1 5 rfl), by decide +kernel, by decide +kernel, (mt3 69 rfl)⟩, (mt3 68 rfl), (mts 10 rfl), by decide, _, _, rfl⟩
theorem lv1_58 : LV RX1 58 uX1_uniteLikelihoods 0 1 := ⟨⟨(mt3 74 rfl), (mt1 5 rfl), by decide +kernel, by decide +kernel, (mt3 77 rfl)⟩, (mt3 76 rfl), (mts 12 rfl), by decide, _, _, rfl⟩
theorem tw_208_212 : TWn 208 212 := ⟨by decide +kernel, by decide +kernel, by decide +kernel, by decide +kernel⟩
theorem fl5_40 : FL RX5 40 5 5 true (.object "VariantKit$Joiner") := ⟨_, _, _, _, cf5, by decide, rfl, rfl, Or.inl (mt1 165 rfl)⟩
theorem lv5_213 : LV RX5 213 uX1_unite 2 1 := ⟨⟨(mt3 41 rfl), (mt1 5 rfl), by decide +kernel, by decide +kernel, (mt3 44 rfl)⟩, (mt3 42 rfl), (mt3 43 rfl), by decide, _, _, rfl⟩
theorem fl5_219 : FL RX5 219 1 2 true (.object "VariantKit$Variant") := ⟨_, _, _, _, cf1, by decide, rfl, rfl, Or.inr ⟨"VariantKit", (mt1 131 rfl)⟩⟩
theorem fl0_9 : FL RX0 9 0 0 true (.array (.int)) := ⟨_, _, _, _, cf0, by decide, rfl, rfl, Or.inl (mt1 148 rfl)⟩
theorem lv0_22 : LV RX0 22 uX0_put 1 0 := ⟨⟨(mt3 99 rfl), (mt1 6 rfl), by decide +kernel, by decide +kernel, (mt3 102 rfl)⟩, (mt3 100 rfl), (mt3 101 rfl), by decide, _, _, rfl⟩
theorem wg0_71 : Cond.fieldLinkNest RX0 71 RX5 "LETTERS" "[I" "VariantKit" ∈ lw_tbl := (mt3 107 rfl)
theorem ln0_74 : LN RX0 74 uX5_baseOf 3 := ⟨"VariantKit", (mt3 109 rfl), (mt1 1 rfl), by decide +kernel, by decide +kernel, (mt2 50 rfl), (mt2 49 rfl)⟩
theorem lv0_31 : LV RX0 31 uX0_putNumber 2 0 := ⟨⟨(mt3 95 rfl), (mt1 6 rfl), by decide +kernel, by decide +kernel, (mt3 98 rfl)⟩, (mt3 97 rfl), (mts 13 rfl), by decide, _, _, rfl⟩
theorem fl0_61 : FL RX0 61 4 6 true (.array (.int)) := ⟨_, _, _, _, cf4, by decide, rfl, rfl, Or.inr ⟨"VariantKit", (mt1 78 rfl)⟩⟩
theorem fl0_64 : FL RX0 64 4 8 true (.array (.int)) := ⟨_, _, _, _, cf4, by decide, rfl, rfl, Or.inr ⟨"VariantKit", (mt1 86 rfl)⟩⟩
theorem lv0_67 : LV RX0 67 uX4_pairs 0 4 := ⟨⟨(mt3 114 rfl), (mt1 4 rfl), by decide +kernel, by decide +kernel, (mt2 141 rfl)⟩, (mt2 139 rfl), (mt2 140 rfl), by decide, _, _, rfl⟩
theorem lv0_53 : LV RX0 53 uX0_putNumbers 3 0 := ⟨⟨(mt3 110 rfl), (mt1 6 rfl), by decide +kernel, by decide +kernel, (mt3 113 rfl)⟩, (mt3 112 rfl), (mts 15 rfl), by decide, _, _, rfl⟩
theorem fl0_57 : FL RX0 57 4 7 true (.array (.boolean)) := ⟨_, _, _, _, cf4, by decide, rfl, rfl, Or.inr ⟨"VariantKit", (mt1 82 rfl)⟩⟩
theorem fl0_38 : FL RX0 38 4 2 false (.int) := ⟨_, _, _, _, cf4, by decide, rfl, rfl, Or.inr ⟨"VariantKit", (mt1 63 rfl)⟩⟩
theorem fl0_50 : FL RX0 50 4 5 true (.array (.int)) := ⟨_, _, _, _, cf4, by decide, rfl, rfl, Or.inr ⟨"VariantKit", (mt1 75 rfl)⟩⟩
theorem fl0_41 : FL RX0 41 4 3 true (.array (.int)) := ⟨_, _, _, _, cf4, by decide, rfl, rfl, Or.inr ⟨"VariantKit", (mt1 67 rfl)⟩⟩
theorem fl0_44 : FL RX0 44 4 4 true (.array (.int)) := ⟨_, _, _, _, cf4, by decide, rfl, rfl, Or.inr ⟨"VariantKit", (mt1 71 rfl)⟩⟩
theorem lv0_47 : LV RX0 47 uX0_putAllele 2 0 := ⟨⟨(mt3 103 rfl), (mt1 6 rfl), by decide +kernel, by decide +kernel, (mt3 106 rfl)⟩, (mt3 105 rfl), (mts 14 rfl), by decide, _, _, rfl⟩
theorem fl0_26 : FL RX0 26 4 0 false (.int) := ⟨_, _, _, _, cf4, by decide, rfl, rfl, Or.inr ⟨"VariantKit", (mt1 56 rfl)⟩⟩
theorem fl0_35 : FL RX0 35 4 1 false (.int) := ⟨_, _, _, _, cf4, by decide, rfl, rfl, Or.inr ⟨"VariantKit", (mt1 59 rfl)⟩⟩
theorem fl5_51 : FL RX5 51 5 7 true (.object "VariantKit$ByteRow") := ⟨_, _, _, _, cf5, by decide, rfl, rfl, Or.inl (mt1 167 rfl)⟩
theorem lv5_222 : LV RX5 222 uX0_putVariant 1 0 := ⟨⟨(mt3 91 rfl), (mt1 6 rfl), by decide +kernel, by decide +kernel, (mt3 94 rfl)⟩, (mt3 92 rfl), (mt3 93 rfl), by decide, _, _, rfl⟩
theorem tw_228_232 : TW 228 232 "java/lang/IndexOutOfBoundsException" := ⟨by decide +kernel, (mt3 115 rfl), (mt1 16 rfl), by decide +kernel⟩
theorem fl5_225 : FL RX5 225 0 1 false (.int) := ⟨_, _, _, _, cf0, by decide, rfl, rfl, Or.inr ⟨"VariantKit", (mt1 151 rfl)⟩⟩
theorem fl5_233 : FL RX5 233 0 0 true (.array (.int)) := ⟨_, _, _, _, cf0, by decide, rfl, rfl, Or.inr ⟨"VariantKit", (mt1 149 rfl)⟩⟩
theorem fl5_47 : FL RX5 47 5 6 true (.object "VariantKit$ByteRow") := ⟨_, _, _, _, cf5, by decide, rfl, rfl, Or.inl (mt1 166 rfl)⟩
theorem lv5_238 : LV RX5 238 uX0_put 1 0 := ⟨⟨(mt3 139 rfl), (mt1 6 rfl), by decide +kernel, by decide +kernel, (mt3 102 rfl)⟩, (mt3 100 rfl), (mt3 101 rfl), by decide, _, _, rfl⟩
theorem lv0_78 : LV RX0 78 uX0_take 0 0 := ⟨⟨(mt3 160 rfl), (mt1 6 rfl), by decide +kernel, by decide +kernel, (mt3 163 rfl)⟩, (mt3 162 rfl), (mts 18 rfl), by decide, _, _, rfl⟩
theorem lv0_110 : LV RX0 110 uX3_covers 2 3 := ⟨⟨(mt3 174 rfl), (mt1 2 rfl), by decide +kernel, by decide +kernel, (mt2 62 rfl)⟩, (mt2 60 rfl), (mt2 61 rfl), by decide, _, _, rfl⟩
theorem lv0_116 : LV RX0 116 uX3_packed 2 3 := ⟨⟨(mt3 175 rfl), (mt1 2 rfl), by decide +kernel, by decide +kernel, (mt2 75 rfl)⟩, (mt2 73 rfl), (mt2 74 rfl), by decide, _, _, rfl⟩
theorem lv0_100 : LV RX0 100 uX0_takeBases 1 0 := ⟨⟨(mt3 168 rfl), (mt1 6 rfl), by decide +kernel, by decide +kernel, (mt3 171 rfl)⟩, (mt3 170 rfl), (mts 20 rfl), by decide, _, _, rfl⟩
theorem lv0_103 : LV RX0 103 uX4_find 2 4 := ⟨⟨(mt3 172 rfl), (mt1 4 rfl), by decide +kernel, by decide +kernel, (mt2 96 rfl)⟩, (mt2 94 rfl), (mt2 95 rfl), by decide, _, _, rfl⟩
theorem lv0_107 : LV RX0 107 uX4_appendAllele 2 4 := ⟨⟨(mt3 173 rfl), (mt1 4 rfl), by decide +kernel, by decide +kernel, (mt2 79 rfl)⟩, (mt2 77 rfl), (mt2 78 rfl), by decide, _, _, rfl⟩
theorem lv0_84 : LV RX0 84 uX0_takeNumber 1 0 := ⟨⟨(mt3 156 rfl), (mt1 6 rfl), by decide +kernel, by decide +kernel, (mt3 159 rfl)⟩, (mt3 158 rfl), (mts 17 rfl), by decide, _, _, rfl⟩
theorem lv0_118 : LV RX0 118 uX4_allowsInGenotype 1 4 := ⟨⟨(mt3 184 rfl), (mt1 4 rfl), by decide +kernel, by decide +kernel, (mt2 128 rfl)⟩, (mt2 126 rfl), (mt2 127 rfl), by decide, _, _, rfl⟩
theorem lv0_96 : LV RX0 96 uX0_takeGenotype 2 0 := ⟨⟨(mt3 180 rfl), (mt1 6 rfl), by decide +kernel, by decide +kernel, (mt3 183 rfl)⟩, (mt3 182 rfl), (mts 22 rfl), by decide, _, _, rfl⟩
theorem lv0_92 : LV RX0 92 uX0_takeNumbers 4 0 := ⟨⟨(mt3 176 rfl), (mt1 6 rfl), by decide +kernel, by decide +kernel, (mt3 179 rfl)⟩, (mt3 178 rfl), (mts 21 rfl), by decide, _, _, rfl⟩
theorem lv0_81 : LV RX0 81 uX4_clear 0 4 := ⟨⟨(mt3 155 rfl), (mt1 4 rfl), by decide +kernel, by decide +kernel, (mt2 67 rfl)⟩, (mt2 65 rfl), (mt2 66 rfl), by decide, _, _, rfl⟩
theorem lv0_88 : LV RX0 88 uX0_takeAlleles 2 0 := ⟨⟨(mt3 164 rfl), (mt1 6 rfl), by decide +kernel, by decide +kernel, (mt3 167 rfl)⟩, (mt3 166 rfl), (mts 19 rfl), by decide, _, _, rfl⟩
theorem lv5_275 : LV RX5 275 uX0_takeVariant 2 0 := ⟨⟨(mt3 151 rfl), (mt1 6 rfl), by decide +kernel, by decide +kernel, (mt3 154 rfl)⟩, (mt3 152 rfl), (mt3 153 rfl), by decide, _, _, rfl⟩
theorem lv5_279 : LV RX5 279 uX0_isSame 1 0 := ⟨⟨(mt3 185 rfl), (mt1 6 rfl), by decide +kernel, by decide +kernel, (mt3 188 rfl)⟩, (mt3 186 rfl), (mt3 187 rfl), by decide, _, _, rfl⟩
theorem lv5_241 : LV RX5 241 uX5_takeTyped 0 5 := ⟨⟨(mt3 147 rfl), (mt1 1 rfl), by decide +kernel, by decide +kernel, (mt3 150 rfl)⟩, (mt3 149 rfl), (mts 16 rfl), by decide, _, _, rfl⟩
theorem lv4_55 : LV RX4 55 uX4_lastPlace 0 4 := ⟨⟨(mt3 201 rfl), (mt1 4 rfl), by decide +kernel, by decide +kernel, (mt3 204 rfl)⟩, (mt3 202 rfl), (mt3 203 rfl), by decide, _, _, rfl⟩
theorem fl5_246 : FL RX5 246 4 4 true (.array (.int)) := ⟨_, _, _, _, cf4, by decide, rfl, rfl, Or.inr ⟨"VariantKit", (mt1 72 rfl)⟩⟩
theorem lv5_249 : LV RX5 249 uX4_bin 0 4 := ⟨⟨(mt3 197 rfl), (mt1 4 rfl), by decide +kernel, by decide +kernel, (mt3 200 rfl)⟩, (mt3 198 rfl), (mt3 199 rfl), by decide, _, _, rfl⟩
theorem fl5_256 : FL RX5 256 4 3 true (.array (.int)) := ⟨_, _, _, _, cf4, by decide, rfl, rfl, Or.inr ⟨"VariantKit", (mt1 68 rfl)⟩⟩
theorem ls5_258 : LSt RX5 258 uX5_baseOf 3 := ⟨⟨(mt3 214 rfl), (mt1 1 rfl), by decide +kernel, by decide +kernel, (mt2 50 rfl)⟩, (mt2 49 rfl)⟩
theorem lv5_265 : LV RX5 265 uX4_spansOneOf 2 4 := ⟨⟨(mt3 226 rfl), (mt1 4 rfl), by decide +kernel, by decide +kernel, (mt3 229 rfl)⟩, (mt3 227 rfl), (mt3 228 rfl), by decide, _, _, rfl⟩
theorem ls5_262 : LSt RX5 262 uX5_requireRegion 2 := ⟨⟨(mt3 222 rfl), (mt1 1 rfl), by decide +kernel, by decide +kernel, (mt3 224 rfl)⟩, (mt3 223 rfl)⟩
theorem wf5_268 : Cond.constantFloat RX5 268 (1040187392 : UInt32) ∈ lw_tbl := (mt3 237 rfl)
theorem wo6_1 : Cond.methodLink RX6 1 objectInit ∈ lw_tbl := (mt4 4 rfl)
theorem ff6_7 : FF RX6 7 6 1 (.array (.int)) := ⟨_, _, _, _, cf6, by decide, rfl, rfl, rfl, (mt4 6 rfl)⟩
theorem ff6_13 : FF RX6 13 6 5 (.array (.int)) := ⟨_, _, _, _, cf6, by decide, rfl, rfl, rfl, (mt4 10 rfl)⟩
theorem ff6_16 : FF RX6 16 6 6 (.array (.int)) := ⟨_, _, _, _, cf6, by decide, rfl, rfl, rfl, (mt4 11 rfl)⟩
theorem ff6_19 : FF RX6 19 6 8 (.array (.int)) := ⟨_, _, _, _, cf6, by decide, rfl, rfl, rfl, (mt4 13 rfl)⟩
theorem ff6_22 : FF RX6 22 6 10 (.array (.int)) := ⟨_, _, _, _, cf6, by decide, rfl, rfl, rfl, (mt4 15 rfl)⟩
theorem fl6_25 : FL RX6 25 6 0 false (.int) := ⟨_, _, _, _, cf6, by decide, rfl, rfl, Or.inl (mt4 5 rfl)⟩
theorem fl6_13 : FL RX6 13 6 5 true (.array (.int)) := ⟨_, _, _, _, cf6, by decide, rfl, rfl, Or.inl (mt4 10 rfl)⟩
theorem lv6_29 : LV RX6 29 uX6_put 3 6 := ⟨⟨(mt4 60 rfl), (mt1 7 rfl), by decide +kernel, by decide +kernel, (mt4 63 rfl)⟩, (mt4 62 rfl), (mts 25 rfl), by decide, _, _, rfl⟩
theorem lv6_33 : LV RX6 33 uX6_get 2 6 := ⟨⟨(mt4 72 rfl), (mt1 7 rfl), by decide +kernel, by decide +kernel, (mt4 75 rfl)⟩, (mt4 74 rfl), (mts 28 rfl), by decide, _, _, rfl⟩
theorem fl6_7 : FL RX6 7 6 1 true (.array (.int)) := ⟨_, _, _, _, cf6, by decide, rfl, rfl, Or.inl (mt4 6 rfl)⟩
theorem fl6_37 : FL RX6 37 6 2 false (.int) := ⟨_, _, _, _, cf6, by decide, rfl, rfl, Or.inl (mt4 7 rfl)⟩
theorem wl6_51 : Cond.constantLong RX6 51 (3 : Int64) ∈ lw_tbl := (mt4 51 rfl)
theorem lv6_47 : LV RX6 47 uX6_throwing 2 6 := ⟨⟨(mt4 47 rfl), (mt1 7 rfl), by decide +kernel, by decide +kernel, (mt4 50 rfl)⟩, (mt4 49 rfl), (mts 23 rfl), by decide, _, _, rfl⟩
theorem fl6_40 : FL RX6 40 6 3 false (.boolean) := ⟨_, _, _, _, cf6, by decide, rfl, rfl, Or.inl (mt4 8 rfl)⟩
theorem fl6_44 : FL RX6 44 6 4 false (.int) := ⟨_, _, _, _, cf6, by decide, rfl, rfl, Or.inl (mt4 9 rfl)⟩
theorem lv6_53 : LV RX6 53 uX6_empty 2 6 := ⟨⟨(mt4 56 rfl), (mt1 7 rfl), by decide +kernel, by decide +kernel, (mt4 59 rfl)⟩, (mt4 58 rfl), (mts 24 rfl), by decide, _, _, rfl⟩
theorem lv6_57 : LV RX6 57 uX6_referenceFrom 2 6 := ⟨⟨(mt4 64 rfl), (mt1 7 rfl), by decide +kernel, by decide +kernel, (mt4 67 rfl)⟩, (mt4 66 rfl), (mts 26 rfl), by decide, _, _, rfl⟩
theorem lv6_60 : LV RX6 60 uX6_addAllele 3 6 := ⟨⟨(mt4 68 rfl), (mt1 7 rfl), by decide +kernel, by decide +kernel, (mt4 71 rfl)⟩, (mt4 70 rfl), (mts 27 rfl), by decide, _, _, rfl⟩
theorem lv6_63 : LV RX6 63 uX6_findAllele 3 6 := ⟨⟨(mt4 80 rfl), (mt1 7 rfl), by decide +kernel, by decide +kernel, (mt4 83 rfl)⟩, (mt4 82 rfl), (mts 29 rfl), by decide, _, _, rfl⟩
theorem ls6_67 : LSt RX6 67 uX6_out 2 := ⟨⟨(mt4 88 rfl), (mt1 7 rfl), by decide +kernel, by decide +kernel, (mt4 90 rfl)⟩, (mt4 89 rfl)⟩
theorem ls6_70 : LSt RX6 70 uX6_pairs 1 := ⟨⟨(mt4 99 rfl), (mt1 7 rfl), by decide +kernel, by decide +kernel, (mt4 101 rfl)⟩, (mt4 100 rfl)⟩
theorem lv6_81 : LV RX6 81 uX6_copy 2 6 := ⟨⟨(mt4 114 rfl), (mt1 7 rfl), by decide +kernel, by decide +kernel, (mt4 117 rfl)⟩, (mt4 116 rfl), (mts 32 rfl), by decide, _, _, rfl⟩
theorem lv6_77 : LV RX6 77 uX6_open 1 6 := ⟨⟨(mt4 110 rfl), (mt1 7 rfl), by decide +kernel, by decide +kernel, (mt4 113 rfl)⟩, (mt4 112 rfl), (mts 31 rfl), by decide, _, _, rfl⟩
theorem lv6_74 : LV RX6 74 uX6_enter 1 6 := ⟨⟨(mt4 106 rfl), (mt1 7 rfl), by decide +kernel, by decide +kernel, (mt4 109 rfl)⟩, (mt4 108 rfl), (mts 30 rfl), by decide, _, _, rfl⟩
theorem lv6_84 : LV RX6 84 uX6_close 1 6 := ⟨⟨(mt4 122 rfl), (mt1 7 rfl), by decide +kernel, by decide +kernel, (mt4 125 rfl)⟩, (mt4 124 rfl), (mts 33 rfl), by decide, _, _, rfl⟩
theorem lv6_87 : LV RX6 87 uX6_edge 3 6 := ⟨⟨(mt4 142 rfl), (mt1 7 rfl), by decide +kernel, by decide +kernel, (mt4 145 rfl)⟩, (mt4 144 rfl), (mts 37 rfl), by decide, _, _, rfl⟩
theorem lv6_94 : LV RX6 94 uX6_same 2 6 := ⟨⟨(mt4 138 rfl), (mt1 7 rfl), by decide +kernel, by decide +kernel, (mt4 141 rfl)⟩, (mt4 140 rfl), (mts 36 rfl), by decide, _, _, rfl⟩
theorem lv6_91 : LV RX6 91 uX6_shortest 1 6 := ⟨⟨(mt4 134 rfl), (mt1 7 rfl), by decide +kernel, by decide +kernel, (mt4 137 rfl)⟩, (mt4 136 rfl), (mts 35 rfl), by decide, _, _, rfl⟩
theorem lv6_98 : LV RX6 98 uX6_step 1 6 := ⟨⟨(mt4 130 rfl), (mt1 7 rfl), by decide +kernel, by decide +kernel, (mt4 133 rfl)⟩, (mt4 132 rfl), (mts 34 rfl), by decide, _, _, rfl⟩
theorem ls6_102 : LSt RX6 102 uX6_pair 2 := ⟨⟨(mt4 154 rfl), (mt1 7 rfl), by decide +kernel, by decide +kernel, (mt4 156 rfl)⟩, (mt4 155 rfl)⟩
theorem lv6_105 : LV RX6 105 uX6_part 2 6 := ⟨⟨(mt4 150 rfl), (mt1 7 rfl), by decide +kernel, by decide +kernel, (mt4 153 rfl)⟩, (mt4 152 rfl), (mts 38 rfl), by decide, _, _, rfl⟩
theorem fl6_22 : FL RX6 22 6 10 true (.array (.int)) := ⟨_, _, _, _, cf6, by decide, rfl, rfl, Or.inl (mt4 15 rfl)⟩
theorem lv6_108 : LV RX6 108 uX6_back 3 6 := ⟨⟨(mt4 165 rfl), (mt1 7 rfl), by decide +kernel, by decide +kernel, (mt4 168 rfl)⟩, (mt4 167 rfl), (mts 40 rfl), by decide, _, _, rfl⟩
theorem lv6_111 : LV RX6 111 uX6_likely 5 6 := ⟨⟨(mt4 173 rfl), (mt1 7 rfl), by decide +kernel, by decide +kernel, (mt4 176 rfl)⟩, (mt4 175 rfl), (mts 42 rfl), by decide, _, _, rfl⟩
theorem lv6_118 : LV RX6 118 uX6_joinSample 3 6 := ⟨⟨(mt4 169 rfl), (mt1 7 rfl), by decide +kernel, by decide +kernel, (mt4 172 rfl)⟩, (mt4 171 rfl), (mts 41 rfl), by decide, _, _, rfl⟩
theorem lv6_115 : LV RX6 115 uX6_gather 2 6 := ⟨⟨(mt4 161 rfl), (mt1 7 rfl), by decide +kernel, by decide +kernel, (mt4 164 rfl)⟩, (mt4 163 rfl), (mts 39 rfl), by decide, _, _, rfl⟩
theorem fl6_16 : FL RX6 16 6 6 true (.array (.int)) := ⟨_, _, _, _, cf6, by decide, rfl, rfl, Or.inl (mt4 11 rfl)⟩
theorem fl6_121 : FL RX6 121 6 7 false (.int) := ⟨_, _, _, _, cf6, by decide, rfl, rfl, Or.inl (mt4 12 rfl)⟩
theorem lv6_124 : LV RX6 124 uX6_write 1 6 := ⟨⟨(mt4 185 rfl), (mt1 7 rfl), by decide +kernel, by decide +kernel, (mt4 188 rfl)⟩, (mt4 187 rfl), (mts 44 rfl), by decide, _, _, rfl⟩
theorem lv6_130 : LV RX6 130 uX6_writeRow 3 6 := ⟨⟨(mt4 192 rfl), (mt1 7 rfl), by decide +kernel, by decide +kernel, (mt4 195 rfl)⟩, (mt4 194 rfl), (mts 45 rfl), by decide, _, _, rfl⟩
theorem ls6_127 : LSt RX6 127 uX6_letter 1 := ⟨⟨(mt4 189 rfl), (mt1 7 rfl), by decide +kernel, by decide +kernel, (mt4 191 rfl)⟩, (mt4 190 rfl)⟩
theorem lv6_133 : LV RX6 133 uX6_writeOut 1 6 := ⟨⟨(mt4 181 rfl), (mt1 7 rfl), by decide +kernel, by decide +kernel, (mt4 184 rfl)⟩, (mt4 183 rfl), (mts 43 rfl), by decide, _, _, rfl⟩
theorem fl6_19 : FL RX6 19 6 8 true (.array (.int)) := ⟨_, _, _, _, cf6, by decide, rfl, rfl, Or.inl (mt4 13 rfl)⟩
theorem fl6_136 : FL RX6 136 6 9 false (.int) := ⟨_, _, _, _, cf6, by decide, rfl, rfl, Or.inl (mt4 14 rfl)⟩
theorem wl6_139 : Cond.constantLong RX6 139 (255 : Int64) ∈ lw_tbl := (mt4 200 rfl)
theorem lv6_141 : LV RX6 141 uX6_byteAt 1 6 := ⟨⟨(mt4 213 rfl), (mt1 7 rfl), by decide +kernel, by decide +kernel, (mt4 216 rfl)⟩, (mt4 215 rfl), (mts 48 rfl), by decide, _, _, rfl⟩
theorem lv6_144 : LV RX6 144 uX6_twoAt 1 6 := ⟨⟨(mt4 209 rfl), (mt1 7 rfl), by decide +kernel, by decide +kernel, (mt4 212 rfl)⟩, (mt4 211 rfl), (mts 47 rfl), by decide, _, _, rfl⟩
theorem lv6_150 : LV RX6 150 uX6_readRow 3 6 := ⟨⟨(mt4 220 rfl), (mt1 7 rfl), by decide +kernel, by decide +kernel, (mt4 223 rfl)⟩, (mt4 222 rfl), (mts 49 rfl), by decide, _, _, rfl⟩
theorem lv6_153 : LV RX6 153 uX6_inRange 1 6 := ⟨⟨(mt4 224 rfl), (mt1 7 rfl), by decide +kernel, by decide +kernel, (mt4 227 rfl)⟩, (mt4 226 rfl), (mts 50 rfl), by decide, _, _, rfl⟩
theorem ls6_147 : LSt RX6 147 uX6_baseOf 1 := ⟨⟨(mt4 217 rfl), (mt1 7 rfl), by decide +kernel, by decide +kernel, (mt4 219 rfl)⟩, (mt4 218 rfl)⟩
theorem lv6_156 : LV RX6 156 uX6_taken 0 6 := ⟨⟨(mt4 205 rfl), (mt1 7 rfl), by decide +kernel, by decide +kernel, (mt4 208 rfl)⟩, (mt4 207 rfl), (mts 46 rfl), by decide, _, _, rfl⟩
theorem lv6_160 : LV RX6 160 uX6_binOf 1 6 := ⟨⟨(mt4 236 rfl), (mt1 7 rfl), by decide +kernel, by decide +kernel, (mt4 239 rfl)⟩, (mt4 238 rfl), (mts 51 rfl), by decide, _, _, rfl⟩
theorem lv6_166 : LV RX6 166 uX6_spans 3 6 := ⟨⟨(mt5 12 rfl), (mt1 7 rfl), by decide +kernel, by decide +kernel, (mt5 15 rfl)⟩, (mt5 14 rfl), (mts 53 rfl), by decide, _, _, rfl⟩
theorem lv6_163 : LV RX6 163 uX6_isBad 2 6 := ⟨⟨(mt5 8 rfl), (mt1 7 rfl), by decide +kernel, by decide +kernel, (mt5 11 rfl)⟩, (mt5 10 rfl), (mts 52 rfl), by decide, _, _, rfl⟩
theorem wf6_170 : Cond.constantFloat RX6 170 (1040187392 : UInt32) ∈ lw_tbl := (mt5 20 rfl)
theorem lvL_7 : LV RL 7 uX5_reference 2 5 := ⟨⟨(mt1 194 rfl), (mt1 1 rfl), by decide +kernel, by decide +kernel, (mt1 197 rfl)⟩, (mt1 195 rfl), (mt1 196 rfl), by decide, _, _, rfl⟩
theorem wcL_13 : Cond.classLink RL 13 "java/lang/IllegalArgumentException" ∈ lw_tbl := (mt1 192 rfl)
theorem wct_IllegalArgumentException : Cond.castable "java/lang/IllegalArgumentException" "java/lang/IllegalArgumentException" ∈ lw_tbl := (mt1 200 rfl)
theorem wcL_15 : Cond.classLink RL 15 "java/lang/IllegalStateException" ∈ lw_tbl := (mt1 193 rfl)
theorem wct_IllegalStateException : Cond.castable "java/lang/IllegalStateException" "java/lang/IllegalStateException" ∈ lw_tbl := (mt2 29 rfl)
theorem lvL_17 : LV RL 17 uX5_draft 2 5 := ⟨⟨(mt2 54 rfl), (mt1 1 rfl), by decide +kernel, by decide +kernel, (mt2 57 rfl)⟩, (mt2 55 rfl), (mt2 56 rfl), by decide, _, _, rfl⟩
theorem lvL_21 : LV RL 21 uX5_allele 2 5 := ⟨⟨(mt2 83 rfl), (mt1 1 rfl), by decide +kernel, by decide +kernel, (mt2 86 rfl)⟩, (mt2 84 rfl), (mt2 85 rfl), by decide, _, _, rfl⟩
theorem lvL_24 : LV RL 24 uX5_depth 3 5 := ⟨⟨(mt2 101 rfl), (mt1 1 rfl), by decide +kernel, by decide +kernel, (mt2 104 rfl)⟩, (mt2 102 rfl), (mt2 103 rfl), by decide, _, _, rfl⟩
theorem lvL_28 : LV RL 28 uX5_genotype 4 5 := ⟨⟨(mt2 117 rfl), (mt1 1 rfl), by decide +kernel, by decide +kernel, (mt2 120 rfl)⟩, (mt2 118 rfl), (mt2 119 rfl), by decide, _, _, rfl⟩
theorem lvL_32 : LV RL 32 uX5_likelihood 3 5 := ⟨⟨(mt2 134 rfl), (mt1 1 rfl), by decide +kernel, by decide +kernel, (mt2 137 rfl)⟩, (mt2 135 rfl), (mt2 136 rfl), by decide, _, _, rfl⟩
theorem lvL_35 : LV RL 35 uX5_add 0 5 := ⟨⟨(mt2 147 rfl), (mt1 1 rfl), by decide +kernel, by decide +kernel, (mt2 150 rfl)⟩, (mt2 148 rfl), (mt2 149 rfl), by decide, _, _, rfl⟩
theorem lvL_39 : LV RL 39 uX5_remove 1 5 := ⟨⟨(mt2 175 rfl), (mt1 1 rfl), by decide +kernel, by decide +kernel, (mt2 178 rfl)⟩, (mt2 176 rfl), (mt2 177 rfl), by decide, _, _, rfl⟩
theorem lvL_43 : LV RL 43 uX5_normalise 1 5 := ⟨⟨(mt2 191 rfl), (mt1 1 rfl), by decide +kernel, by decide +kernel, (mt2 194 rfl)⟩, (mt2 192 rfl), (mt2 193 rfl), by decide, _, _, rfl⟩
theorem lvL_47 : LV RL 47 uX5_split 1 5 := ⟨⟨(mt2 233 rfl), (mt1 1 rfl), by decide +kernel, by decide +kernel, (mt2 236 rfl)⟩, (mt2 234 rfl), (mt2 235 rfl), by decide, _, _, rfl⟩
theorem lvL_50 : LV RL 50 uX5_join 1 5 := ⟨⟨(mt3 21 rfl), (mt1 1 rfl), by decide +kernel, by decide +kernel, (mt3 24 rfl)⟩, (mt3 22 rfl), (mt3 23 rfl), by decide, _, _, rfl⟩
theorem wcL_53 : Cond.classLink RL 53 "java/util/NoSuchElementException" ∈ lw_tbl := (mt3 20 rfl)
theorem wct_NoSuchElementException : Cond.castable "java/util/NoSuchElementException" "java/util/NoSuchElementException" ∈ lw_tbl := (mt3 27 rfl)
theorem lvL_55 : LV RL 55 uX5_written 2 5 := ⟨⟨(mt3 87 rfl), (mt1 1 rfl), by decide +kernel, by decide +kernel, (mt3 90 rfl)⟩, (mt3 88 rfl), (mt3 89 rfl), by decide, _, _, rfl⟩
theorem wcL_59 : Cond.classLink RL 59 "java/lang/IndexOutOfBoundsException" ∈ lw_tbl := (mt3 86 rfl)
theorem wct_IndexOutOfBoundsException : Cond.castable "java/lang/IndexOutOfBoundsException" "java/lang/IndexOutOfBoundsException" ∈ lw_tbl := (mt3 117 rfl)
theorem lvL_61 : LV RL 61 uX5_type 2 5 := ⟨⟨(mt3 134 rfl), (mt1 1 rfl), by decide +kernel, by decide +kernel, (mt3 137 rfl)⟩, (mt3 135 rfl), (mt3 136 rfl), by decide, _, _, rfl⟩
theorem lvL_65 : LV RL 65 uX5_read 0 5 := ⟨⟨(mt3 143 rfl), (mt1 1 rfl), by decide +kernel, by decide +kernel, (mt3 146 rfl)⟩, (mt3 144 rfl), (mt3 145 rfl), by decide, _, _, rfl⟩
theorem lvL_68 : LV RL 68 uX5_about 2 5 := ⟨⟨(mt3 193 rfl), (mt1 1 rfl), by decide +kernel, by decide +kernel, (mt3 196 rfl)⟩, (mt3 194 rfl), (mt3 195 rfl), by decide, _, _, rfl⟩
theorem lvL_71 : LV RL 71 uX5_base 3 5 := ⟨⟨(mt3 209 rfl), (mt1 1 rfl), by decide +kernel, by decide +kernel, (mt3 212 rfl)⟩, (mt3 210 rfl), (mt3 211 rfl), by decide, _, _, rfl⟩
theorem lvL_75 : LV RL 75 uX5_found 2 5 := ⟨⟨(mt3 218 rfl), (mt1 1 rfl), by decide +kernel, by decide +kernel, (mt3 221 rfl)⟩, (mt3 219 rfl), (mt3 220 rfl), by decide, _, _, rfl⟩
theorem lvL_78 : LV RL 78 uX5_mean 2 5 := ⟨⟨(mt3 233 rfl), (mt1 1 rfl), by decide +kernel, by decide +kernel, (mt3 236 rfl)⟩, (mt3 234 rfl), (mt3 235 rfl), by decide, _, _, rfl⟩
