/-! more words -/

