/**
 * REFUSALS: "NO .. as told; of several BAD, NO, FULL in this order, if nothing else is told; they change nothing", and
 * FAILURES: "what FAILS changes nothing". A test for each NO and each FAILURE of the document; its comment has the words.
 */
final class RefusalsTest {
    private static final Due DUE = new Due("RefusalsTest");
    private static final int BAD = RightsHouse.BAD, NO = RightsHouse.NO, NONE = RightsHouse.NONE;
    private static final int LAST = 1000000000;

    public static void main(String[] args) {
        tickBeyondTheLast();
        putOfARing();
        backOfWhatIsBack();
        failedFeature();
        failedItem();
        failedItemOf();
        failedCopy();
        moveIntoItself();
        dropOfWhatIsNotEmpty();
        madeOfNone();
        comparedOfNone();
        giveByGiver();
        giveAgainstALaw();
        takeByGiver();
        switchOnOfNoMember();
        switchOnAgainstALaw();
        nextOfWhatIsDone();
        performOfWhatIsDone();
        lendOfWhatDoesNotStand();
        endLendOfWhatIsEnded();
        endLendByAnother();
        useOfWhatDoesNotStand();
        statementBeyondTheEnd();
        sumThatTells();
        shareThatTells();
        halfOfAWrongTape();
        joinedOfAWrongTape();
        DUE.end();
    }

    private static Twins furnished(String name) {
        return Twins.furnished(DUE, name);
    }

    /** 4: "NO: beyond 1000000000." It takes more calls than an object is promised for. */
    private static void tickBeyondTheLast() {
        Twins x = new Twins(DUE, "tick");
        for (int i = 0; i < 999; i++) {
            x.both(h -> h.tick(1000000));
        }
        x.is("up to one ahead of the last", h -> h.tick(999999), LAST - 1);
        x.refused("two", h -> h.tick(2), NO);
        x.refused("as many as can be told", h -> h.tick(1000000), NO);
        x.refused("BAD ahead of NO", h -> h.tick(1000001), BAD);
        x.is("one", h -> h.tick(1), LAST);
        x.refused("one more", h -> h.tick(1), NO);
        x.is("none", h -> h.tick(0), LAST);
        x.both(h -> h.person());
        x.both(h -> h.group());
        x.refused("no moment is above it: give", h -> h.give(0, 0, 0, LAST), BAD);
        x.is("but it is one", h -> h.could(0, 0, LAST, 0), NONE);
        x.alike();
    }

    /** 7: "NO: a ring." 1: "with those not taken back, whatever their moments, a ring of GROUPS". */
    private static void putOfARing() {
        Twins x = furnished("put");
        x.refused("of one", h -> h.put(102, 2, 0, 9), NO);
        x.refused("of two", h -> h.put(101, 0, 2000, 3000), NO);
        x.both(h -> h.put(101, 2, 0, 1));
        x.refused("of three", h -> h.put(102, 0, 0, 9), NO);
        x.refused("of the last two", h -> h.put(102, 1, 0, 9), NO);
        x.refused("BAD ahead of NO: until", h -> h.put(101, 0, 5, 5), BAD);
        x.refused("BAD ahead of NO: from", h -> h.put(101, 0, -1, 5), BAD);
        x.is("the row's number behind them", h -> h.put(100, 2, 0, 9), 3);
        x.is("taken back", h -> h.back(1), 1);
        x.is("not from there any more", h -> h.put(101, 0, 0, 9), 4);
        x.alike();
    }

    /** 8: "NO: it is." */
    private static void backOfWhatIsBack() {
        Twins x = furnished("back");
        x.is("taken back", h -> h.back(1), 1);
        x.both(h -> h.tick(5));
        x.refused("again", h -> h.back(1), NO);
        x.is("KNOWN until then", h -> h.rowOf(1, 5), 10);
        x.is("the other one", h -> h.back(0), 1);
        x.refused("again, too", h -> h.back(0), NO);
        x.alike();
    }

    /** 11: "FAILURE 3." A size below 0; NOTHING has none. */
    private static void failedFeature() {
        Twins x = furnished("feature");
        for (int sort = 1; sort <= 3; sort++) {
            int s = sort;
            x.refused("a size of -1, SORT " + s, h -> h.feature(0, 0, s, -1), -13);
            x.refused("the least size, SORT " + s, h -> h.feature(0, 0, s, Integer.MIN_VALUE), -13);
            x.refused("of a THING, SORT " + s, h -> h.feature(101, 0, s, -1), -13);
        }
        x.refused("BAD ahead of it: SORT", h -> h.feature(0, 0, 4, -1), BAD);
        x.refused("BAD ahead of it: FEATURE", h -> h.feature(0, 8, 1, -1), BAD);
        x.refused("BAD ahead of it: BEARER", h -> h.feature(3, 0, 1, -1), BAD);
        x.is("as it was", h -> h.itemOf(0, 0, 1, 1), 7);
        x.alike();
    }

    /** 12: "FAILURES 1, 2." */
    private static void failedItem() {
        Twins x = furnished("item");
        x.refused("NOTHING is there", h -> h.item(0, 1, 0, 5), -11);
        x.refused("NOTHING is there, ahead of the place", h -> h.item(0, 1, -1, 5), -11);
        x.refused("behind the last one", h -> h.item(0, 0, 3, 5), -12);
        x.refused("ahead of the first one", h -> h.item(0, 0, -1, 5), -12);
        x.refused("the least", h -> h.item(0, 0, Integer.MIN_VALUE, 5), -12);
        x.refused("the greatest", h -> h.item(0, 0, Integer.MAX_VALUE, 5), -12);
        x.refused("BAD ahead of them", h -> h.item(0, 8, -1, 5), BAD);
        x.both(h -> h.feature(2, 0, 1, 0));
        x.refused("an empty row", h -> h.item(2, 0, 0, 5), -12);
        x.is("the last one", h -> h.item(0, 0, 2, 5), 1);
        x.alike();
    }

    /** 13: "FAILURES 1, 4, 2." In this order. */
    private static void failedItemOf() {
        Twins x = furnished("itemOf");
        x.refused("NOTHING is there", h -> h.itemOf(0, 1, 1, 0), -11);
        x.refused("NOTHING ahead of the place", h -> h.itemOf(0, 1, 3, 99), -11);
        x.refused("another SORT", h -> h.itemOf(0, 0, 2, 0), -14);
        x.refused("another SORT ahead of the place", h -> h.itemOf(0, 0, 3, 99), -14);
        x.refused("behind the last one", h -> h.itemOf(0, 0, 1, 3), -12);
        x.refused("ahead of the first one", h -> h.itemOf(0, 0, 1, -1), -12);
        x.refused("BAD ahead of them: SORT", h -> h.itemOf(0, 1, 4, 0), BAD);
        x.both(h -> h.feature(2, 0, 3, 0));
        x.refused("an empty row", h -> h.itemOf(2, 0, 3, 0), -12);
        x.alike();
    }

    /** 14: "FAILURES 1 (either), 4 (unlike SORTS), 2 (i, j, n below 0, or not so many)." In this order. */
    private static void failedCopy() {
        Twins x = furnished("copy");
        x.refused("NOTHING from", h -> h.copy(0, 1, 0, 101, 0, 0, 1), -11);
        x.refused("NOTHING to", h -> h.copy(0, 0, 0, 101, 1, 0, 1), -11);
        x.refused("NOTHING ahead of the SORTS", h -> h.copy(1, 1, 0, 101, 1, 0, 1), -11);
        x.refused("NOTHING ahead of the places", h -> h.copy(0, 1, -1, 101, 0, -1, -1), -11);
        x.refused("unlike SORTS", h -> h.copy(1, 1, 0, 101, 0, 0, 1), -14);
        x.refused("unlike SORTS ahead of the places", h -> h.copy(1, 1, -1, 101, 0, 0, 9), -14);
        x.refused("i below 0", h -> h.copy(0, 0, -1, 101, 0, 0, 1), -12);
        x.refused("j below 0", h -> h.copy(0, 0, 0, 101, 0, -1, 1), -12);
        x.refused("n below 0", h -> h.copy(0, 0, 1, 101, 0, 1, -1), -12);
        x.refused("not so many from", h -> h.copy(0, 0, 2, 101, 0, 0, 2), -12);
        x.refused("not so many to", h -> h.copy(0, 0, 0, 101, 0, 1, 2), -12);
        x.refused("none, but from behind the end", h -> h.copy(0, 0, 4, 101, 0, 0, 0), -12);
        x.refused("none, but to behind the end", h -> h.copy(0, 0, 0, 101, 0, 3, 0), -12);
        x.refused("i and n running over", h -> h.copy(0, 0, 1, 101, 0, 0, Integer.MAX_VALUE), -12);
        x.refused("n and i running over", h -> h.copy(0, 0, Integer.MAX_VALUE, 101, 0, 0, 1), -12);
        x.refused("j running over", h -> h.copy(0, 0, 0, 101, 0, Integer.MAX_VALUE, 1), -12);
        x.refused("the least i", h -> h.copy(0, 0, Integer.MIN_VALUE, 101, 0, 0, 1), -12);
        x.refused("the least n", h -> h.copy(0, 0, 0, 101, 0, 0, Integer.MIN_VALUE), -12);
        x.refused("BAD ahead of them", h -> h.copy(0, 1, -1, 104, 0, 0, 1), BAD);
        x.is("none at both ends", h -> h.copy(0, 0, 3, 101, 0, 2, 0), 0);
        x.alike();
    }

    /** 16: "NO: the PLACE is it, or in it at any depth." */
    private static void moveIntoItself() {
        Twins x = furnished("move");
        x.refused("into itself", h -> h.move(1, 1), NO);
        x.refused("into what is in it", h -> h.move(1, 2), NO);
        x.is("a deeper one", h -> h.thing(2, NONE), 4);
        x.refused("into what is in that", h -> h.move(1, 4), NO);
        x.both(h -> h.cutOff(4, true));
        x.refused("CUT or not", h -> h.move(1, 4), NO);
        x.refused("BAD ahead of NO: THING 0", h -> h.move(0, 0), BAD);
        x.refused("BAD ahead of NO: a GONE one", h -> h.move(3, 3), BAD);
        x.alike();
    }

    /** 18: "NO: one is in it that is not GONE." */
    private static void dropOfWhatIsNotEmpty() {
        Twins x = furnished("drop");
        x.refused("one is in it", h -> h.drop(1), NO);
        x.refused("BAD: THING 0, in which is one", h -> h.drop(0), BAD);
        x.both(h -> h.cutOff(2, true));
        x.refused("one is in it that is CUT", h -> h.drop(1), NO);
        x.is("that one", h -> h.drop(2), 1);
        x.refused("BAD: that one again", h -> h.drop(2), BAD);
        x.is("with a GONE one in it", h -> h.drop(1), 1);
        x.alike();
    }

    /** 28: "NO: there was none." */
    private static void madeOfNone() {
        Twins x = new Twins(DUE, "made");
        for (int what = 0; what < 4; what++) {
            int w = what;
            x.refused("none yet, " + what, h -> h.made(w), NO);
        }
        x.refused("BAD ahead of NO", h -> h.made(4), BAD);
        x.both(h -> h.person());
        x.refused("an ask() that is BAD is none", h -> h.ask(1, 0, 0), BAD);
        x.refused("still none", h -> h.made(0), NO);
        x.is("an ask()", h -> h.ask(0, 0, 0), 0);
        x.is("that was one", h -> h.made(0), NONE);
        x.alike();
    }

    /** 32: "NO: there was none." */
    private static void comparedOfNone() {
        Twins x = new Twins(DUE, "compared");
        for (int what = 0; what < 6; what++) {
            int w = what;
            x.refused("none yet, " + what, h -> h.compared(w), NO);
        }
        x.refused("BAD ahead of NO", h -> h.compared(6), BAD);
        x.both(h -> Due.policy(h, 0, "yes any r any"));
        x.refused("a compare() that is BAD is none", h -> h.compare(0, 1), BAD);
        x.is("decides() is none", h -> h.decides(0, 0), 0);
        x.refused("still none", h -> h.compared(5), NO);
        x.is("a compare()", h -> h.compare(0, 0), 0);
        x.is("that was one, of no requests", h -> h.compared(5), 0);
        x.is("none differs", h -> h.compared(2), NONE);
        x.alike();
    }

    /** 35: "NO: GIVER". */
    private static void giveByGiver() {
        Twins x = furnished("give by GIVER");
        x.both(h -> h.law(4, 2, 1));
        x.refused("by somebody else", h -> h.give(0, 2, 1, 99), NO);
        x.refused("to oneself", h -> h.give(1, 2, 1, 99), NO);
        x.refused("the LAW", h -> h.broken(), 2);
        x.refused("BAD ahead of NO", h -> h.give(0, 2, 1, 10), BAD);
        x.is("by who BELONGS to the other one", h -> h.give(1, 2, 0, 99), 2);
        x.is("by no LAW", h -> h.broken(), NONE);
        x.alike();
    }

    /** 35: "or a LAW is BROKEN." 4: "and the ROW is not put". */
    private static void giveAgainstALaw() {
        Twins x = furnished("give against a LAW");
        x.both(h -> h.law(0, 0, 2));
        x.both(h -> h.law(2, 1, 1));
        x.both(h -> h.law(3, 2, 1));
        x.refused("APART", h -> h.give(0, 2, 1, 99), NO);
        x.refused("its number", h -> h.broken(), 2);
        x.refused("MOST", h -> h.give(1, 1, 1, 99), NO);
        x.refused("its number, too", h -> h.broken(), 3);
        x.refused("FIRST", h -> h.give(1, 2, 1, 99), NO);
        x.refused("the last number", h -> h.broken(), 4);
        x.refused("BAD ahead of NO", h -> h.give(1, 2, 3, 99), BAD);
        x.refused("BAD is none of them", h -> h.broken(), 4);
        x.is("what breaks none", h -> h.give(0, 1, 1, 99), 2);
        x.is("by none", h -> h.broken(), NONE);
        x.alike();
    }

    /** 36: "NO: GIVER." */
    private static void takeByGiver() {
        Twins x = furnished("take");
        x.both(h -> h.law(4, 0, 1));
        x.refused("by somebody else", h -> h.take(0, 0, 1), NO);
        x.refused("take() is none of broken()'s", h -> h.broken(), NONE);
        x.refused("even if there is none to take", h -> h.take(1, 0, 1), NO);
        x.refused("BAD ahead of NO", h -> h.take(3, 0, 1), BAD);
        x.is("by who BELONGS to the other one", h -> h.take(0, 0, 0), 1);
        x.refused("who BELONGS no more", h -> h.take(0, 0, 0), NO);
        x.alike();
    }

    /** 40: "NO: its PERSON does not BELONG to it". */
    private static void switchOnOfNoMember() {
        Twins x = furnished("switchOn");
        x.both(h -> h.law(0, 0, 1));
        x.both(h -> h.give(0, 0, 0, 99));
        x.is("broken by another call", h -> h.broken(), 2);
        x.refused("not of it", h -> h.switchOn(0, 2), NO);
        x.refused("by no LAW", h -> h.broken(), NONE);
        x.refused("another PERSON", h -> h.switchOn(1, 0), NO);
        x.refused("BAD ahead of NO", h -> h.switchOn(0, 3), BAD);
        x.is("it was on", h -> h.switchOn(0, 0), 0);
        x.is("which no LAW refuses", h -> h.broken(), NONE);
        x.alike();
    }

    /** 40: "a LAW 1 is BROKEN." */
    private static void switchOnAgainstALaw() {
        Twins x = furnished("switchOn against a LAW");
        x.refused("NOT AT ONCE", h -> h.switchOn(0, 1), NO);
        x.refused("its number", h -> h.broken(), 1);
        x.is("not on", h -> h.switchOff(0, 1), 0);
        x.is("the other one is on still", h -> h.switchOff(0, 0), 1);
        x.is("then it may be on", h -> h.switchOn(0, 1), 1);
        x.is("by none", h -> h.broken(), NONE);
        x.refused("and the other one not", h -> h.switchOn(0, 0), NO);
        x.refused("its number again", h -> h.broken(), 1);
        x.is("it was on", h -> h.switchOn(0, 1), 0);
        x.alike();
    }

    /** 48: "NO: it is DONE." */
    private static void nextOfWhatIsDone() {
        Twins x = furnished("next");
        x.is("done", h -> h.perform(0, 1, 0, 9), 1);
        x.refused("by the same PERSON", h -> h.next(0, 1, 0, 9), NO);
        x.refused("by another one, who does not BELONG", h -> h.next(0, 1, 2, 9), NO);
        x.refused("BAD ahead of NO", h -> h.next(0, 1, 3, 9), BAD);
        x.refused("BAD ahead of NO: tries", h -> h.next(0, 1, 0, 0), BAD);
        x.is("TRIES of perform()", h -> h.tries(), 1);
        x.alike();
    }

    /** 49: "BAD, NO likewise." */
    private static void performOfWhatIsDone() {
        Twins x = furnished("perform");
        x.both(h -> h.put(1, 0, 0, 999));
        x.is("done", h -> h.perform(0, 1, 0, 9), 1);
        x.refused("again", h -> h.perform(0, 1, 0, 9), NO);
        x.refused("by another one", h -> h.perform(0, 1, 1, 9), NO);
        x.refused("BAD ahead of NO", h -> h.perform(0, 1, 0, 20001), BAD);
        x.is("fill", h -> h.fill(0, 9), 1);
        x.is("who did it", h -> h.filled(0, 1), 0);
        x.alike();
    }

    /** 52: "NO: it does not STAND for the lender NOW with FURTHER 1 more." */
    private static void lendOfWhatDoesNotStand() {
        Twins x = furnished("lend");
        x.refused("not the lender's", h -> h.lend(2, 0, 0, 1, 99, 0, -1), NO);
        x.refused("another ACT", h -> h.lend(1, 2, 1, 1, 99, 0, -1), NO);
        x.refused("FURTHER as far", h -> h.lend(1, 2, 0, 1, 99, 2, -1), NO);
        x.refused("a THING that is not UNDER it", h -> h.lend(1, 2, 0, 0, 99, 0, -1), NO);
        x.refused("of nobody's THING", h -> h.lend(0, 2, 0, 2, 99, 0, -1), NO);
        x.refused("BAD ahead of NO", h -> h.lend(2, 0, 0, 1, 10, 0, -1), BAD);
        x.is("FURTHER one less", h -> h.lend(1, 2, 0, 2, 99, 1, -1), 1);
        x.both(h -> h.tick(90));
        x.refused("its end is NOW", h -> h.lend(1, 2, 0, 1, 999, 0, -1), NO);
        x.alike();
    }

    /** 53: "NO: it is". */
    private static void endLendOfWhatIsEnded() {
        Twins x = furnished("endLend");
        x.is("taken back", h -> h.endLend(0, 0), 1);
        x.refused("again", h -> h.endLend(0, 0), NO);
        x.refused("by another one", h -> h.endLend(0, 1), NO);
        x.refused("BAD ahead of NO", h -> h.endLend(0, 3), BAD);
        x.alike();
    }

    /** 53: "it is neither who lent it nor the owner of its THING." */
    private static void endLendByAnother() {
        Twins x = furnished("endLend by another");
        x.is("lent on", h -> h.lend(1, 2, 0, 2, 99, 0, -1), 1);
        x.refused("by who has it", h -> h.endLend(1, 2), NO);
        x.refused("by the owner of the PLACE alone", h -> h.endLend(1, 0), NO);
        x.refused("of nobody's THING, by NONE", h -> h.endLend(1, NONE), BAD);
        x.is("it stands", h -> h.stands(2, 0, 2, 10), 1);
        x.is("by who lent it", h -> h.endLend(1, 1), 1);
        x.refused("the first one, by who has it", h -> h.endLend(0, 1), NO);
        x.alike();
    }

    /** 56: "NO: it does not STAND." THE CHAIN is that of the latest one that was not BAD. */
    private static void useOfWhatDoesNotStand() {
        Twins x = furnished("useRight");
        x.refused("not lent", h -> h.useRight(2, 0, 1), NO);
        x.refused("no CHAIN", h -> h.chain(-1), 0);
        x.refused("another ACT", h -> h.useRight(1, 1, 1), NO);
        x.refused("a THING that is not UNDER it", h -> h.useRight(1, 0, 0), NO);
        x.is("used", h -> h.useRight(1, 0, 1), 1);
        x.refused("BAD leaves THE CHAIN", h -> h.useRight(3, 0, 1), BAD);
        x.is("one less", h -> h.lendOf(0, 6), 4);
        x.both(h -> h.tick(90));
        x.refused("its end is NOW", h -> h.useRight(1, 0, 1), NO);
        x.is("none less", h -> h.lendOf(0, 6), 4);
        x.is("at another moment", h -> h.stands(1, 0, 1, 99), 1);
        x.alike();
    }

    /** 62: "NO: it would reach beyond the end of one in which it stands." */
    private static void statementBeyondTheEnd() {
        Twins x = furnished("statement");
        x.is("IF of two", h -> h.statement(2, 0, 2, 0), 2);
        x.refused("IF by one beyond", h -> h.statement(2, 0, 2, 0), NO);
        x.refused("WHILE by one beyond", h -> h.statement(5, 0, 2, 0), NO);
        x.refused("as far as can be told", h -> h.statement(5, 0, 20, 0), NO);
        x.refused("BAD ahead of NO: n", h -> h.statement(5, 0, 21, 0), BAD);
        x.refused("BAD ahead of NO: a", h -> h.statement(5, 10, 2, 0), BAD);
        x.is("up to the end", h -> h.statement(5, 0, 1, 0), 3);
        x.refused("beyond the end of both", h -> h.statement(2, 0, 1, 0), NO);
        x.is("none", h -> h.statement(2, 0, 0, 0), 4);
        x.is("behind the end", h -> h.statement(5, 0, 20, 0), 5);
        x.refused("beyond that", h -> h.statement(2, 0, 20, 0), NO);
        x.is("up to that", h -> h.statement(2, 0, 19, 0), 6);
        x.alike();
    }

    /** 71: "NO: it is refused." 9: "Else it is refused, whatever the numbers." */
    private static void sumThatTells() {
        Twins x = furnished("sum");
        x.refused("of one", h -> h.sum(0, 1), NO);
        x.refused("of one, whose number is 0", h -> h.sum(1, 4), NO);
        x.refused("of what would give one away", h -> h.sum(0, 7), NO);
        x.refused("BAD ahead of NO", h -> h.sum(0, 8), BAD);
        x.is("none is put", h -> h.knows(0, 0), 1);
        x.is("another pair", h -> h.sum(0, 6), 0);
        x.refused("the third pair, by halves alone", h -> h.sum(0, 5), NO);
        x.is("which another ASKER is told", h -> h.sum(1, 5), 5);
        x.alike();
    }

    /** 72: "NO: from both together somebody's number could be worked out." */
    private static void shareThatTells() {
        Twins x = furnished("share");
        x.both(h -> h.sum(1, 7));
        x.both(h -> h.share(1, 2));
        x.refused("would give one away", h -> h.share(0, 1), NO);
        x.refused("the other way", h -> h.share(1, 0), NO);
        x.refused("by who SHARES with it", h -> h.share(2, 0), NO);
        x.refused("BAD ahead of NO", h -> h.share(2, 2), BAD);
        x.is("one who knows nothing", h -> h.share(0, 3), 1);
        x.refused("by that one, too", h -> h.share(3, 2), NO);
        x.is("what they know stays apart", h -> h.knows(3, 0), 1);
        x.alike();
    }

    /** 79: "NO: THE TAPE's length is no multiple of 4, or above 40." */
    private static void halfOfAWrongTape() {
        for (int length = 1; length <= 48; length++) {
            boolean fits = length % 4 == 0 && length <= 40;
            Twins x = new Twins(DUE, "half of " + length + " bytes");
            for (int i = 0; i < length; i++) {
                int last = i == 3 ? 1 : 0;
                x.both(h -> h.feed(1, last));
            }
            if (fits) {
                x.is("taken", h -> h.half(7, 2), 9);
                x.is("and empty", h -> h.cut(0), 0);
            } else {
                x.refused("refused", h -> h.half(7, 2), NO);
                x.refused("BAD ahead of NO", h -> h.half(7, 0), BAD);
                int l = length;
                x.is("as long as it was", h -> h.cut(l), 0);
                x.both(h -> h.cut(l / 4 * 4 > 40 ? 40 : l / 4 * 4));
                x.is("and as it was", h -> h.half(7, 2), l < 4 ? 7 : 9);
            }
            x.alike();
        }
    }

    /** 80: "NO: its length is no multiple of 8, or 0, or above 80; an i not 1 .. 1000, or twice; a HALF not below p." */
    private static void joinedOfAWrongTape() {
        for (int length = 0; length <= 96; length++) {
            boolean fits = length % 8 == 0 && length > 0 && length <= 80;
            int l = length;
            Twins x = new Twins(DUE, "joined of " + length + " bytes");
            for (int i = 0; i < length; i++) {
                int b = i % 8 == 3 ? i / 8 + 1 : i % 8 == 7 ? 5 : 0;
                x.both(h -> h.feed(1, b));
            }
            if (fits) {
                x.is("taken", h -> h.joined(), 5);
                x.is("and empty", h -> h.cut(0), 0);
            } else {
                x.refused("refused", h -> h.joined(), NO);
                x.is("as long as it was", h -> h.cut(l), 0);
            }
            x.alike();
        }
        long[][] wrong = {{0, 5}, {1001, 5}, {0x80000001L, 5}, {0xffffffffL, 5}, {1, 2147483647L}, {1, 2147483648L}, {1, 0xffffffffL},
            {3, 5, 3, 5}, {3, 5, 4, 5, 4, 6}, {1, 5, 2, 5, 0, 5}, {1, 5, 2, 5, 1001, 5}, {1, 5, 2, 5, 3, 2147483647L}};
        for (long[] pairs : wrong) {
            Twins x = new Twins(DUE, "joined of " + java.util.Arrays.toString(pairs));
            x.both(h -> {
                Due.numbers(h, pairs);
                return 0;
            });
            x.refused("refused", h -> h.joined(), NO);
            x.is("as long as it was", h -> h.cut(4 * pairs.length), 0);
            x.alike();
        }
    }
}
