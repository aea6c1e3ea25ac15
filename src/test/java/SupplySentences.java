/** The sentences that promises 7 to 9 rest on: terms, spread and store. */
final class SupplySentences {
    static void runAll() {
        Check.each(
                SupplySentences::setTermsSets, SupplySentences::setTermsIsUndoable,
                SupplySentences::setTermsPriority, SupplySentences::setTermsTrigger, SupplySentences::setTermsLimit,
                SupplySentences::setTermsCredit, SupplySentences::setTermsReturnsTheTrigger,
                SupplySentences::setTermsRefusesNumbers, SupplySentences::setTermsRefusesRanges,
                SupplySentences::termsOfTheDescription, SupplySentences::setSpreadSets,
                SupplySentences::setSpreadIsUndoable, SupplySentences::spreadRange,
                SupplySentences::setSpreadReturnsTheSpread, SupplySentences::setSpreadRefusesRanges,
                SupplySentences::deliverDelivers, SupplySentences::deliverIsUndoable,
                SupplySentences::kilogramsRange, SupplySentences::deliverReturnsTheStore,
                SupplySentences::deliverRefusesRanges, SupplySentences::deliverRefusesTooMuch,
                SupplySentences::storeRange);
    }

    private static void setTermsSets() {
        Check.sentence(7, "Sets the terms of a priority.");
        SnowRounds x = Towns.oneStreet(100, 1);
        x.run(0, 40, 8);
        Check.equal("two complaints", Snapshot.terms(x, 1), " 40 6 20 2");
        x.setTerms(1, 7, 9, 11);
        Check.equal("terms of 1", Snapshot.terms(x, 1), " 7 9 11 2");
        Check.equal("terms of 0", Snapshot.terms(x, 0), " 20 3 30 0");
        Check.equal("terms of 2", Snapshot.terms(x, 2), " 60 12 10 0");
        Check.equal("the new limit", x.run(0, 0, 1), 0);
        Check.equal("the new credit", x.run(0, 0, 1), 11);
    }

    private static void setTermsIsUndoable() {
        Check.sentence(7, "Undoable.");
        SnowRounds x = new SnowRounds();
        Check.undoable("to other terms", x, () -> x.setTerms(0, 1, 2, 3));
        Check.undoable("to the same terms", x, () -> x.setTerms(2, 60, 12, 10));
    }

    private static void setTermsPriority() {
        Check.sentence(7, "`priority`: 0 to 2");
        SnowRounds x = new SnowRounds();
        for (int priority = 0; priority <= 2; priority++) {
            x.setTerms(priority, 100 + priority, 10 + priority, 500 + priority);
        }
        for (int priority = 0; priority <= 2; priority++) {
            Check.equal("trigger depth of " + priority, x.terms(priority, 0), 100 + priority);
            Check.equal("limit of " + priority, x.terms(priority, 1), 10 + priority);
            Check.equal("credit of " + priority, x.terms(priority, 2), 500 + priority);
        }
        Check.refusedWith("priority", new int[] {-1, 3}, x, Check.INDEX, v -> x.setTerms(v, 1, 1, 1));
    }

    private static void setTermsTrigger() {
        Check.sentence(7, "`trigger`: 1 to 200");
        SnowRounds x = new SnowRounds();
        for (int trigger : new int[] {1, 2, 199, 200}) {
            x.setTerms(0, trigger, 1, 1);
            Check.equal("trigger depth", x.terms(0, 0), trigger);
        }
        Check.refusedWith("trigger", new int[] {-1, 0, 201}, x, Check.ARGUMENT, v -> x.setTerms(0, v, 1, 1));
    }

    private static void setTermsLimit() {
        Check.sentence(7, "`limit`: 1 to 48");
        SnowRounds x = new SnowRounds();
        for (int limit : new int[] {1, 2, 47, 48}) {
            x.setTerms(0, 1, limit, 1);
            Check.equal("limit", x.terms(0, 1), limit);
        }
        Check.refusedWith("limit", new int[] {-1, 0, 49}, x, Check.ARGUMENT, v -> x.setTerms(0, 1, v, 1));
    }

    private static void setTermsCredit() {
        Check.sentence(7, "`credit`: 0 to 1000");
        SnowRounds x = new SnowRounds();
        for (int credit : new int[] {0, 1, 999, 1000}) {
            x.setTerms(0, 1, 1, credit);
            Check.equal("credit", x.terms(0, 2), credit);
        }
        Check.refusedWith("credit", new int[] {-1, 1001}, x, Check.ARGUMENT, v -> x.setTerms(0, 1, 1, v));
    }

    private static void setTermsReturnsTheTrigger() {
        Check.sentence(7, "Returns the previous trigger depth.");
        SnowRounds x = new SnowRounds();
        Check.equal("the first of 0", x.setTerms(0, 200, 1, 1), 20);
        Check.equal("the first of 1", x.setTerms(1, 3, 2, 1), 40);
        Check.equal("the first of 2", x.setTerms(2, 5, 3, 1), 60);
        Check.equal("the next of 0", x.setTerms(0, 1, 1, 1), 200);
        Check.equal("the same of 0", x.setTerms(0, 1, 1, 1), 1);
        x.undo();
        x.undo();
        Check.equal("after two undos", x.setTerms(0, 9, 1, 1), 200);
    }

    private static void setTermsRefusesNumbers() {
        Check.sentence(7, "Throws `IndexOutOfBoundsException` if there is no such priority");
        SnowRounds x = new SnowRounds();
        Check.refused("priority -1", x, Check.INDEX, () -> x.setTerms(-1, 20, 3, 30));
        Check.refused("priority 3", x, Check.INDEX, () -> x.setTerms(3, 20, 3, 30));
        Check.equal("priority 2", x.setTerms(2, 20, 3, 30), 60);
    }

    private static void setTermsRefusesRanges() {
        Check.sentence(7, "Throws `IllegalArgumentException` if another argument is out of range");
        SnowRounds x = new SnowRounds();
        for (int priority = 0; priority <= 2; priority++) {
            int p = priority;
            Check.refused("trigger 0 of " + p, x, Check.ARGUMENT, () -> x.setTerms(p, 0, 1, 0));
            Check.refused("limit 49 of " + p, x, Check.ARGUMENT, () -> x.setTerms(p, 200, 49, 1000));
            Check.refused("credit -1 of " + p, x, Check.ARGUMENT, () -> x.setTerms(p, 1, 48, -1));
            Check.refused("all wrong of " + p, x, Check.ARGUMENT, () -> x.setTerms(p, 201, 0, 1001));
        }
        Check.equal("all at their ends", x.setTerms(0, 200, 48, 1000), 20);
    }

    private static void termsOfTheDescription() {
        Check.sentence(7, "Each priority has a trigger depth, 1 to 200 (initially 20, 40 and 60), a limit, 1 to 48"
                + " hours (initially 3, 6 and 12), and a credit, 0 to 1000 (initially 30, 20 and 10).");
        SnowRounds x = new SnowRounds();
        x.setTerms(0, 1, 1, 0);
        x.setTerms(1, 200, 48, 1000);
        Check.equal("the least", Snapshot.terms(x, 0), " 1 1 0 0");
        Check.equal("the greatest", Snapshot.terms(x, 1), " 200 48 1000 0");
        Check.equal("those that nobody set", Snapshot.terms(x, 2), " 60 12 10 0");
    }

    private static void setSpreadSets() {
        Check.sentence(8, "Sets the spread.");
        SnowRounds x = Towns.oneRoute(1000, 1000, 100);
        x.setSpread(33);
        Check.equal("the spread", Snapshot.values(x), " 0 1 1 1000 33 0 0 0 1000 0");
        x.run(0, 20, 1);
        Check.equal("what is used", x.value(9), 33);
    }

    private static void setSpreadIsUndoable() {
        Check.sentence(8, "Undoable.");
        SnowRounds x = new SnowRounds();
        Check.undoable("to another spread", x, () -> x.setSpread(50));
        Check.undoable("to the same spread", x, () -> x.setSpread(10));
    }

    private static void spreadRange() {
        SnowRounds x = new SnowRounds();
        Check.sentence(8, "`spread`: 0 to 50");
        for (int spread : new int[] {0, 1, 49, 50}) {
            x.setSpread(spread);
            Check.equal("the spread", x.value(4), spread);
        }
        Check.refusedWith("spread", new int[] {-1, 51}, x, Check.ARGUMENT, v -> x.setSpread(v));
        Check.sentence(8, "The spread is 0 to 50 grams for each meter, initially 10.");
        Check.equal("the initial one", new SnowRounds().setSpread(0), 10);
        Check.equal("the least", x.setSpread(0), 50);
        Check.equal("the greatest", x.setSpread(50), 0);
        Check.refused("more", x, Check.ARGUMENT, () -> x.setSpread(51));
    }

    private static void setSpreadReturnsTheSpread() {
        Check.sentence(8, "Returns the previous spread.");
        SnowRounds x = new SnowRounds();
        Check.equal("the first", x.setSpread(0), 10);
        Check.equal("the next", x.setSpread(50), 0);
        Check.equal("the same", x.setSpread(50), 50);
        x.undo();
        x.undo();
        Check.equal("after two undos", x.setSpread(1), 0);
    }

    private static void setSpreadRefusesRanges() {
        Check.sentence(8, "Throws `IllegalArgumentException` if spread is out of range");
        SnowRounds x = new SnowRounds();
        x.setSpread(50);
        Check.refusedWith("spread", new int[] {-50, -1, 51, 100}, x, Check.ARGUMENT, v -> x.setSpread(v));
        Check.equal("the spread stays", x.value(4), 50);
    }

    private static void deliverDelivers() {
        Check.sentence(9, "Delivers salt to the store.");
        SnowRounds x = new SnowRounds();
        x.deliver(250);
        Check.equal("the store and what was delivered", Snapshot.values(x), " 0 0 0 1250 10 0 0 0 1250 0");
        x.deliver(0);
        Check.equal("nothing more", Snapshot.values(x), " 0 0 0 1250 10 0 0 0 1250 0");
        x.deliver(1);
        Check.equal("one kilogram more", Snapshot.values(x), " 0 0 0 1251 10 0 0 0 1251 0");
    }

    private static void deliverIsUndoable() {
        Check.sentence(9, "Undoable.");
        SnowRounds x = new SnowRounds();
        Check.undoable("some salt", x, () -> x.deliver(99000));
        Check.undoable("no salt", x, () -> x.deliver(0));
    }

    private static SnowRounds withEmptyStore() {
        SnowRounds x = Towns.oneRoute(10, 100, 5000);
        x.run(0, 0, 1);
        Check.equal("the plow has the salt", x.value(3), 0);
        return x;
    }

    private static void kilogramsRange() {
        Check.sentence(9, "`kilograms`: 0 to 100000");
        SnowRounds x = withEmptyStore();
        Check.equal("nothing", x.deliver(0), 0);
        Check.equal("one", x.deliver(1), 1);
        x.undo();
        Check.equal("99999", x.deliver(99999), 99999);
        x.undo();
        Check.equal("100000", x.deliver(100000), 100000);
        x.undo();
        Check.refusedWith("kilograms", new int[] {-1, 100001}, x, Check.ARGUMENT, v -> x.deliver(v));
    }

    private static void deliverReturnsTheStore() {
        Check.sentence(9, "Returns what the store has then.");
        SnowRounds x = new SnowRounds();
        Check.equal("with the first salt", x.deliver(0), 1000);
        Check.equal("with more", x.deliver(25), 1025);
        Check.equal("the same", x.value(3), 1025);
        SnowRounds y = withEmptyStore();
        Check.equal("without the first salt", y.deliver(25), 25);
        Check.equal("all that was delivered", y.value(8), 1025);
    }

    private static void deliverRefusesRanges() {
        Check.sentence(9, "Throws `IllegalArgumentException` if kilograms is out of range");
        SnowRounds x = new SnowRounds();
        Check.refusedWith("kilograms", new int[] {-1000, -1, 100001, Integer.MAX_VALUE - 1000}, x, Check.ARGUMENT,
                v -> x.deliver(v));
        SnowRounds y = withEmptyStore();
        Check.refused("100001 to an empty store", y, Check.ARGUMENT, () -> y.deliver(100001));
    }

    private static void deliverRefusesTooMuch() {
        Check.sentence(9, "Throws `IllegalStateException` if it would have more than 100000");
        SnowRounds x = new SnowRounds();
        Check.refused("99001 to 1000", x, Check.STATE, () -> x.deliver(99001));
        Check.refused("100000 to 1000", x, Check.STATE, () -> x.deliver(100000));
        Check.equal("99000 to 1000", x.deliver(99000), 100000);
        Check.refused("1 to 100000", x, Check.STATE, () -> x.deliver(1));
        Check.equal("0 to 100000", x.deliver(0), 100000);
        SnowRounds y = withEmptyStore();
        y.deliver(100000);
        y.run(0, 0, 1);
        Check.equal("the plow has taken 4000", y.value(3), 96000);
        Check.refused("4001 to 96000", y, Check.STATE, () -> y.deliver(4001));
        Check.equal("4000 to 96000", y.deliver(4000), 100000);
        Check.equal("more than 100000 can be delivered in all", y.value(8), 105000);
    }

    private static void storeRange() {
        Check.sentence(9, "The store has 0 to 100000 kilograms, initially 1000.");
        SnowRounds x = new SnowRounds();
        Check.equal("initially", x.deliver(0), 1000);
        Check.equal("full", x.deliver(99000), 100000);
        Check.refused("more", x, Check.STATE, () -> x.deliver(1));
        SnowRounds y = withEmptyStore();
        y.run(0, 0, 1);
        Check.equal("never less than nothing", y.value(3), 0);
        Check.equal("the plow cannot load it twice", y.plow(0, 2), 1000);
    }

    private SupplySentences() {
    }
}
