/** The words of the document before its description: what the class is, and for how many calls. */
final class OpeningSentences {
    private static final int MOST_CALLS = 512;

    private OpeningSentences() {
    }

    static void all() {
        orderedChoices();
        rulesThatGrow();
        choicesThatAreCutOff();
        remembered();
        justThoseAreForgotten();
        manyCalls();
    }

    private static void orderedChoices() {
        Doc.opening();
        Doc.says("A parser for grammars of ordered choices.");
        MemoParser p = Check.on("ab");
        int a = Check.letter(p, 'a');
        int ab = Check.sequence(p, a, Check.letter(p, 'b'));
        p.define(0, Check.choice(p, a, ab));
        p.define(1, Check.choice(p, ab, a));
        Check.due("the shorter one first", p.parse(0, 0), 1);
        Check.due("the longer one first", p.parse(1, 0), 2);
        p.replace(1, 1, 'c');
        Check.due("only the second one fits", p.parse(1, 0), 1);
    }

    private static void rulesThatGrow() {
        Doc.says("Rules may begin with themselves; their results then grow.");
        MemoParser p = Check.on("aaaa");
        int a = Check.letter(p, 'a');
        p.define(0, Check.choice(p, Check.sequence(p, p.rule(0), a), a));
        Check.due("it begins with itself", p.isLeftRecursive(0), true);
        Check.due("as far as it grows", p.parse(0, 0), 4);
        Check.due("its growths", p.growths(), 4);
    }

    private static void choicesThatAreCutOff() {
        Doc.says("Choices can be cut off.");
        MemoParser p = Check.on("ac");
        int a = Check.letter(p, 'a');
        int b = Check.letter(p, 'b');
        int c = Check.letter(p, 'c');
        int behindCut = Check.sequence(p, a, Check.sequence(p, p.plain(1), b));
        p.define(0, Check.choice(p, behindCut, Check.sequence(p, a, c)));
        Check.due("the second one would fit", p.parse(0, 0), -1);
        p.define(0, Check.choice(p, Check.sequence(p, a, b), Check.sequence(p, a, c)));
        Check.due("without the cut it does", p.parse(0, 0), 2);
    }

    private static void remembered() {
        Doc.says("Results of rules are remembered,");
        MemoParser p = Check.on("ab");
        p.define(3, Check.letter(p, 'a'));
        p.parse(3, 0);
        p.parse(3, 1);
        Check.due("a success and a failure", p.remembered(), 2);
        Check.due("the success", p.result(3, 0), 1);
        Check.due("the failure", p.result(3, 1), -1);
        p.parse(3, 0);
        Check.due("nothing is looked for again", p.work(), 0);
    }

    private static void justThoseAreForgotten() {
        Doc.says("and when the text is edited, just those are forgotten that have looked at what was changed.");
        for (int changed = 0; changed < 5; changed++) {
            MemoParser p = Check.on("abcde");
            int any = p.range('a', 'z');
            p.define(0, any);
            p.define(1, Check.sequence(p, any, Check.not(p, any)));
            for (int place = 0; place < 5; place++) {
                p.parse(0, place);
                p.parse(1, place);
            }
            // Rule 0 looks at its place alone, rule 1 at the next one, too; at the first place none does.
            Check.due("a change at " + changed, p.replace(changed, 1, 'x'), changed == 0 ? 2 : 3);
            for (int place = 0; place < 5; place++) {
                Check.due("rule 0 at " + place + ", changed " + changed, p.result(0, place) == -3, place == changed);
                Check.due("rule 1 at " + place + ", changed " + changed, p.result(1, place) == -3,
                        place == changed || place + 1 == changed);
            }
        }
    }

    /** The dearest calls, until the object has had as many as it may. */
    private static void manyCalls() {
        Doc.says("An object is used for at most 512 calls after it has been made;");
        Doc.says("what later calls answer is free.");
        MemoParser p = new MemoParser();
        p.define(0, Check.fiveThousand(p));
        int calls = p.expressionCount() + 2;
        while (calls + 4 <= MOST_CALLS) {
            Check.due("parse behind " + calls + " calls", p.parse(0, 0), 0);
            Check.due("work behind " + calls + " calls", p.work(), 5000);
            Check.due("forget behind " + calls + " calls", p.forget(), 1);
            Check.due("hits behind " + calls + " calls", p.hits(), 0);
            calls += 4;
        }
    }
}
