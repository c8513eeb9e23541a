import java.io.IOException;

/** Each sentence of the section 'Terms', with a test of its own at the edges that it names. */
public final class TermsEdgesTest {
    public static void main(String[] args) throws IOException {
        Sentences terms = new Sentences("Terms");
        states(terms);
        transitions(terms);
        effects(terms);
        space(terms);
        claims(terms);
        answers(terms);
        terms.end();
    }

    private static void states(Sentences terms) {
        terms.hold("PROCESSES are 0 to 2,", StateEdges::processes);
        terms.hold("PLACES 0 to 7;", StateEdges::places);
        terms.hold("VARIABLES 0 to 3 have values 0 to 3;", StateEdges::variables);
        terms.hold("the CHANNEL is a row of at most 2 values 0 to 3.", StateEdges::channel);
        terms.hold("A STATE is a PLACE for each PROCESS, a value for each VARIABLE, and a CHANNEL.",
                StateEdges::partsOfAState);
        terms.hold("The FIRST STATE has all PROCESSES at PLACE 0, the VARIABLES with the values that begin said,"
                + " and an empty CHANNEL.", StateEdges::firstState);
    }

    private static void transitions(Sentences terms) {
        terms.hold("TRANSITIONS are numbered 0, 1, .., at most 24.", TransitionEdges::numbers);
        terms.hold("One is of a PROCESS, from a PLACE to a PLACE, with a KIND and numbers a, b (0 to 3).",
                TransitionEdges::kindsAndNumbers);
        terms.hold("It is OPEN in a STATE if its PROCESS is at the PLACE from which it goes,",
                TransitionEdges::placeFrom);
        terms.hold("and, by KIND: 0 PASS;", TransitionEdges::passIsOpen);
        terms.hold("1 IS: if VARIABLE a is b;", TransitionEdges::isOpen);
        terms.hold("2 IS NOT: if it is not b;", TransitionEdges::isNotOpen);
        terms.hold("3 SET; 4 ADD; 5 COPY: always;", TransitionEdges::setAddCopyAreOpen);
        terms.hold("6 SEND: if the CHANNEL has fewer than 2 values;", TransitionEdges::sendIsOpen);
        terms.hold("7 TAKE: if it has some.", TransitionEdges::takeIsOpen);
    }

    private static void effects(Sentences terms) {
        terms.hold("It LEADS TO the STATE in which its PROCESS is at the PLACE to which it goes,",
                TransitionEdges::placeTo);
        terms.hold("and, by KIND: SET: VARIABLE a is b;", TransitionEdges::set);
        terms.hold("ADD: VARIABLE a is the remainder of its value and b by 4;", TransitionEdges::addWrapsAround);
        terms.hold("COPY: VARIABLE a is VARIABLE b;", TransitionEdges::copy);
        terms.hold("SEND: the value of VARIABLE a is the last one of the CHANNEL;", TransitionEdges::send);
        terms.hold("TAKE: VARIABLE a is the first value of the CHANNEL, which leaves it.", TransitionEdges::take);
    }

    private static void space(Sentences terms) {
        terms.hold("THE SPACE: STATES are numbered as they are found: 0 is the FIRST STATE;",
                SpaceEdges::firstIsZero);
        terms.hold("then, for STATE 0, 1, 2, .. in turn, the TRANSITIONS that are OPEN in it, by numbers:",
                SpaceEdges::inTurnAndByNumbers);
        terms.hold("where one LEADS TO a STATE that has no number yet, that gets the next one,",
                SpaceEdges::newOnesAlone);
        terms.hold("and its WAY is that of the STATE from which it was found, and this TRANSITION behind it",
                SpaceEdges::waysGoOn);
        terms.hold("(the WAY of STATE 0 is empty).", SpaceEdges::wayOfZero);
        terms.hold("If a 301st STATE would be found the SPACE is LARGE, and there is none.",
                SpaceEdges::threeHundredAndOne);
        terms.hold("A STATE is STUCK if no TRANSITION is OPEN in it,", SpaceEdges::stuck);
        terms.hold("and DONE if it is STUCK and all PROCESSES are at PLACE 7.", SpaceEdges::done);
    }

    private static void claims(Sentences terms) {
        terms.hold("CLAIMS are numbered 0, 1, .., at most 6, each with a SORT and numbers a, b:",
                ClaimEdges::numbers);
        terms.hold("it FAILS in a STATE: SORT 0: if VARIABLE a (0 to 3) is b (0 to 3).", ClaimEdges::variableIs);
        terms.hold("1: if PROCESS a (0 to 2) is at PLACE b (0 to 7).", ClaimEdges::processAt);
        terms.hold("2: if PROCESSES a and b (0 to 2, different ones) are at the same PLACE.",
                ClaimEdges::samePlace);
        terms.hold("3: if the CHANNEL has a values, or more (a 0 to 2; b is not looked at).",
                ClaimEdges::channelHas);
        terms.hold("4: if VARIABLE a is greater than VARIABLE b.", ClaimEdges::variableGreater);
    }

    private static void answers(Sentences terms) {
        terms.hold("There is one STATE NOW, the FIRST STATE at the beginning;",
                AnswerEdges::stateNowAtTheBeginning);
        terms.hold("one walks by TRANSITIONS, whether there is a SPACE or not.",
                AnswerEdges::walkWithAndWithoutSpace);
        terms.hold("Calls that answer REFUSED, FULL, NONE or LARGE change nothing but what is said;",
                AnswerEdges::allChangeNothing);
        terms.hold("REFUSED is tested first.", AnswerEdges::refusedComesFirst);
        terms.hold("The constants: `REFUSED = -1`: A number is not as said.", AnswerEdges::refusedIs);
        terms.hold("`NONE = -2`: There is no such thing.", AnswerEdges::noneIs);
        terms.hold("`FULL = -3`: There is no room.", AnswerEdges::fullIs);
        terms.hold("`LARGE = -4`: There are too many STATES.", AnswerEdges::largeIs);
    }
}
